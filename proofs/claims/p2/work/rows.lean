section
-- ===== PART A: goes FIRST, ahead of the names: the tables' words, and 'selects' of the private methods out of them =====
/-- a private method of a class that the tables say can be made, by its rows of tables_1 -/
def lw_okq (q : MethodName × Nat) : Prop := (q.1.cls ≠ "java/lang/invoke/MethodHandle" ∧ q.1.cls ≠ "java/lang/invoke/VarHandle") ∧ Cond.instantiable q.1.cls q.2 ∈ tables_1 ∧ Cond.privateMethod q.1 ∈ tables_1 ∧ Cond.instanceMethod q.1 ∈ tables_1
theorem lw_p0 : lw_okq (⟨"LedgerShares$Run", "prepare", "(II)V"⟩, 13) := ⟨⟨by decide +kernel, by decide +kernel⟩, List.mem_of_getElem? (i := 54) (by decide +kernel), List.mem_of_getElem? (i := 235) (by decide +kernel), List.mem_of_getElem? (i := 236) (by decide +kernel)⟩
theorem lw_p1 : lw_okq (⟨"LedgerShares$Run", "takeTurn", "(I)V"⟩, 13) := ⟨⟨by decide +kernel, by decide +kernel⟩, List.mem_of_getElem? (i := 54) (by decide +kernel), List.mem_of_getElem? (i := 255) (by decide +kernel), List.mem_of_getElem? (i := 256) (by decide +kernel)⟩
theorem lw_p2 : lw_okq (⟨"LedgerShares$Run", "takeCall", "(I)V"⟩, 13) := ⟨⟨by decide +kernel, by decide +kernel⟩, List.mem_of_getElem? (i := 54) (by decide +kernel), List.mem_of_getElem? (i := 260) (by decide +kernel), List.mem_of_getElem? (i := 261) (by decide +kernel)⟩
theorem lw_p3 : lw_okq (⟨"LedgerShares$Sheet", "hasEnded", "(I)Z"⟩, 14) := ⟨⟨by decide +kernel, by decide +kernel⟩, List.mem_of_getElem? (i := 84) (by decide +kernel), List.mem_of_getElem? (i := 293) (by decide +kernel), List.mem_of_getElem? (i := 294) (by decide +kernel)⟩
theorem lw_p4 : lw_okq (⟨"LedgerShares$Sheet", "work", "(I)V"⟩, 14) := ⟨⟨by decide +kernel, by decide +kernel⟩, List.mem_of_getElem? (i := 84) (by decide +kernel), List.mem_of_getElem? (i := 301) (by decide +kernel), List.mem_of_getElem? (i := 302) (by decide +kernel)⟩
theorem lw_p5 : lw_okq (⟨"LedgerShares$Sheet", "giveB", "(IJ)V"⟩, 14) := ⟨⟨by decide +kernel, by decide +kernel⟩, List.mem_of_getElem? (i := 84) (by decide +kernel), List.mem_of_getElem? (i := 305) (by decide +kernel), List.mem_of_getElem? (i := 306) (by decide +kernel)⟩
theorem lw_p6 : lw_okq (⟨"LedgerShares$Sheet", "pay", "(IJJJ)V"⟩, 14) := ⟨⟨by decide +kernel, by decide +kernel⟩, List.mem_of_getElem? (i := 84) (by decide +kernel), List.mem_of_getElem? (i := 309) (by decide +kernel), List.mem_of_getElem? (i := 310) (by decide +kernel)⟩
theorem lw_p7 : lw_okq (⟨"LedgerShares$Sheet", "failUnless", "(IZ)V"⟩, 14) := ⟨⟨by decide +kernel, by decide +kernel⟩, List.mem_of_getElem? (i := 84) (by decide +kernel), List.mem_of_getElem? (i := 313) (by decide +kernel), List.mem_of_getElem? (i := 314) (by decide +kernel)⟩
theorem lw_p8 : lw_okq (⟨"LedgerShares$Sheet", "giveA", "(IJ)V"⟩, 14) := ⟨⟨by decide +kernel, by decide +kernel⟩, List.mem_of_getElem? (i := 84) (by decide +kernel), List.mem_of_getElem? (i := 317) (by decide +kernel), List.mem_of_getElem? (i := 318) (by decide +kernel)⟩
theorem lw_p9 : lw_okq (⟨"LedgerShares$Sheet", "meet", "(IZJ)V"⟩, 14) := ⟨⟨by decide +kernel, by decide +kernel⟩, List.mem_of_getElem? (i := 84) (by decide +kernel), List.mem_of_getElem? (i := 321) (by decide +kernel), List.mem_of_getElem? (i := 322) (by decide +kernel)⟩
theorem lw_p10 : lw_okq (⟨"LedgerShares$Run", "keepWhatStands", "()V"⟩, 13) := ⟨⟨by decide +kernel, by decide +kernel⟩, List.mem_of_getElem? (i := 54) (by decide +kernel), List.mem_of_getElem? (i := 325) (by decide +kernel), List.mem_of_getElem? (i := 326) (by decide +kernel)⟩
theorem lw_p11 : lw_okq (⟨"LedgerShares", "isCall", "(I)Z"⟩, 7) := ⟨⟨by decide +kernel, by decide +kernel⟩, List.mem_of_getElem? (i := 9) (by decide +kernel), List.mem_of_getElem? (i := 354) (by decide +kernel), List.mem_of_getElem? (i := 355) (by decide +kernel)⟩
theorem lw_p12 : lw_okq (⟨"LedgerShares", "wasInLatest", "(I)Z"⟩, 7) := ⟨⟨by decide +kernel, by decide +kernel⟩, List.mem_of_getElem? (i := 9) (by decide +kernel), List.mem_of_getElem? (i := 358) (by decide +kernel), List.mem_of_getElem? (i := 359) (by decide +kernel)⟩
theorem lw_p13 : lw_okq (⟨"LedgerSharesModel", "goes", "(IIII)Z"⟩, 38) := ⟨⟨by decide +kernel, by decide +kernel⟩, List.mem_of_getElem? (i := 395) (by decide +kernel), List.mem_of_getElem? (i := 537) (by decide +kernel), List.mem_of_getElem? (i := 538) (by decide +kernel)⟩
theorem lw_p14 : lw_okq (⟨"LedgerSharesModel", "begin", "(II)V"⟩, 38) := ⟨⟨by decide +kernel, by decide +kernel⟩, List.mem_of_getElem? (i := 395) (by decide +kernel), List.mem_of_getElem? (i := 541) (by decide +kernel), List.mem_of_getElem? (i := 542) (by decide +kernel)⟩
theorem lw_p15 : lw_okq (⟨"LedgerSharesModel", "turnOf", "(II)I"⟩, 38) := ⟨⟨by decide +kernel, by decide +kernel⟩, List.mem_of_getElem? (i := 395) (by decide +kernel), List.mem_of_getElem? (i := 546) (by decide +kernel), List.mem_of_getElem? (i := 547) (by decide +kernel)⟩
def lw_privs_1 : List (MethodName × Nat) := [(⟨"LedgerShares$Run", "prepare", "(II)V"⟩, 13), (⟨"LedgerShares$Run", "takeTurn", "(I)V"⟩, 13), (⟨"LedgerShares$Run", "takeCall", "(I)V"⟩, 13), (⟨"LedgerShares$Sheet", "hasEnded", "(I)Z"⟩, 14), (⟨"LedgerShares$Sheet", "work", "(I)V"⟩, 14), (⟨"LedgerShares$Sheet", "giveB", "(IJ)V"⟩, 14), (⟨"LedgerShares$Sheet", "pay", "(IJJJ)V"⟩, 14), (⟨"LedgerShares$Sheet", "failUnless", "(IZ)V"⟩, 14), (⟨"LedgerShares$Sheet", "giveA", "(IJ)V"⟩, 14), (⟨"LedgerShares$Sheet", "meet", "(IZJ)V"⟩, 14), (⟨"LedgerShares$Run", "keepWhatStands", "()V"⟩, 13), (⟨"LedgerShares", "isCall", "(I)Z"⟩, 7), (⟨"LedgerShares", "wasInLatest", "(I)Z"⟩, 7), (⟨"LedgerSharesModel", "goes", "(IIII)Z"⟩, 38), (⟨"LedgerSharesModel", "begin", "(II)V"⟩, 38), (⟨"LedgerSharesModel", "turnOf", "(II)I"⟩, 38)]
theorem lw_r1 : ∀ q ∈ lw_privs_1, lw_okq q := List.forall_mem_cons.mpr ⟨lw_p0, List.forall_mem_cons.mpr ⟨lw_p1, List.forall_mem_cons.mpr ⟨lw_p2, List.forall_mem_cons.mpr ⟨lw_p3, List.forall_mem_cons.mpr ⟨lw_p4, List.forall_mem_cons.mpr ⟨lw_p5, List.forall_mem_cons.mpr ⟨lw_p6, List.forall_mem_cons.mpr ⟨lw_p7, List.forall_mem_cons.mpr ⟨lw_p8, List.forall_mem_cons.mpr ⟨lw_p9, List.forall_mem_cons.mpr ⟨lw_p10, List.forall_mem_cons.mpr ⟨lw_p11, List.forall_mem_cons.mpr ⟨lw_p12, List.forall_mem_cons.mpr ⟨lw_p13, List.forall_mem_cons.mpr ⟨lw_p14, List.forall_mem_cons.mpr ⟨lw_p15, fun _ h => absurd h List.not_mem_nil⟩⟩⟩⟩⟩⟩⟩⟩⟩⟩⟩⟩⟩⟩⟩⟩
theorem lw_p16 : lw_okq (⟨"LedgerSharesModel", "step", "(I)V"⟩, 38) := ⟨⟨by decide +kernel, by decide +kernel⟩, List.mem_of_getElem? (i := 395) (by decide +kernel), List.mem_of_getElem? (i := 550) (by decide +kernel), List.mem_of_getElem? (i := 551) (by decide +kernel)⟩
theorem lw_p17 : lw_okq (⟨"LedgerSharesModel", "work", "(I)V"⟩, 38) := ⟨⟨by decide +kernel, by decide +kernel⟩, List.mem_of_getElem? (i := 395) (by decide +kernel), List.mem_of_getElem? (i := 554) (by decide +kernel), List.mem_of_getElem? (i := 555) (by decide +kernel)⟩
theorem lw_p18 : lw_okq (⟨"LedgerSharesModel", "openOne", "(II)I"⟩, 38) := ⟨⟨by decide +kernel, by decide +kernel⟩, List.mem_of_getElem? (i := 395) (by decide +kernel), List.mem_of_getElem? (i := 558) (by decide +kernel), List.mem_of_getElem? (i := 559) (by decide +kernel)⟩
theorem lw_p19 : lw_okq (⟨"LedgerSharesModel", "take", "(III)V"⟩, 38) := ⟨⟨by decide +kernel, by decide +kernel⟩, List.mem_of_getElem? (i := 395) (by decide +kernel), List.mem_of_getElem? (i := 562) (by decide +kernel), List.mem_of_getElem? (i := 563) (by decide +kernel)⟩
theorem lw_p20 : lw_okq (⟨"LedgerSharesModel", "reads", "(II)J"⟩, 38) := ⟨⟨by decide +kernel, by decide +kernel⟩, List.mem_of_getElem? (i := 395) (by decide +kernel), List.mem_of_getElem? (i := 566) (by decide +kernel), List.mem_of_getElem? (i := 567) (by decide +kernel)⟩
theorem lw_p21 : lw_okq (⟨"LedgerSharesModel", "keep", "(III)I"⟩, 38) := ⟨⟨by decide +kernel, by decide +kernel⟩, List.mem_of_getElem? (i := 395) (by decide +kernel), List.mem_of_getElem? (i := 570) (by decide +kernel), List.mem_of_getElem? (i := 571) (by decide +kernel)⟩
theorem lw_p22 : lw_okq (⟨"LedgerSharesModel", "underWay", "(I)I"⟩, 38) := ⟨⟨by decide +kernel, by decide +kernel⟩, List.mem_of_getElem? (i := 395) (by decide +kernel), List.mem_of_getElem? (i := 574) (by decide +kernel), List.mem_of_getElem? (i := 575) (by decide +kernel)⟩
theorem lw_p23 : lw_okq (⟨"LedgerSharesModel", "isOfRun", "(I)Z"⟩, 38) := ⟨⟨by decide +kernel, by decide +kernel⟩, List.mem_of_getElem? (i := 395) (by decide +kernel), List.mem_of_getElem? (i := 592) (by decide +kernel), List.mem_of_getElem? (i := 593) (by decide +kernel)⟩
def lw_privs_2 : List (MethodName × Nat) := [(⟨"LedgerSharesModel", "step", "(I)V"⟩, 38), (⟨"LedgerSharesModel", "work", "(I)V"⟩, 38), (⟨"LedgerSharesModel", "openOne", "(II)I"⟩, 38), (⟨"LedgerSharesModel", "take", "(III)V"⟩, 38), (⟨"LedgerSharesModel", "reads", "(II)J"⟩, 38), (⟨"LedgerSharesModel", "keep", "(III)I"⟩, 38), (⟨"LedgerSharesModel", "underWay", "(I)I"⟩, 38), (⟨"LedgerSharesModel", "isOfRun", "(I)Z"⟩, 38)]
theorem lw_r2 : ∀ q ∈ lw_privs_2, lw_okq q := List.forall_mem_cons.mpr ⟨lw_p16, List.forall_mem_cons.mpr ⟨lw_p17, List.forall_mem_cons.mpr ⟨lw_p18, List.forall_mem_cons.mpr ⟨lw_p19, List.forall_mem_cons.mpr ⟨lw_p20, List.forall_mem_cons.mpr ⟨lw_p21, List.forall_mem_cons.mpr ⟨lw_p22, List.forall_mem_cons.mpr ⟨lw_p23, fun _ h => absurd h List.not_mem_nil⟩⟩⟩⟩⟩⟩⟩⟩
def lw_privs : List (MethodName × Nat) := lw_privs_1 ++ (lw_privs_2)
def lw_tbl : List Cond := k2_sels lw_privs ++ tables_1
theorem lw_privs_ok : ∀ q ∈ lw_privs, lw_okq q := by
  show ∀ q ∈ lw_privs_1 ++ (lw_privs_2), lw_okq q
  exact List.forall_mem_append.mpr ⟨lw_r1, lw_r2⟩
/-! ===== BEGIN words of one list among another's, by their places ===== -/
theorem goodIn_r {big : List Cond} (ws : List Cond) (ps : List Nat) (hp : ws = ps.filterMap (fun i => big[i]?)) (h : ws.all goodWord = true) : GoodIn big ws := by
  intro w hw
  have h1 := List.all_eq_true.mp h w hw
  rw [hp] at hw
  obtain ⟨i, -, hi⟩ := List.mem_filterMap.mp hw
  have hm : w ∈ big := by first | exact List.mem_of_getElem? hi | exact List.getElem?_mem hi
  exact ⟨hm, good_of_word h1⟩
theorem goodIn_app {big a b : List Cond} (ha : GoodIn big a) (hb : GoodIn big b) : GoodIn big (a ++ b) := fun w h => (List.mem_append.mp h).elim (ha w) (hb w)
theorem goodIn_ca {big a b : List Cond} {c : Cond} (ha : GoodIn big (c :: a)) (hb : GoodIn big b) : GoodIn big (c :: (a ++ b)) := fun w h => (List.mem_cons.mp h).elim (fun e => ha w (List.mem_cons.mpr (Or.inl e))) (fun h => (List.mem_append.mp h).elim (fun h => ha w (List.mem_cons.mpr (Or.inr h))) (hb w))
theorem goodIn_sub {big ws : List Cond} (hm : ∀ w ∈ ws, w ∈ big) (h : ws.all goodWord = true) : GoodIn big ws := fun w hw => ⟨hm w hw, good_of_word (List.all_eq_true.mp h w hw)⟩
/-! ===== END ===== -/

/-! ===== BEGIN printed: names, fields, word lists, decode rows ===== -/
def RX0 : String := "LedgerShares$Book"
def TX0 : u_T := fun k => match k with
  | 0 => ("LedgerShares$Book", "size", "I", false)
  | 1 => ("LedgerShares$Book", "ops", "[I", true)
  | 2 => ("LedgerShares$Book", "as", "[I", true)
  | 3 => ("LedgerShares$Book", "bs", "[I", true)
  | 4 => ("LedgerShares$Book", "cs", "[I", true)
  | 5 => ("LedgerShares$Book", "steps", "[I", true)
  | _ => ("LedgerShares$Book", "goneAt", "[I", true)
def tyX0 : Nat → FieldType := fun k => match k with
  | 0 => .int
  | 1 => .array .int
  | 2 => .array .int
  | 3 => .array .int
  | 4 => .array .int
  | 5 => .array .int
  | _ => .array .int
abbrev wsX00 : List Cond := u_ws RX0 TX0 7
theorem nmX0 : ∀ a, a < 7 → ∀ b, b < 7 → a ≠ b → (TX0 a).2.1 ≠ (TX0 b).2.1 := by decide +kernel
theorem tyX0_ok : ∀ k, k < 7 → parseFieldDescriptor (TX0 k).2.2.1 = some (tyX0 k) := by decide +kernel
abbrev cX0_init : ByteArray := prog_2_method_1_code
def yX0_init : MethodName := ⟨RX0, "<init>", "()V"⟩
abbrev cX0_enter : ByteArray := prog_2_method_2_code
def yX0_enter : MethodName := ⟨RX0, "enter", "(IIIII)I"⟩
def RX1 : String := "LedgerShares$Crew"
def TX1 : u_T := fun k => match k with
  | 0 => ("LedgerShares$Crew", "seed", "I", false)
  | 1 => ("LedgerShares$Crew", "left", "I", false)
  | 2 => ("LedgerShares$Crew", "present", "[I", true)
  | 3 => ("LedgerShares$Crew", "holds", "[I", true)
  | _ => ("LedgerShares$Crew", "begins", "[I", true)
def tyX1 : Nat → FieldType := fun k => match k with
  | 0 => .int
  | 1 => .int
  | 2 => .array .int
  | 3 => .array .int
  | _ => .array .int
abbrev wsX10 : List Cond := u_ws RX1 TX1 5
theorem nmX1 : ∀ a, a < 5 → ∀ b, b < 5 → a ≠ b → (TX1 a).2.1 ≠ (TX1 b).2.1 := by decide +kernel
theorem tyX1_ok : ∀ k, k < 5 → parseFieldDescriptor (TX1 k).2.2.1 = some (tyX1 k) := by decide +kernel
abbrev cX1_init : ByteArray := prog_3_method_1_code
def yX1_init : MethodName := ⟨RX1, "<init>", "()V"⟩
abbrev cX1_gather : ByteArray := prog_3_method_2_code
def yX1_gather : MethodName := ⟨RX1, "gather", "(II)V"⟩
abbrev cX1_nextInTurn : ByteArray := prog_3_method_3_code
def yX1_nextInTurn : MethodName := ⟨RX1, "nextInTurn", "()I"⟩
abbrev cX1_beginsOnceMore : ByteArray := prog_3_method_4_code
def yX1_beginsOnceMore : MethodName := ⟨RX1, "beginsOnceMore", "(I)I"⟩
abbrev cX1_dismiss : ByteArray := prog_3_method_5_code
def yX1_dismiss : MethodName := ⟨RX1, "dismiss", "(I)V"⟩
def RX2 : String := "LedgerShares$Run"
def TX2 : u_T := fun k => match k with
  | 0 => ("LedgerShares$Run", "book", "LLedgerShares$Book;", true)
  | 1 => ("LedgerShares$Run", "sheet", "LLedgerShares$Sheet;", true)
  | 2 => ("LedgerShares$Run", "crew", "LLedgerShares$Crew;", true)
  | 3 => ("LedgerShares$Run", "calls", "I", false)
  | 4 => ("LedgerShares$Run", "ticks", "I", false)
  | 5 => ("LedgerShares$Run", "room", "I", false)
  | 6 => ("LedgerShares$Run", "kept", "I", false)
  | 7 => ("LedgerShares$Run", "begun", "I", false)
  | 8 => ("LedgerShares$Run", "anew", "I", false)
  | 9 => ("LedgerShares$Run", "dismissed", "I", false)
  | 10 => ("LedgerShares$Run", "underWay", "I", false)
  | 11 => ("LedgerShares$Run", "mostUnderWay", "I", false)
  | _ => ("LedgerShares$Run", "idle", "I", false)
def tyX2 : Nat → FieldType := fun k => match k with
  | 0 => .object "LedgerShares$Book"
  | 1 => .object "LedgerShares$Sheet"
  | 2 => .object "LedgerShares$Crew"
  | 3 => .int
  | 4 => .int
  | 5 => .int
  | 6 => .int
  | 7 => .int
  | 8 => .int
  | 9 => .int
  | 10 => .int
  | 11 => .int
  | _ => .int
abbrev wsX20 : List Cond := u_ws RX2 TX2 13
theorem nmX2 : ∀ a, a < 13 → ∀ b, b < 13 → a ≠ b → (TX2 a).2.1 ≠ (TX2 b).2.1 := by decide +kernel
theorem tyX2_ok : ∀ k, k < 13 → parseFieldDescriptor (TX2 k).2.2.1 = some (tyX2 k) := by decide +kernel
abbrev cX2_init : ByteArray := prog_4_method_1_code
def yX2_init : MethodName := ⟨RX2, "<init>", "(LLedgerShares$Book;)V"⟩
abbrev cX2_goesThrough : ByteArray := prog_4_method_2_code
def yX2_goesThrough : MethodName := ⟨RX2, "goesThrough", "(IIII)Z"⟩
abbrev cX2_prepare : ByteArray := prog_4_method_3_code
def yX2_prepare : MethodName := ⟨RX2, "prepare", "(II)V"⟩
abbrev cX2_takeTurn : ByteArray := prog_4_method_4_code
def yX2_takeTurn : MethodName := ⟨RX2, "takeTurn", "(I)V"⟩
abbrev cX2_takeCall : ByteArray := prog_4_method_5_code
def yX2_takeCall : MethodName := ⟨RX2, "takeCall", "(I)V"⟩
abbrev cX2_keepWhatStands : ByteArray := prog_4_method_6_code
def yX2_keepWhatStands : MethodName := ⟨RX2, "keepWhatStands", "()V"⟩
abbrev cX2_leavesLike : ByteArray := prog_4_method_7_code
def yX2_leavesLike : MethodName := ⟨RX2, "leavesLike", "(LLedgerShares$Run;)Z"⟩
abbrev cX2_total : ByteArray := prog_4_method_8_code
def yX2_total : MethodName := ⟨RX2, "total", "(I)I"⟩
def RX3 : String := "LedgerShares$Sheet"
def TX3 : u_T := fun k => match k with
  | 0 => ("LedgerShares$Sheet", "book", "LLedgerShares$Book;", true)
  | 1 => ("LedgerShares$Sheet", "stages", "[I", true)
  | 2 => ("LedgerShares$Sheet", "stepsLeft", "[I", true)
  | 3 => ("LedgerShares$Sheet", "readA", "[J", true)
  | 4 => ("LedgerShares$Sheet", "readB", "[J", true)
  | 5 => ("LedgerShares$Sheet", "changesA", "[Z", true)
  | 6 => ("LedgerShares$Sheet", "changesB", "[Z", true)
  | 7 => ("LedgerShares$Sheet", "givesA", "[J", true)
  | 8 => ("LedgerShares$Sheet", "givesB", "[J", true)
  | 9 => ("LedgerShares$Sheet", "outcomes", "[I", true)
  | 10 => ("LedgerShares$Sheet", "timesBegun", "[I", true)
  | 11 => ("LedgerShares$Sheet", "firstBegun", "[I", true)
  | 12 => ("LedgerShares$Sheet", "keptAt", "[I", true)
  | _ => ("LedgerShares$Sheet", "endedBy", "[I", true)
def tyX3 : Nat → FieldType := fun k => match k with
  | 0 => .object "LedgerShares$Book"
  | 1 => .array .int
  | 2 => .array .int
  | 3 => .array .long
  | 4 => .array .long
  | 5 => .array .boolean
  | 6 => .array .boolean
  | 7 => .array .long
  | 8 => .array .long
  | 9 => .array .int
  | 10 => .array .int
  | 11 => .array .int
  | 12 => .array .int
  | _ => .array .int
abbrev wsX30 : List Cond := u_ws RX3 TX3 14
theorem nmX3 : ∀ a, a < 14 → ∀ b, b < 14 → a ≠ b → (TX3 a).2.1 ≠ (TX3 b).2.1 := by decide +kernel
theorem tyX3_ok : ∀ k, k < 14 → parseFieldDescriptor (TX3 k).2.2.1 = some (tyX3 k) := by decide +kernel
abbrev cX3_init : ByteArray := prog_5_method_1_code
def yX3_init : MethodName := ⟨RX3, "<init>", "(LLedgerShares$Book;)V"⟩
abbrev cX3_openAll : ByteArray := prog_5_method_2_code
def yX3_openAll : MethodName := ⟨RX3, "openAll", "()V"⟩
abbrev cX3_standing : ByteArray := prog_5_method_3_code
def yX3_standing : MethodName := ⟨RX3, "standing", "(II)J"⟩
abbrev cX3_hasEnded : ByteArray := prog_5_method_4_code
def yX3_hasEnded : MethodName := ⟨RX3, "hasEnded", "(I)Z"⟩
abbrev cX3_leastOpen : ByteArray := prog_5_method_5_code
def yX3_leastOpen : MethodName := ⟨RX3, "leastOpen", "(II)I"⟩
abbrev cX3_noteBegun : ByteArray := prog_5_method_6_code
def yX3_noteBegun : MethodName := ⟨RX3, "noteBegun", "(II)V"⟩
abbrev cX3_setUnderWay : ByteArray := prog_5_method_7_code
def yX3_setUnderWay : MethodName := ⟨RX3, "setUnderWay", "(I)V"⟩
abbrev cX3_doesLastStep : ByteArray := prog_5_method_8_code
def yX3_doesLastStep : MethodName := ⟨RX3, "doesLastStep", "(II)Z"⟩
abbrev cX3_waitsToBeKept : ByteArray := prog_5_method_9_code
def yX3_waitsToBeKept : MethodName := ⟨RX3, "waitsToBeKept", "(I)Z"⟩
abbrev cX3_settle : ByteArray := prog_5_method_10_code
def yX3_settle : MethodName := ⟨RX3, "settle", "(II)Z"⟩
abbrev cX3_work : ByteArray := prog_5_method_11_code
def yX3_work : MethodName := ⟨RX3, "work", "(I)V"⟩
abbrev cX3_pay : ByteArray := prog_5_method_12_code
def yX3_pay : MethodName := ⟨RX3, "pay", "(IJJJ)V"⟩
abbrev cX3_meet : ByteArray := prog_5_method_13_code
def yX3_meet : MethodName := ⟨RX3, "meet", "(IZJ)V"⟩
abbrev cX3_failUnless : ByteArray := prog_5_method_14_code
def yX3_failUnless : MethodName := ⟨RX3, "failUnless", "(IZ)V"⟩
abbrev cX3_giveA : ByteArray := prog_5_method_15_code
def yX3_giveA : MethodName := ⟨RX3, "giveA", "(IJ)V"⟩
abbrev cX3_giveB : ByteArray := prog_5_method_16_code
def yX3_giveB : MethodName := ⟨RX3, "giveB", "(IJ)V"⟩
abbrev cX3_figure : ByteArray := prog_5_method_17_code
def yX3_figure : MethodName := ⟨RX3, "figure", "(II)I"⟩
abbrev cX3_failures : ByteArray := prog_5_method_18_code
def yX3_failures : MethodName := ⟨RX3, "failures", "(I)I"⟩
def RX4 : String := "LedgerShares"
def TX4 : u_T := fun k => match k with
  | 0 => ("LedgerShares", "book", "LLedgerShares$Book;", true)
  | 1 => ("LedgerShares", "second", "LLedgerShares$Run;", true)
  | 2 => ("LedgerShares", "latest", "LLedgerShares$Run;", false)
  | 3 => ("LedgerShares", "spare", "LLedgerShares$Run;", false)
  | 4 => ("LedgerShares", "hasRun", "Z", false)
  | 5 => ("LedgerShares", "runsDone", "I", false)
  | _ => ("LedgerShares", "runsRefused", "I", false)
def tyX4 : Nat → FieldType := fun k => match k with
  | 0 => .object "LedgerShares$Book"
  | 1 => .object "LedgerShares$Run"
  | 2 => .object "LedgerShares$Run"
  | 3 => .object "LedgerShares$Run"
  | 4 => .boolean
  | 5 => .int
  | _ => .int
abbrev wsX40 : List Cond := u_ws RX4 TX4 7
theorem nmX4 : ∀ a, a < 7 → ∀ b, b < 7 → a ≠ b → (TX4 a).2.1 ≠ (TX4 b).2.1 := by decide +kernel
theorem tyX4_ok : ∀ k, k < 7 → parseFieldDescriptor (TX4 k).2.2.1 = some (tyX4 k) := by decide +kernel
abbrev cX4_init : ByteArray := prog_1_method_1_code
def yX4_init : MethodName := ⟨RX4, "<init>", "()V"⟩
abbrev cX4_call : ByteArray := prog_1_method_2_code
def yX4_call : MethodName := ⟨RX4, "call", "(IIIII)I"⟩
abbrev cX4_clear : ByteArray := prog_1_method_3_code
def yX4_clear : MethodName := ⟨RX4, "clear", "()I"⟩
abbrev cX4_gone : ByteArray := prog_1_method_4_code
def yX4_gone : MethodName := ⟨RX4, "gone", "(II)I"⟩
abbrev cX4_run : ByteArray := prog_1_method_5_code
def yX4_run : MethodName := ⟨RX4, "run", "(IIII)I"⟩
abbrev cX4_amount : ByteArray := prog_1_method_6_code
def yX4_amount : MethodName := ⟨RX4, "amount", "(I)J"⟩
abbrev cX4_behind : ByteArray := prog_1_method_7_code
def yX4_behind : MethodName := ⟨RX4, "behind", "(II)J"⟩
abbrev cX4_outcome : ByteArray := prog_1_method_8_code
def yX4_outcome : MethodName := ⟨RX4, "outcome", "(I)I"⟩
abbrev cX4_of : ByteArray := prog_1_method_9_code
def yX4_of : MethodName := ⟨RX4, "of", "(II)I"⟩
abbrev cX4_told : ByteArray := prog_1_method_10_code
def yX4_told : MethodName := ⟨RX4, "told", "(I)I"⟩
abbrev cX4_same : ByteArray := prog_1_method_11_code
def yX4_same : MethodName := ⟨RX4, "same", "(IIII)Z"⟩
abbrev cX4_count : ByteArray := prog_1_method_12_code
def yX4_count : MethodName := ⟨RX4, "count", "(I)I"⟩
abbrev cX4_isCall : ByteArray := prog_1_method_13_code
def yX4_isCall : MethodName := ⟨RX4, "isCall", "(I)Z"⟩
abbrev cX4_wasInLatest : ByteArray := prog_1_method_14_code
def yX4_wasInLatest : MethodName := ⟨RX4, "wasInLatest", "(I)Z"⟩
abbrev cX4_isCrew : ByteArray := prog_1_method_15_code
def yX4_isCrew : MethodName := ⟨RX4, "isCrew", "(I)Z"⟩
abbrev cX4_within : ByteArray := prog_1_method_16_code
def yX4_within : MethodName := ⟨RX4, "within", "(III)Z"⟩
def RX5 : String := "LedgerSharesModel"
def TX5 : u_T := fun k => match k with
  | 0 => ("LedgerSharesModel", "thrown", "I", false)
  | 1 => ("LedgerSharesModel", "calls", "I", false)
  | 2 => ("LedgerSharesModel", "ops", "[I", true)
  | 3 => ("LedgerSharesModel", "as", "[I", true)
  | 4 => ("LedgerSharesModel", "bs", "[I", true)
  | 5 => ("LedgerSharesModel", "cs", "[I", true)
  | 6 => ("LedgerSharesModel", "steps", "[I", true)
  | 7 => ("LedgerSharesModel", "goneAt", "[I", true)
  | 8 => ("LedgerSharesModel", "runs", "I", false)
  | 9 => ("LedgerSharesModel", "refusals", "I", false)
  | 10 => ("LedgerSharesModel", "has", "Z", false)
  | 11 => ("LedgerSharesModel", "figures", "[I", true)
  | 12 => ("LedgerSharesModel", "begunOf", "[I", true)
  | 13 => ("LedgerSharesModel", "firstOf", "[I", true)
  | 14 => ("LedgerSharesModel", "keptOf", "[I", true)
  | 15 => ("LedgerSharesModel", "workerOf", "[I", true)
  | 16 => ("LedgerSharesModel", "outcomeOf", "[I", true)
  | 17 => ("LedgerSharesModel", "behind", "[J", true)
  | 18 => ("LedgerSharesModel", "told", "[I", true)
  | 19 => ("LedgerSharesModel", "state", "[I", true)
  | 20 => ("LedgerSharesModel", "begun", "[I", true)
  | 21 => ("LedgerSharesModel", "first", "[I", true)
  | 22 => ("LedgerSharesModel", "kept", "[I", true)
  | 23 => ("LedgerSharesModel", "worker", "[I", true)
  | 24 => ("LedgerSharesModel", "outcome", "[I", true)
  | 25 => ("LedgerSharesModel", "readA", "[J", true)
  | 26 => ("LedgerSharesModel", "readB", "[J", true)
  | 27 => ("LedgerSharesModel", "givesA", "[Z", true)
  | 28 => ("LedgerSharesModel", "givesB", "[Z", true)
  | 29 => ("LedgerSharesModel", "givenA", "[J", true)
  | 30 => ("LedgerSharesModel", "givenB", "[J", true)
  | 31 => ("LedgerSharesModel", "amounts", "[J", true)
  | 32 => ("LedgerSharesModel", "callOf", "[I", true)
  | 33 => ("LedgerSharesModel", "stepOf", "[I", true)
  | 34 => ("LedgerSharesModel", "begins", "[I", true)
  | 35 => ("LedgerSharesModel", "isGone", "[Z", true)
  | 36 => ("LedgerSharesModel", "ownAmounts", "[J", true)
  | _ => ("LedgerSharesModel", "ownOutcomes", "[I", true)
def tyX5 : Nat → FieldType := fun k => match k with
  | 0 => .int
  | 1 => .int
  | 2 => .array .int
  | 3 => .array .int
  | 4 => .array .int
  | 5 => .array .int
  | 6 => .array .int
  | 7 => .array .int
  | 8 => .int
  | 9 => .int
  | 10 => .boolean
  | 11 => .array .int
  | 12 => .array .int
  | 13 => .array .int
  | 14 => .array .int
  | 15 => .array .int
  | 16 => .array .int
  | 17 => .array .long
  | 18 => .array .int
  | 19 => .array .int
  | 20 => .array .int
  | 21 => .array .int
  | 22 => .array .int
  | 23 => .array .int
  | 24 => .array .int
  | 25 => .array .long
  | 26 => .array .long
  | 27 => .array .boolean
  | 28 => .array .boolean
  | 29 => .array .long
  | 30 => .array .long
  | 31 => .array .long
  | 32 => .array .int
  | 33 => .array .int
  | 34 => .array .int
  | 35 => .array .boolean
  | 36 => .array .long
  | _ => .array .int
abbrev wsX50 : List Cond := u_ws RX5 TX5 38
theorem nmX5 : ∀ a, a < 38 → ∀ b, b < 38 → a ≠ b → (TX5 a).2.1 ≠ (TX5 b).2.1 := by decide +kernel
theorem tyX5_ok : ∀ k, k < 38 → parseFieldDescriptor (TX5 k).2.2.1 = some (tyX5 k) := by decide +kernel
abbrev cX5_init : ByteArray := prog_7_method_1_code
def yX5_init : MethodName := ⟨RX5, "<init>", "()V"⟩
abbrev cX5_in : ByteArray := prog_7_method_3_code
def yX5_in : MethodName := ⟨RX5, "in", "(III)Z"⟩
abbrev cX5_call : ByteArray := prog_7_method_4_code
def yX5_call : MethodName := ⟨RX5, "call", "(IIIII)I"⟩
abbrev cX5_clear : ByteArray := prog_7_method_5_code
def yX5_clear : MethodName := ⟨RX5, "clear", "()I"⟩
abbrev cX5_gone : ByteArray := prog_7_method_6_code
def yX5_gone : MethodName := ⟨RX5, "gone", "(II)I"⟩
abbrev cX5_reads : ByteArray := prog_7_method_7_code
def yX5_reads : MethodName := ⟨RX5, "reads", "(II)J"⟩
abbrev cX5_work : ByteArray := prog_7_method_8_code
def yX5_work : MethodName := ⟨RX5, "work", "(I)V"⟩
abbrev cX5_turnOf : ByteArray := prog_7_method_9_code
def yX5_turnOf : MethodName := ⟨RX5, "turnOf", "(II)I"⟩
abbrev cX5_openOne : ByteArray := prog_7_method_10_code
def yX5_openOne : MethodName := ⟨RX5, "openOne", "(II)I"⟩
abbrev cX5_take : ByteArray := prog_7_method_11_code
def yX5_take : MethodName := ⟨RX5, "take", "(III)V"⟩
abbrev cX5_step : ByteArray := prog_7_method_12_code
def yX5_step : MethodName := ⟨RX5, "step", "(I)V"⟩
abbrev cX5_keep : ByteArray := prog_7_method_13_code
def yX5_keep : MethodName := ⟨RX5, "keep", "(III)I"⟩
abbrev cX5_underWay : ByteArray := prog_7_method_14_code
def yX5_underWay : MethodName := ⟨RX5, "underWay", "(I)I"⟩
abbrev cX5_begin : ByteArray := prog_7_method_15_code
def yX5_begin : MethodName := ⟨RX5, "begin", "(II)V"⟩
abbrev cX5_goes : ByteArray := prog_7_method_16_code
def yX5_goes : MethodName := ⟨RX5, "goes", "(IIII)Z"⟩
abbrev cX5_run : ByteArray := prog_7_method_17_code
def yX5_run : MethodName := ⟨RX5, "run", "(IIII)I"⟩
abbrev cX5_isOfRun : ByteArray := prog_7_method_18_code
def yX5_isOfRun : MethodName := ⟨RX5, "isOfRun", "(I)Z"⟩
abbrev cX5_amount : ByteArray := prog_7_method_19_code
def yX5_amount : MethodName := ⟨RX5, "amount", "(I)J"⟩
abbrev cX5_behind : ByteArray := prog_7_method_20_code
def yX5_behind : MethodName := ⟨RX5, "behind", "(II)J"⟩
abbrev cX5_outcome : ByteArray := prog_7_method_21_code
def yX5_outcome : MethodName := ⟨RX5, "outcome", "(I)I"⟩
abbrev cX5_of : ByteArray := prog_7_method_22_code
def yX5_of : MethodName := ⟨RX5, "of", "(II)I"⟩
abbrev cX5_told : ByteArray := prog_7_method_23_code
def yX5_told : MethodName := ⟨RX5, "told", "(I)I"⟩
abbrev cX5_same : ByteArray := prog_7_method_24_code
def yX5_same : MethodName := ⟨RX5, "same", "(IIII)Z"⟩
abbrev cX5_count : ByteArray := prog_7_method_25_code
def yX5_count : MethodName := ⟨RX5, "count", "(I)I"⟩
def RJ9 : String := "java/lang/Math"
def TJ9 : u_T := fun k => match k with
  | _ => ("", "", "", false)
def tyJ9 : Nat → FieldType := fun k => match k with
  | _ => .int
abbrev wsJ90 : List Cond := u_ws RJ9 TJ9 0
theorem nmJ9 : ∀ a, a < 0 → ∀ b, b < 0 → a ≠ b → (TJ9 a).2.1 ≠ (TJ9 b).2.1 := by decide +kernel
theorem tyJ9_ok : ∀ k, k < 0 → parseFieldDescriptor (TJ9 k).2.2.1 = some (tyJ9 k) := by decide +kernel
abbrev cJ9_max_7cf53 : ByteArray := prog_8_method_65_code
def yJ9_max_7cf53 : MethodName := ⟨RJ9, "max", "(II)I"⟩
abbrev cJ9_min_7cf53 : ByteArray := prog_8_method_69_code
def yJ9_min_7cf53 : MethodName := ⟨RJ9, "min", "(II)I"⟩
def RL : String := "LedgerSharesLaw"
abbrev cL_law : ByteArray := code
def yL_law : MethodName := ⟨RL, "law", "([I)Z"⟩
def wsX0_init : List Cond := .code yX0_init cX0_init 1 none :: ([.methodLink RX0 3 objectInit, .instanceMethod objectInit, .code objectInit ⟨#[0xb1]⟩ 1 none, .arrayClass .int, .fieldLink RX0 9 "LedgerShares$Book" "ops" "[I", .fieldLink RX0 15 "LedgerShares$Book" "as" "[I", .fieldLink RX0 18 "LedgerShares$Book" "bs" "[I", .fieldLink RX0 21 "LedgerShares$Book" "cs" "[I", .fieldLink RX0 24 "LedgerShares$Book" "steps" "[I", .fieldLink RX0 27 "LedgerShares$Book" "goneAt" "[I"] ++ wsX00)
def wsX4_within : List Cond := .code yX4_within cX4_within 3 (some .boolean) :: ([])
def wsX0_enter : List Cond := .code yX0_enter cX0_enter 7 (some .int) :: ([.fieldLink RX0 30 "LedgerShares$Book" "size" "I", .fieldLink RX0 9 "LedgerShares$Book" "ops" "[I", .fieldLink RX0 15 "LedgerShares$Book" "as" "[I", .fieldLink RX0 18 "LedgerShares$Book" "bs" "[I", .fieldLink RX0 21 "LedgerShares$Book" "cs" "[I", .fieldLink RX0 24 "LedgerShares$Book" "steps" "[I", .static yX4_within, .initialized RX4, .code yX4_within cX4_within 3 (some .boolean)] ++ wsX00)
def wsX1_init : List Cond := .code yX1_init cX1_init 1 none :: ([.methodLink RX1 3 objectInit, .instanceMethod objectInit, .code objectInit ⟨#[0xb1]⟩ 1 none, .arrayClass .int, .fieldLink RX1 9 "LedgerShares$Crew" "present" "[I", .fieldLink RX1 15 "LedgerShares$Crew" "holds" "[I", .fieldLink RX1 18 "LedgerShares$Crew" "begins" "[I"] ++ wsX10)
def wsX1_gather : List Cond := .code yX1_gather cX1_gather 4 none :: ([.fieldLink RX1 21 "LedgerShares$Crew" "seed" "I", .methodLink RX1 25 Lib.Math.min.name, .static Lib.Math.min.name, .initialized "java/lang/Math", .code Lib.Math.min.name Lib.Math.min.code 2 (some .int), .fieldLink RX1 31 "LedgerShares$Crew" "left" "I", .fieldLink RX1 9 "LedgerShares$Crew" "present" "[I", .fieldLink RX1 15 "LedgerShares$Crew" "holds" "[I", .fieldLink RX1 18 "LedgerShares$Crew" "begins" "[I"] ++ wsX10)
def wsX1_nextInTurn : List Cond := .code yX1_nextInTurn cX1_nextInTurn 1 (some .int) :: ([.fieldLink RX1 21 "LedgerShares$Crew" "seed" "I", .constant RX1 34 (1103515245), .fieldLink RX1 31 "LedgerShares$Crew" "left" "I", .fieldLink RX1 9 "LedgerShares$Crew" "present" "[I"] ++ wsX10)
def wsX1_beginsOnceMore : List Cond := .code yX1_beginsOnceMore cX1_beginsOnceMore 2 (some .int) :: ([.fieldLink RX1 18 "LedgerShares$Crew" "begins" "[I"] ++ wsX10)
def wsX1_dismiss : List Cond := .code yX1_dismiss cX1_dismiss 4 none :: ([.fieldLink RX1 31 "LedgerShares$Crew" "left" "I", .fieldLink RX1 9 "LedgerShares$Crew" "present" "[I"] ++ wsX10)
def wsX3_init : List Cond := .code yX3_init cX3_init 2 none :: ([.methodLink RX3 3 objectInit, .instanceMethod objectInit, .code objectInit ⟨#[0xb1]⟩ 1 none, .arrayClass .int, .fieldLink RX3 9 "LedgerShares$Sheet" "stages" "[I", .fieldLink RX3 15 "LedgerShares$Sheet" "stepsLeft" "[I", .arrayClass .long, .fieldLink RX3 18 "LedgerShares$Sheet" "readA" "[J", .fieldLink RX3 22 "LedgerShares$Sheet" "readB" "[J", .arrayClass .boolean, .fieldLink RX3 25 "LedgerShares$Sheet" "changesA" "[Z", .fieldLink RX3 29 "LedgerShares$Sheet" "changesB" "[Z", .fieldLink RX3 32 "LedgerShares$Sheet" "givesA" "[J", .fieldLink RX3 35 "LedgerShares$Sheet" "givesB" "[J", .fieldLink RX3 38 "LedgerShares$Sheet" "outcomes" "[I", .fieldLink RX3 41 "LedgerShares$Sheet" "timesBegun" "[I", .fieldLink RX3 44 "LedgerShares$Sheet" "firstBegun" "[I", .fieldLink RX3 47 "LedgerShares$Sheet" "keptAt" "[I", .fieldLink RX3 50 "LedgerShares$Sheet" "endedBy" "[I", .fieldLink RX3 53 "LedgerShares$Sheet" "book" "LLedgerShares$Book;"] ++ wsX30)
def wsX2_init_r1 : List Cond := [Cond.methodLink RX2 3 objectInit, Cond.instanceMethod objectInit, Cond.code objectInit ⟨#[0xb1]⟩ 1 none, Cond.classLink RX2 9 RX1, Cond.instantiable RX1 5, Cond.initialized RX1, Cond.fieldLink RX2 12 "LedgerShares$Run" "crew" "LLedgerShares$Crew;", Cond.fieldLink RX2 18 "LedgerShares$Run" "book" "LLedgerShares$Book;", Cond.classLink RX2 22 RX3, Cond.instantiable RX3 14, Cond.initialized RX3, Cond.fieldLink RX2 27 "LedgerShares$Run" "sheet" "LLedgerShares$Sheet;", Cond.instanceMethod yX1_init, Cond.code yX1_init cX1_init 1 none, Cond.methodLink RX1 3 objectInit, Cond.arrayClass .int, Cond.fieldLink RX1 9 "LedgerShares$Crew" "present" "[I", Cond.fieldLink RX1 15 "LedgerShares$Crew" "holds" "[I", Cond.fieldLink RX1 18 "LedgerShares$Crew" "begins" "[I", Cond.methodLink RX2 24 yX3_init, Cond.instanceMethod yX3_init, Cond.code yX3_init cX3_init 2 none, Cond.methodLink RX3 3 objectInit, Cond.fieldLink RX3 9 "LedgerShares$Sheet" "stages" "[I"]
def wsX2_init_r2 : List Cond := [Cond.fieldLink RX3 15 "LedgerShares$Sheet" "stepsLeft" "[I", Cond.arrayClass .long, Cond.fieldLink RX3 18 "LedgerShares$Sheet" "readA" "[J", Cond.fieldLink RX3 22 "LedgerShares$Sheet" "readB" "[J", Cond.arrayClass .boolean, Cond.fieldLink RX3 25 "LedgerShares$Sheet" "changesA" "[Z", Cond.fieldLink RX3 29 "LedgerShares$Sheet" "changesB" "[Z", Cond.fieldLink RX3 32 "LedgerShares$Sheet" "givesA" "[J", Cond.fieldLink RX3 35 "LedgerShares$Sheet" "givesB" "[J", Cond.fieldLink RX3 38 "LedgerShares$Sheet" "outcomes" "[I", Cond.fieldLink RX3 41 "LedgerShares$Sheet" "timesBegun" "[I", Cond.fieldLink RX3 44 "LedgerShares$Sheet" "firstBegun" "[I", Cond.fieldLink RX3 47 "LedgerShares$Sheet" "keptAt" "[I", Cond.fieldLink RX3 50 "LedgerShares$Sheet" "endedBy" "[I", Cond.fieldLink RX3 53 "LedgerShares$Sheet" "book" "LLedgerShares$Book;"]
def wsX2_init : List Cond := .code yX2_init cX2_init 2 none :: ((wsX2_init_r1 ++ wsX2_init_r2) ++ wsX10 ++ wsX20 ++ wsX30)
def wsX3_openAll : List Cond := .code yX3_openAll cX3_openAll 2 none :: ([.fieldLink RX3 9 "LedgerShares$Sheet" "stages" "[I", .fieldLink RX3 38 "LedgerShares$Sheet" "outcomes" "[I", .fieldLink RX3 41 "LedgerShares$Sheet" "timesBegun" "[I", .fieldLink RX3 44 "LedgerShares$Sheet" "firstBegun" "[I", .fieldLink RX3 47 "LedgerShares$Sheet" "keptAt" "[I", .fieldLink RX3 50 "LedgerShares$Sheet" "endedBy" "[I"] ++ wsX30)
def wsX2_prepare : List Cond := .code yX2_prepare cX2_prepare 3 none :: ([.fieldLink RX2 42 "LedgerShares$Run" "calls" "I", .fieldLink RX2 74 "LedgerShares$Run" "room" "I", .fieldLink RX2 48 "LedgerShares$Run" "ticks" "I", .fieldLink RX2 38 "LedgerShares$Run" "kept" "I", .fieldLink RX2 77 "LedgerShares$Run" "begun" "I", .fieldLink RX2 80 "LedgerShares$Run" "anew" "I", .fieldLink RX2 83 "LedgerShares$Run" "dismissed" "I", .fieldLink RX2 65 "LedgerShares$Run" "underWay" "I", .fieldLink RX2 62 "LedgerShares$Run" "mostUnderWay" "I", .fieldLink RX2 86 "LedgerShares$Run" "idle" "I", .fieldLink RX2 27 "LedgerShares$Run" "sheet" "LLedgerShares$Sheet;", .methodLink RX2 89 yX3_openAll, .instanceMethod yX3_openAll, .selects RX3 yX3_openAll yX3_openAll, .initialized RX3, .code yX3_openAll cX3_openAll 2 none, .fieldLink RX3 9 "LedgerShares$Sheet" "stages" "[I", .fieldLink RX3 38 "LedgerShares$Sheet" "outcomes" "[I", .fieldLink RX3 41 "LedgerShares$Sheet" "timesBegun" "[I", .fieldLink RX3 44 "LedgerShares$Sheet" "firstBegun" "[I", .fieldLink RX3 47 "LedgerShares$Sheet" "keptAt" "[I", .fieldLink RX3 50 "LedgerShares$Sheet" "endedBy" "[I"] ++ wsX20 ++ wsX30)
def wsX3_leastOpen : List Cond := .code yX3_leastOpen cX3_leastOpen 4 (some .int) :: ([.methodLink RX3 75 Lib.Math.max.name, .static Lib.Math.max.name, .initialized "java/lang/Math", .code Lib.Math.max.name Lib.Math.max.code 2 (some .int), .fieldLink RX3 9 "LedgerShares$Sheet" "stages" "[I"] ++ wsX30)
def wsX3_noteBegun : List Cond := .code yX3_noteBegun cX3_noteBegun 3 none :: ([.fieldLink RX3 41 "LedgerShares$Sheet" "timesBegun" "[I", .fieldLink RX3 44 "LedgerShares$Sheet" "firstBegun" "[I"] ++ wsX30)
def wsX3_hasEnded : List Cond := .code yX3_hasEnded cX3_hasEnded 2 (some .boolean) :: ([.fieldLink RX3 9 "LedgerShares$Sheet" "stages" "[I"] ++ wsX30)
def wsX3_standing : List Cond := .code yX3_standing cX3_standing 4 (some .long) :: ([.methodLink RX3 57 Lib.Math.min.name, .static Lib.Math.min.name, .initialized "java/lang/Math", .code Lib.Math.min.name Lib.Math.min.code 2 (some .int), .fieldLink RX3 25 "LedgerShares$Sheet" "changesA" "[Z", .fieldLink RX3 53 "LedgerShares$Sheet" "book" "LLedgerShares$Book;", .fieldLink RX3 67 "LedgerShares$Book" "as" "[I", .fieldLink RX3 32 "LedgerShares$Sheet" "givesA" "[J", .fieldLink RX3 29 "LedgerShares$Sheet" "changesB" "[Z", .fieldLink RX3 72 "LedgerShares$Book" "bs" "[I", .fieldLink RX3 35 "LedgerShares$Sheet" "givesB" "[J", .methodLink RX3 63 yX3_hasEnded, .instanceMethod yX3_hasEnded, .selects RX3 yX3_hasEnded yX3_hasEnded, .initialized RX3, .code yX3_hasEnded cX3_hasEnded 2 (some .boolean), .fieldLink RX3 9 "LedgerShares$Sheet" "stages" "[I"] ++ wsX30 ++ wsX00)
def wsX3_setUnderWay_r1 : List Cond := [Cond.fieldLink RX3 9 "LedgerShares$Sheet" "stages" "[I", Cond.fieldLink RX3 15 "LedgerShares$Sheet" "stepsLeft" "[I", Cond.fieldLink RX3 53 "LedgerShares$Sheet" "book" "LLedgerShares$Book;", Cond.fieldLink RX3 78 "LedgerShares$Book" "steps" "[I", Cond.fieldLink RX3 18 "LedgerShares$Sheet" "readA" "[J", Cond.fieldLink RX3 67 "LedgerShares$Book" "as" "[I", Cond.fieldLink RX3 22 "LedgerShares$Sheet" "readB" "[J", Cond.fieldLink RX3 72 "LedgerShares$Book" "bs" "[I", Cond.methodLink RX3 81 yX3_standing, Cond.instanceMethod yX3_standing, Cond.selects RX3 yX3_standing yX3_standing, Cond.initialized RX3, Cond.code yX3_standing cX3_standing 4 (some .long), Cond.methodLink RX3 57 Lib.Math.min.name, Cond.static Lib.Math.min.name, Cond.initialized "java/lang/Math", Cond.code Lib.Math.min.name Lib.Math.min.code 2 (some .int), Cond.fieldLink RX3 25 "LedgerShares$Sheet" "changesA" "[Z", Cond.fieldLink RX3 32 "LedgerShares$Sheet" "givesA" "[J", Cond.fieldLink RX3 29 "LedgerShares$Sheet" "changesB" "[Z", Cond.fieldLink RX3 35 "LedgerShares$Sheet" "givesB" "[J", Cond.methodLink RX3 63 yX3_hasEnded, Cond.instanceMethod yX3_hasEnded, Cond.selects RX3 yX3_hasEnded yX3_hasEnded]
def wsX3_setUnderWay_r2 : List Cond := [Cond.code yX3_hasEnded cX3_hasEnded 2 (some .boolean)]
def wsX3_setUnderWay : List Cond := .code yX3_setUnderWay cX3_setUnderWay 2 none :: ((wsX3_setUnderWay_r1 ++ wsX3_setUnderWay_r2) ++ wsX30 ++ wsX00)
def wsX2_takeCall_r1 : List Cond := [Cond.fieldLink RX2 27 "LedgerShares$Run" "sheet" "LLedgerShares$Sheet;", Cond.fieldLink RX2 38 "LedgerShares$Run" "kept" "I", Cond.fieldLink RX2 42 "LedgerShares$Run" "calls" "I", Cond.fieldLink RX2 74 "LedgerShares$Run" "room" "I", Cond.methodLink RX2 107 Lib.Math.min.name, Cond.static Lib.Math.min.name, Cond.initialized "java/lang/Math", Cond.code Lib.Math.min.name Lib.Math.min.code 2 (some .int), Cond.fieldLink RX2 86 "LedgerShares$Run" "idle" "I", Cond.fieldLink RX2 77 "LedgerShares$Run" "begun" "I", Cond.fieldLink RX2 48 "LedgerShares$Run" "ticks" "I", Cond.fieldLink RX2 12 "LedgerShares$Run" "crew" "LLedgerShares$Crew;", Cond.fieldLink RX2 18 "LedgerShares$Run" "book" "LLedgerShares$Book;", Cond.fieldLink RX2 120 "LedgerShares$Book" "goneAt" "[I", Cond.fieldLink RX2 83 "LedgerShares$Run" "dismissed" "I", Cond.fieldLink RX2 96 "LedgerShares$Crew" "holds" "[I", Cond.fieldLink RX2 65 "LedgerShares$Run" "underWay" "I", Cond.methodLink RX2 110 yX3_leastOpen, Cond.instanceMethod yX3_leastOpen, Cond.selects RX3 yX3_leastOpen yX3_leastOpen, Cond.initialized RX3, Cond.code yX3_leastOpen cX3_leastOpen 4 (some .int), Cond.methodLink RX3 75 Lib.Math.max.name, Cond.static Lib.Math.max.name]
def wsX2_takeCall_r2 : List Cond := [Cond.code Lib.Math.max.name Lib.Math.max.code 2 (some .int), Cond.fieldLink RX3 9 "LedgerShares$Sheet" "stages" "[I", Cond.methodLink RX2 113 yX3_noteBegun, Cond.instanceMethod yX3_noteBegun, Cond.selects RX3 yX3_noteBegun yX3_noteBegun, Cond.code yX3_noteBegun cX3_noteBegun 3 none, Cond.fieldLink RX3 41 "LedgerShares$Sheet" "timesBegun" "[I", Cond.fieldLink RX3 44 "LedgerShares$Sheet" "firstBegun" "[I", Cond.methodLink RX2 116 yX1_beginsOnceMore, Cond.instanceMethod yX1_beginsOnceMore, Cond.selects RX1 yX1_beginsOnceMore yX1_beginsOnceMore, Cond.initialized RX1, Cond.code yX1_beginsOnceMore cX1_beginsOnceMore 2 (some .int), Cond.fieldLink RX1 18 "LedgerShares$Crew" "begins" "[I", Cond.methodLink RX2 125 yX1_dismiss, Cond.instanceMethod yX1_dismiss, Cond.selects RX1 yX1_dismiss yX1_dismiss, Cond.code yX1_dismiss cX1_dismiss 4 none, Cond.fieldLink RX1 31 "LedgerShares$Crew" "left" "I", Cond.fieldLink RX1 9 "LedgerShares$Crew" "present" "[I", Cond.methodLink RX2 128 yX3_setUnderWay, Cond.instanceMethod yX3_setUnderWay, Cond.selects RX3 yX3_setUnderWay yX3_setUnderWay, Cond.code yX3_setUnderWay cX3_setUnderWay 2 none]
def wsX2_takeCall_r3 : List Cond := [Cond.fieldLink RX3 15 "LedgerShares$Sheet" "stepsLeft" "[I", Cond.fieldLink RX3 53 "LedgerShares$Sheet" "book" "LLedgerShares$Book;", Cond.fieldLink RX3 78 "LedgerShares$Book" "steps" "[I", Cond.fieldLink RX3 18 "LedgerShares$Sheet" "readA" "[J", Cond.fieldLink RX3 67 "LedgerShares$Book" "as" "[I", Cond.fieldLink RX3 22 "LedgerShares$Sheet" "readB" "[J", Cond.fieldLink RX3 72 "LedgerShares$Book" "bs" "[I", Cond.methodLink RX3 81 yX3_standing, Cond.instanceMethod yX3_standing, Cond.selects RX3 yX3_standing yX3_standing, Cond.code yX3_standing cX3_standing 4 (some .long), Cond.methodLink RX3 57 Lib.Math.min.name, Cond.fieldLink RX3 25 "LedgerShares$Sheet" "changesA" "[Z", Cond.fieldLink RX3 32 "LedgerShares$Sheet" "givesA" "[J", Cond.fieldLink RX3 29 "LedgerShares$Sheet" "changesB" "[Z", Cond.fieldLink RX3 35 "LedgerShares$Sheet" "givesB" "[J", Cond.methodLink RX3 63 yX3_hasEnded, Cond.instanceMethod yX3_hasEnded, Cond.selects RX3 yX3_hasEnded yX3_hasEnded, Cond.code yX3_hasEnded cX3_hasEnded 2 (some .boolean)]
def wsX2_takeCall : List Cond := .code yX2_takeCall cX2_takeCall 3 none :: ((wsX2_takeCall_r1 ++ (wsX2_takeCall_r2 ++ wsX2_takeCall_r3)) ++ wsX20 ++ wsX00 ++ wsX10 ++ wsX30)
def wsX3_giveB : List Cond := .code yX3_giveB cX3_giveB 4 none :: ([.fieldLink RX3 29 "LedgerShares$Sheet" "changesB" "[Z", .fieldLink RX3 35 "LedgerShares$Sheet" "givesB" "[J"] ++ wsX30)
def wsX3_failUnless : List Cond := .code yX3_failUnless cX3_failUnless 3 none :: ([.fieldLink RX3 38 "LedgerShares$Sheet" "outcomes" "[I"] ++ wsX30)
def wsX3_giveA : List Cond := .code yX3_giveA cX3_giveA 4 none :: ([.fieldLink RX3 25 "LedgerShares$Sheet" "changesA" "[Z", .fieldLink RX3 32 "LedgerShares$Sheet" "givesA" "[J"] ++ wsX30)
def wsX3_pay : List Cond := .code yX3_pay cX3_pay 8 none :: ([.fieldLink RX3 38 "LedgerShares$Sheet" "outcomes" "[I", .fieldLink RX3 53 "LedgerShares$Sheet" "book" "LLedgerShares$Book;", .fieldLink RX3 67 "LedgerShares$Book" "as" "[I", .fieldLink RX3 72 "LedgerShares$Book" "bs" "[I", .methodLink RX3 107 yX3_failUnless, .instanceMethod yX3_failUnless, .selects RX3 yX3_failUnless yX3_failUnless, .initialized RX3, .code yX3_failUnless cX3_failUnless 3 none, .methodLink RX3 111 yX3_giveA, .instanceMethod yX3_giveA, .selects RX3 yX3_giveA yX3_giveA, .code yX3_giveA cX3_giveA 4 none, .fieldLink RX3 25 "LedgerShares$Sheet" "changesA" "[Z", .fieldLink RX3 32 "LedgerShares$Sheet" "givesA" "[J", .methodLink RX3 99 yX3_giveB, .instanceMethod yX3_giveB, .selects RX3 yX3_giveB yX3_giveB, .code yX3_giveB cX3_giveB 4 none, .fieldLink RX3 29 "LedgerShares$Sheet" "changesB" "[Z", .fieldLink RX3 35 "LedgerShares$Sheet" "givesB" "[J"] ++ wsX30 ++ wsX00)
def wsX3_meet : List Cond := .code yX3_meet cX3_meet 5 none :: ([.methodLink RX3 107 yX3_failUnless, .instanceMethod yX3_failUnless, .selects RX3 yX3_failUnless yX3_failUnless, .initialized RX3, .code yX3_failUnless cX3_failUnless 3 none, .fieldLink RX3 38 "LedgerShares$Sheet" "outcomes" "[I", .methodLink RX3 99 yX3_giveB, .instanceMethod yX3_giveB, .selects RX3 yX3_giveB yX3_giveB, .code yX3_giveB cX3_giveB 4 none, .fieldLink RX3 29 "LedgerShares$Sheet" "changesB" "[Z", .fieldLink RX3 35 "LedgerShares$Sheet" "givesB" "[J"] ++ wsX30)
def wsX3_work_r1 : List Cond := [Cond.fieldLink RX3 18 "LedgerShares$Sheet" "readA" "[J", Cond.fieldLink RX3 22 "LedgerShares$Sheet" "readB" "[J", Cond.fieldLink RX3 53 "LedgerShares$Sheet" "book" "LLedgerShares$Book;", Cond.fieldLink RX3 93 "LedgerShares$Book" "cs" "[I", Cond.fieldLink RX3 38 "LedgerShares$Sheet" "outcomes" "[I", Cond.fieldLink RX3 25 "LedgerShares$Sheet" "changesA" "[Z", Cond.fieldLink RX3 29 "LedgerShares$Sheet" "changesB" "[Z", Cond.fieldLink RX3 96 "LedgerShares$Book" "ops" "[I", Cond.methodLink RX3 99 yX3_giveB, Cond.instanceMethod yX3_giveB, Cond.selects RX3 yX3_giveB yX3_giveB, Cond.initialized RX3, Cond.code yX3_giveB cX3_giveB 4 none, Cond.fieldLink RX3 35 "LedgerShares$Sheet" "givesB" "[J", Cond.methodLink RX3 103 yX3_pay, Cond.instanceMethod yX3_pay, Cond.selects RX3 yX3_pay yX3_pay, Cond.code yX3_pay cX3_pay 8 none, Cond.fieldLink RX3 67 "LedgerShares$Book" "as" "[I", Cond.fieldLink RX3 72 "LedgerShares$Book" "bs" "[I", Cond.methodLink RX3 107 yX3_failUnless, Cond.instanceMethod yX3_failUnless, Cond.selects RX3 yX3_failUnless yX3_failUnless, Cond.code yX3_failUnless cX3_failUnless 3 none]
def wsX3_work_r2 : List Cond := [Cond.methodLink RX3 111 yX3_giveA, Cond.instanceMethod yX3_giveA, Cond.selects RX3 yX3_giveA yX3_giveA, Cond.code yX3_giveA cX3_giveA 4 none, Cond.fieldLink RX3 32 "LedgerShares$Sheet" "givesA" "[J", Cond.methodLink RX3 114 yX3_meet, Cond.instanceMethod yX3_meet, Cond.selects RX3 yX3_meet yX3_meet, Cond.code yX3_meet cX3_meet 5 none]
def wsX3_work : List Cond := .code yX3_work cX3_work 8 none :: ((wsX3_work_r1 ++ wsX3_work_r2) ++ wsX30 ++ wsX00)
def wsX3_doesLastStep_r1 : List Cond := [Cond.fieldLink RX3 15 "LedgerShares$Sheet" "stepsLeft" "[I", Cond.fieldLink RX3 9 "LedgerShares$Sheet" "stages" "[I", Cond.fieldLink RX3 50 "LedgerShares$Sheet" "endedBy" "[I", Cond.methodLink RX3 85 yX3_work, Cond.instanceMethod yX3_work, Cond.selects RX3 yX3_work yX3_work, Cond.initialized RX3, Cond.code yX3_work cX3_work 8 none, Cond.fieldLink RX3 18 "LedgerShares$Sheet" "readA" "[J", Cond.fieldLink RX3 22 "LedgerShares$Sheet" "readB" "[J", Cond.fieldLink RX3 53 "LedgerShares$Sheet" "book" "LLedgerShares$Book;", Cond.fieldLink RX3 93 "LedgerShares$Book" "cs" "[I", Cond.fieldLink RX3 38 "LedgerShares$Sheet" "outcomes" "[I", Cond.fieldLink RX3 25 "LedgerShares$Sheet" "changesA" "[Z", Cond.fieldLink RX3 29 "LedgerShares$Sheet" "changesB" "[Z", Cond.fieldLink RX3 96 "LedgerShares$Book" "ops" "[I", Cond.methodLink RX3 99 yX3_giveB, Cond.instanceMethod yX3_giveB, Cond.selects RX3 yX3_giveB yX3_giveB, Cond.code yX3_giveB cX3_giveB 4 none, Cond.fieldLink RX3 35 "LedgerShares$Sheet" "givesB" "[J", Cond.methodLink RX3 103 yX3_pay, Cond.instanceMethod yX3_pay, Cond.selects RX3 yX3_pay yX3_pay]
def wsX3_doesLastStep_r2 : List Cond := [Cond.code yX3_pay cX3_pay 8 none, Cond.fieldLink RX3 67 "LedgerShares$Book" "as" "[I", Cond.fieldLink RX3 72 "LedgerShares$Book" "bs" "[I", Cond.methodLink RX3 107 yX3_failUnless, Cond.instanceMethod yX3_failUnless, Cond.selects RX3 yX3_failUnless yX3_failUnless, Cond.code yX3_failUnless cX3_failUnless 3 none, Cond.methodLink RX3 111 yX3_giveA, Cond.instanceMethod yX3_giveA, Cond.selects RX3 yX3_giveA yX3_giveA, Cond.code yX3_giveA cX3_giveA 4 none, Cond.fieldLink RX3 32 "LedgerShares$Sheet" "givesA" "[J", Cond.methodLink RX3 114 yX3_meet, Cond.instanceMethod yX3_meet, Cond.selects RX3 yX3_meet yX3_meet, Cond.code yX3_meet cX3_meet 5 none]
def wsX3_doesLastStep : List Cond := .code yX3_doesLastStep cX3_doesLastStep 3 (some .boolean) :: ((wsX3_doesLastStep_r1 ++ wsX3_doesLastStep_r2) ++ wsX30 ++ wsX00)
def wsX2_takeTurn_r1 : List Cond := [Cond.fieldLink RX2 12 "LedgerShares$Run" "crew" "LLedgerShares$Crew;", Cond.fieldLink RX2 96 "LedgerShares$Crew" "holds" "[I", Cond.fieldLink RX2 27 "LedgerShares$Run" "sheet" "LLedgerShares$Sheet;", Cond.fieldLink RX2 65 "LedgerShares$Run" "underWay" "I", Cond.static yX4_within, Cond.initialized RX4, Cond.code yX4_within cX4_within 3 (some .boolean), Cond.methodLink RX2 100 yX2_takeCall, Cond.instanceMethod yX2_takeCall, Cond.selects RX2 yX2_takeCall yX2_takeCall, Cond.initialized RX2, Cond.code yX2_takeCall cX2_takeCall 3 none, Cond.fieldLink RX2 38 "LedgerShares$Run" "kept" "I", Cond.fieldLink RX2 42 "LedgerShares$Run" "calls" "I", Cond.fieldLink RX2 74 "LedgerShares$Run" "room" "I", Cond.methodLink RX2 107 Lib.Math.min.name, Cond.static Lib.Math.min.name, Cond.initialized "java/lang/Math", Cond.code Lib.Math.min.name Lib.Math.min.code 2 (some .int), Cond.fieldLink RX2 86 "LedgerShares$Run" "idle" "I", Cond.fieldLink RX2 77 "LedgerShares$Run" "begun" "I", Cond.fieldLink RX2 48 "LedgerShares$Run" "ticks" "I", Cond.fieldLink RX2 18 "LedgerShares$Run" "book" "LLedgerShares$Book;", Cond.fieldLink RX2 120 "LedgerShares$Book" "goneAt" "[I"]
def wsX2_takeTurn_r2 : List Cond := [Cond.fieldLink RX2 83 "LedgerShares$Run" "dismissed" "I", Cond.methodLink RX2 110 yX3_leastOpen, Cond.instanceMethod yX3_leastOpen, Cond.selects RX3 yX3_leastOpen yX3_leastOpen, Cond.initialized RX3, Cond.code yX3_leastOpen cX3_leastOpen 4 (some .int), Cond.methodLink RX3 75 Lib.Math.max.name, Cond.static Lib.Math.max.name, Cond.code Lib.Math.max.name Lib.Math.max.code 2 (some .int), Cond.fieldLink RX3 9 "LedgerShares$Sheet" "stages" "[I", Cond.methodLink RX2 113 yX3_noteBegun, Cond.instanceMethod yX3_noteBegun, Cond.selects RX3 yX3_noteBegun yX3_noteBegun, Cond.code yX3_noteBegun cX3_noteBegun 3 none, Cond.fieldLink RX3 41 "LedgerShares$Sheet" "timesBegun" "[I", Cond.fieldLink RX3 44 "LedgerShares$Sheet" "firstBegun" "[I", Cond.methodLink RX2 116 yX1_beginsOnceMore, Cond.instanceMethod yX1_beginsOnceMore, Cond.selects RX1 yX1_beginsOnceMore yX1_beginsOnceMore, Cond.initialized RX1, Cond.code yX1_beginsOnceMore cX1_beginsOnceMore 2 (some .int), Cond.fieldLink RX1 18 "LedgerShares$Crew" "begins" "[I", Cond.methodLink RX2 125 yX1_dismiss, Cond.instanceMethod yX1_dismiss]
def wsX2_takeTurn_r3 : List Cond := [Cond.selects RX1 yX1_dismiss yX1_dismiss, Cond.code yX1_dismiss cX1_dismiss 4 none, Cond.fieldLink RX1 31 "LedgerShares$Crew" "left" "I", Cond.fieldLink RX1 9 "LedgerShares$Crew" "present" "[I", Cond.methodLink RX2 128 yX3_setUnderWay, Cond.instanceMethod yX3_setUnderWay, Cond.selects RX3 yX3_setUnderWay yX3_setUnderWay, Cond.code yX3_setUnderWay cX3_setUnderWay 2 none, Cond.fieldLink RX3 15 "LedgerShares$Sheet" "stepsLeft" "[I", Cond.fieldLink RX3 53 "LedgerShares$Sheet" "book" "LLedgerShares$Book;", Cond.fieldLink RX3 78 "LedgerShares$Book" "steps" "[I", Cond.fieldLink RX3 18 "LedgerShares$Sheet" "readA" "[J", Cond.fieldLink RX3 67 "LedgerShares$Book" "as" "[I", Cond.fieldLink RX3 22 "LedgerShares$Sheet" "readB" "[J", Cond.fieldLink RX3 72 "LedgerShares$Book" "bs" "[I", Cond.methodLink RX3 81 yX3_standing, Cond.instanceMethod yX3_standing, Cond.selects RX3 yX3_standing yX3_standing, Cond.code yX3_standing cX3_standing 4 (some .long), Cond.methodLink RX3 57 Lib.Math.min.name, Cond.fieldLink RX3 25 "LedgerShares$Sheet" "changesA" "[Z", Cond.fieldLink RX3 32 "LedgerShares$Sheet" "givesA" "[J", Cond.fieldLink RX3 29 "LedgerShares$Sheet" "changesB" "[Z", Cond.fieldLink RX3 35 "LedgerShares$Sheet" "givesB" "[J"]
def wsX2_takeTurn_r4 : List Cond := [Cond.methodLink RX3 63 yX3_hasEnded, Cond.instanceMethod yX3_hasEnded, Cond.selects RX3 yX3_hasEnded yX3_hasEnded, Cond.code yX3_hasEnded cX3_hasEnded 2 (some .boolean), Cond.methodLink RX2 103 yX3_doesLastStep, Cond.instanceMethod yX3_doesLastStep, Cond.selects RX3 yX3_doesLastStep yX3_doesLastStep, Cond.code yX3_doesLastStep cX3_doesLastStep 3 (some .boolean), Cond.fieldLink RX3 50 "LedgerShares$Sheet" "endedBy" "[I", Cond.methodLink RX3 85 yX3_work, Cond.instanceMethod yX3_work, Cond.selects RX3 yX3_work yX3_work, Cond.code yX3_work cX3_work 8 none, Cond.fieldLink RX3 93 "LedgerShares$Book" "cs" "[I", Cond.fieldLink RX3 38 "LedgerShares$Sheet" "outcomes" "[I", Cond.fieldLink RX3 96 "LedgerShares$Book" "ops" "[I", Cond.methodLink RX3 99 yX3_giveB, Cond.instanceMethod yX3_giveB, Cond.selects RX3 yX3_giveB yX3_giveB, Cond.code yX3_giveB cX3_giveB 4 none, Cond.methodLink RX3 103 yX3_pay, Cond.instanceMethod yX3_pay, Cond.selects RX3 yX3_pay yX3_pay, Cond.code yX3_pay cX3_pay 8 none]
def wsX2_takeTurn_r5 : List Cond := [Cond.methodLink RX3 107 yX3_failUnless, Cond.instanceMethod yX3_failUnless, Cond.selects RX3 yX3_failUnless yX3_failUnless, Cond.code yX3_failUnless cX3_failUnless 3 none, Cond.methodLink RX3 111 yX3_giveA, Cond.instanceMethod yX3_giveA, Cond.selects RX3 yX3_giveA yX3_giveA, Cond.code yX3_giveA cX3_giveA 4 none, Cond.methodLink RX3 114 yX3_meet, Cond.instanceMethod yX3_meet, Cond.selects RX3 yX3_meet yX3_meet, Cond.code yX3_meet cX3_meet 5 none]
def wsX2_takeTurn : List Cond := .code yX2_takeTurn cX2_takeTurn 3 none :: ((wsX2_takeTurn_r1 ++ (wsX2_takeTurn_r2 ++ (wsX2_takeTurn_r3 ++ (wsX2_takeTurn_r4 ++ wsX2_takeTurn_r5)))) ++ wsX20 ++ wsX10 ++ wsX00 ++ wsX30)
def wsX3_waitsToBeKept : List Cond := .code yX3_waitsToBeKept cX3_waitsToBeKept 2 (some .boolean) :: ([.fieldLink RX3 9 "LedgerShares$Sheet" "stages" "[I", .static yX4_within, .initialized RX4, .code yX4_within cX4_within 3 (some .boolean)] ++ wsX30)
def wsX3_settle : List Cond := .code yX3_settle cX3_settle 4 (some .boolean) :: ([.fieldLink RX3 18 "LedgerShares$Sheet" "readA" "[J", .fieldLink RX3 53 "LedgerShares$Sheet" "book" "LLedgerShares$Book;", .fieldLink RX3 67 "LedgerShares$Book" "as" "[I", .fieldLink RX3 22 "LedgerShares$Sheet" "readB" "[J", .fieldLink RX3 72 "LedgerShares$Book" "bs" "[I", .fieldLink RX3 9 "LedgerShares$Sheet" "stages" "[I", .fieldLink RX3 47 "LedgerShares$Sheet" "keptAt" "[I", .methodLink RX3 81 yX3_standing, .instanceMethod yX3_standing, .selects RX3 yX3_standing yX3_standing, .initialized RX3, .code yX3_standing cX3_standing 4 (some .long), .methodLink RX3 57 Lib.Math.min.name, .static Lib.Math.min.name, .initialized "java/lang/Math", .code Lib.Math.min.name Lib.Math.min.code 2 (some .int), .fieldLink RX3 25 "LedgerShares$Sheet" "changesA" "[Z", .fieldLink RX3 32 "LedgerShares$Sheet" "givesA" "[J", .fieldLink RX3 29 "LedgerShares$Sheet" "changesB" "[Z", .fieldLink RX3 35 "LedgerShares$Sheet" "givesB" "[J", .methodLink RX3 63 yX3_hasEnded, .instanceMethod yX3_hasEnded, .selects RX3 yX3_hasEnded yX3_hasEnded, .code yX3_hasEnded cX3_hasEnded 2 (some .boolean)] ++ wsX30 ++ wsX00)
def wsX2_keepWhatStands_r1 : List Cond := [Cond.fieldLink RX2 38 "LedgerShares$Run" "kept" "I", Cond.fieldLink RX2 42 "LedgerShares$Run" "calls" "I", Cond.fieldLink RX2 27 "LedgerShares$Run" "sheet" "LLedgerShares$Sheet;", Cond.fieldLink RX2 48 "LedgerShares$Run" "ticks" "I", Cond.fieldLink RX2 80 "LedgerShares$Run" "anew" "I", Cond.methodLink RX2 131 yX3_waitsToBeKept, Cond.instanceMethod yX3_waitsToBeKept, Cond.selects RX3 yX3_waitsToBeKept yX3_waitsToBeKept, Cond.initialized RX3, Cond.code yX3_waitsToBeKept cX3_waitsToBeKept 2 (some .boolean), Cond.fieldLink RX3 9 "LedgerShares$Sheet" "stages" "[I", Cond.static yX4_within, Cond.initialized RX4, Cond.code yX4_within cX4_within 3 (some .boolean), Cond.methodLink RX2 135 yX3_settle, Cond.instanceMethod yX3_settle, Cond.selects RX3 yX3_settle yX3_settle, Cond.code yX3_settle cX3_settle 4 (some .boolean), Cond.fieldLink RX3 18 "LedgerShares$Sheet" "readA" "[J", Cond.fieldLink RX3 53 "LedgerShares$Sheet" "book" "LLedgerShares$Book;", Cond.fieldLink RX3 67 "LedgerShares$Book" "as" "[I", Cond.fieldLink RX3 22 "LedgerShares$Sheet" "readB" "[J", Cond.fieldLink RX3 72 "LedgerShares$Book" "bs" "[I", Cond.fieldLink RX3 47 "LedgerShares$Sheet" "keptAt" "[I"]
def wsX2_keepWhatStands_r2 : List Cond := [Cond.methodLink RX3 81 yX3_standing, Cond.instanceMethod yX3_standing, Cond.selects RX3 yX3_standing yX3_standing, Cond.code yX3_standing cX3_standing 4 (some .long), Cond.methodLink RX3 57 Lib.Math.min.name, Cond.static Lib.Math.min.name, Cond.initialized "java/lang/Math", Cond.code Lib.Math.min.name Lib.Math.min.code 2 (some .int), Cond.fieldLink RX3 25 "LedgerShares$Sheet" "changesA" "[Z", Cond.fieldLink RX3 32 "LedgerShares$Sheet" "givesA" "[J", Cond.fieldLink RX3 29 "LedgerShares$Sheet" "changesB" "[Z", Cond.fieldLink RX3 35 "LedgerShares$Sheet" "givesB" "[J", Cond.methodLink RX3 63 yX3_hasEnded, Cond.instanceMethod yX3_hasEnded, Cond.selects RX3 yX3_hasEnded yX3_hasEnded, Cond.code yX3_hasEnded cX3_hasEnded 2 (some .boolean)]
def wsX2_keepWhatStands : List Cond := .code yX2_keepWhatStands cX2_keepWhatStands 1 none :: ((wsX2_keepWhatStands_r1 ++ wsX2_keepWhatStands_r2) ++ wsX20 ++ wsX30 ++ wsX00)
def wsX2_goesThrough_r1 : List Cond := [Cond.fieldLink RX2 12 "LedgerShares$Run" "crew" "LLedgerShares$Crew;", Cond.fieldLink RX2 38 "LedgerShares$Run" "kept" "I", Cond.fieldLink RX2 42 "LedgerShares$Run" "calls" "I", Cond.fieldLink RX2 45 "LedgerShares$Crew" "left" "I", Cond.fieldLink RX2 48 "LedgerShares$Run" "ticks" "I", Cond.fieldLink RX2 62 "LedgerShares$Run" "mostUnderWay" "I", Cond.fieldLink RX2 65 "LedgerShares$Run" "underWay" "I", Cond.methodLink RX2 68 Lib.Math.max.name, Cond.static Lib.Math.max.name, Cond.initialized "java/lang/Math", Cond.code Lib.Math.max.name Lib.Math.max.code 2 (some .int), Cond.methodLink RX2 31 yX2_prepare, Cond.instanceMethod yX2_prepare, Cond.selects RX2 yX2_prepare yX2_prepare, Cond.initialized RX2, Cond.code yX2_prepare cX2_prepare 3 none, Cond.fieldLink RX2 74 "LedgerShares$Run" "room" "I", Cond.fieldLink RX2 77 "LedgerShares$Run" "begun" "I", Cond.fieldLink RX2 80 "LedgerShares$Run" "anew" "I", Cond.fieldLink RX2 83 "LedgerShares$Run" "dismissed" "I", Cond.fieldLink RX2 86 "LedgerShares$Run" "idle" "I", Cond.fieldLink RX2 27 "LedgerShares$Run" "sheet" "LLedgerShares$Sheet;", Cond.methodLink RX2 89 yX3_openAll, Cond.instanceMethod yX3_openAll]
def wsX2_goesThrough_r2 : List Cond := [Cond.selects RX3 yX3_openAll yX3_openAll, Cond.initialized RX3, Cond.code yX3_openAll cX3_openAll 2 none, Cond.fieldLink RX3 9 "LedgerShares$Sheet" "stages" "[I", Cond.fieldLink RX3 38 "LedgerShares$Sheet" "outcomes" "[I", Cond.fieldLink RX3 41 "LedgerShares$Sheet" "timesBegun" "[I", Cond.fieldLink RX3 44 "LedgerShares$Sheet" "firstBegun" "[I", Cond.fieldLink RX3 47 "LedgerShares$Sheet" "keptAt" "[I", Cond.fieldLink RX3 50 "LedgerShares$Sheet" "endedBy" "[I", Cond.methodLink RX2 35 yX1_gather, Cond.instanceMethod yX1_gather, Cond.selects RX1 yX1_gather yX1_gather, Cond.initialized RX1, Cond.code yX1_gather cX1_gather 4 none, Cond.fieldLink RX1 21 "LedgerShares$Crew" "seed" "I", Cond.methodLink RX1 25 Lib.Math.min.name, Cond.static Lib.Math.min.name, Cond.code Lib.Math.min.name Lib.Math.min.code 2 (some .int), Cond.fieldLink RX1 31 "LedgerShares$Crew" "left" "I", Cond.fieldLink RX1 9 "LedgerShares$Crew" "present" "[I", Cond.fieldLink RX1 15 "LedgerShares$Crew" "holds" "[I", Cond.fieldLink RX1 18 "LedgerShares$Crew" "begins" "[I", Cond.methodLink RX2 51 yX1_nextInTurn, Cond.instanceMethod yX1_nextInTurn]
def wsX2_goesThrough_r3 : List Cond := [Cond.selects RX1 yX1_nextInTurn yX1_nextInTurn, Cond.code yX1_nextInTurn cX1_nextInTurn 1 (some .int), Cond.constant RX1 34 (1103515245), Cond.methodLink RX2 55 yX2_takeTurn, Cond.instanceMethod yX2_takeTurn, Cond.selects RX2 yX2_takeTurn yX2_takeTurn, Cond.code yX2_takeTurn cX2_takeTurn 3 none, Cond.fieldLink RX2 96 "LedgerShares$Crew" "holds" "[I", Cond.static yX4_within, Cond.initialized RX4, Cond.code yX4_within cX4_within 3 (some .boolean), Cond.methodLink RX2 100 yX2_takeCall, Cond.instanceMethod yX2_takeCall, Cond.selects RX2 yX2_takeCall yX2_takeCall, Cond.code yX2_takeCall cX2_takeCall 3 none, Cond.methodLink RX2 107 Lib.Math.min.name, Cond.fieldLink RX2 18 "LedgerShares$Run" "book" "LLedgerShares$Book;", Cond.fieldLink RX2 120 "LedgerShares$Book" "goneAt" "[I", Cond.methodLink RX2 110 yX3_leastOpen, Cond.instanceMethod yX3_leastOpen, Cond.selects RX3 yX3_leastOpen yX3_leastOpen, Cond.code yX3_leastOpen cX3_leastOpen 4 (some .int), Cond.methodLink RX3 75 Lib.Math.max.name, Cond.methodLink RX2 113 yX3_noteBegun]
def wsX2_goesThrough_r4 : List Cond := [Cond.instanceMethod yX3_noteBegun, Cond.selects RX3 yX3_noteBegun yX3_noteBegun, Cond.code yX3_noteBegun cX3_noteBegun 3 none, Cond.methodLink RX2 116 yX1_beginsOnceMore, Cond.instanceMethod yX1_beginsOnceMore, Cond.selects RX1 yX1_beginsOnceMore yX1_beginsOnceMore, Cond.code yX1_beginsOnceMore cX1_beginsOnceMore 2 (some .int), Cond.methodLink RX2 125 yX1_dismiss, Cond.instanceMethod yX1_dismiss, Cond.selects RX1 yX1_dismiss yX1_dismiss, Cond.code yX1_dismiss cX1_dismiss 4 none, Cond.methodLink RX2 128 yX3_setUnderWay, Cond.instanceMethod yX3_setUnderWay, Cond.selects RX3 yX3_setUnderWay yX3_setUnderWay, Cond.code yX3_setUnderWay cX3_setUnderWay 2 none, Cond.fieldLink RX3 15 "LedgerShares$Sheet" "stepsLeft" "[I", Cond.fieldLink RX3 53 "LedgerShares$Sheet" "book" "LLedgerShares$Book;", Cond.fieldLink RX3 78 "LedgerShares$Book" "steps" "[I", Cond.fieldLink RX3 18 "LedgerShares$Sheet" "readA" "[J", Cond.fieldLink RX3 67 "LedgerShares$Book" "as" "[I", Cond.fieldLink RX3 22 "LedgerShares$Sheet" "readB" "[J", Cond.fieldLink RX3 72 "LedgerShares$Book" "bs" "[I", Cond.methodLink RX3 81 yX3_standing, Cond.instanceMethod yX3_standing]
def wsX2_goesThrough_r5 : List Cond := [Cond.selects RX3 yX3_standing yX3_standing, Cond.code yX3_standing cX3_standing 4 (some .long), Cond.methodLink RX3 57 Lib.Math.min.name, Cond.fieldLink RX3 25 "LedgerShares$Sheet" "changesA" "[Z", Cond.fieldLink RX3 32 "LedgerShares$Sheet" "givesA" "[J", Cond.fieldLink RX3 29 "LedgerShares$Sheet" "changesB" "[Z", Cond.fieldLink RX3 35 "LedgerShares$Sheet" "givesB" "[J", Cond.methodLink RX3 63 yX3_hasEnded, Cond.instanceMethod yX3_hasEnded, Cond.selects RX3 yX3_hasEnded yX3_hasEnded, Cond.code yX3_hasEnded cX3_hasEnded 2 (some .boolean), Cond.methodLink RX2 103 yX3_doesLastStep, Cond.instanceMethod yX3_doesLastStep, Cond.selects RX3 yX3_doesLastStep yX3_doesLastStep, Cond.code yX3_doesLastStep cX3_doesLastStep 3 (some .boolean), Cond.methodLink RX3 85 yX3_work, Cond.instanceMethod yX3_work, Cond.selects RX3 yX3_work yX3_work, Cond.code yX3_work cX3_work 8 none, Cond.fieldLink RX3 93 "LedgerShares$Book" "cs" "[I", Cond.fieldLink RX3 96 "LedgerShares$Book" "ops" "[I", Cond.methodLink RX3 99 yX3_giveB, Cond.instanceMethod yX3_giveB, Cond.selects RX3 yX3_giveB yX3_giveB]
def wsX2_goesThrough_r6 : List Cond := [Cond.code yX3_giveB cX3_giveB 4 none, Cond.methodLink RX3 103 yX3_pay, Cond.instanceMethod yX3_pay, Cond.selects RX3 yX3_pay yX3_pay, Cond.code yX3_pay cX3_pay 8 none, Cond.methodLink RX3 107 yX3_failUnless, Cond.instanceMethod yX3_failUnless, Cond.selects RX3 yX3_failUnless yX3_failUnless, Cond.code yX3_failUnless cX3_failUnless 3 none, Cond.methodLink RX3 111 yX3_giveA, Cond.instanceMethod yX3_giveA, Cond.selects RX3 yX3_giveA yX3_giveA, Cond.code yX3_giveA cX3_giveA 4 none, Cond.methodLink RX3 114 yX3_meet, Cond.instanceMethod yX3_meet, Cond.selects RX3 yX3_meet yX3_meet, Cond.code yX3_meet cX3_meet 5 none, Cond.methodLink RX2 59 yX2_keepWhatStands, Cond.instanceMethod yX2_keepWhatStands, Cond.selects RX2 yX2_keepWhatStands yX2_keepWhatStands, Cond.code yX2_keepWhatStands cX2_keepWhatStands 1 none, Cond.methodLink RX2 131 yX3_waitsToBeKept, Cond.instanceMethod yX3_waitsToBeKept, Cond.selects RX3 yX3_waitsToBeKept yX3_waitsToBeKept]
def wsX2_goesThrough_r7 : List Cond := [Cond.code yX3_waitsToBeKept cX3_waitsToBeKept 2 (some .boolean), Cond.methodLink RX2 135 yX3_settle, Cond.instanceMethod yX3_settle, Cond.selects RX3 yX3_settle yX3_settle, Cond.code yX3_settle cX3_settle 4 (some .boolean)]
def wsX2_goesThrough : List Cond := .code yX2_goesThrough cX2_goesThrough 6 (some .boolean) :: ((wsX2_goesThrough_r1 ++ (wsX2_goesThrough_r2 ++ (wsX2_goesThrough_r3 ++ (wsX2_goesThrough_r4 ++ (wsX2_goesThrough_r5 ++ (wsX2_goesThrough_r6 ++ wsX2_goesThrough_r7)))))) ++ wsX20 ++ wsX10 ++ wsX30 ++ wsX00)
def wsX2_leavesLike : List Cond := .code yX2_leavesLike cX2_leavesLike 3 (some .boolean) :: ([.fieldLink RX2 42 "LedgerShares$Run" "calls" "I", .fieldLink RX2 27 "LedgerShares$Run" "sheet" "LLedgerShares$Sheet;", .fieldLink RX2 142 "LedgerShares$Sheet" "outcomes" "[I", .methodLink RX2 138 yX3_standing, .instanceMethod yX3_standing, .selects RX3 yX3_standing yX3_standing, .initialized RX3, .code yX3_standing cX3_standing 4 (some .long), .methodLink RX3 57 Lib.Math.min.name, .static Lib.Math.min.name, .initialized "java/lang/Math", .code Lib.Math.min.name Lib.Math.min.code 2 (some .int), .fieldLink RX3 25 "LedgerShares$Sheet" "changesA" "[Z", .fieldLink RX3 53 "LedgerShares$Sheet" "book" "LLedgerShares$Book;", .fieldLink RX3 67 "LedgerShares$Book" "as" "[I", .fieldLink RX3 32 "LedgerShares$Sheet" "givesA" "[J", .fieldLink RX3 29 "LedgerShares$Sheet" "changesB" "[Z", .fieldLink RX3 72 "LedgerShares$Book" "bs" "[I", .fieldLink RX3 35 "LedgerShares$Sheet" "givesB" "[J", .methodLink RX3 63 yX3_hasEnded, .instanceMethod yX3_hasEnded, .selects RX3 yX3_hasEnded yX3_hasEnded, .code yX3_hasEnded cX3_hasEnded 2 (some .boolean), .fieldLink RX3 9 "LedgerShares$Sheet" "stages" "[I"] ++ wsX20 ++ wsX30 ++ wsX00)
def wsX3_failures : List Cond := .code yX3_failures cX3_failures 4 (some .int) :: ([.fieldLink RX3 38 "LedgerShares$Sheet" "outcomes" "[I"] ++ wsX30)
def wsX2_total : List Cond := .code yX2_total cX2_total 2 (some .int) :: ([.fieldLink RX2 42 "LedgerShares$Run" "calls" "I", .fieldLink RX2 48 "LedgerShares$Run" "ticks" "I", .fieldLink RX2 77 "LedgerShares$Run" "begun" "I", .fieldLink RX2 80 "LedgerShares$Run" "anew" "I", .fieldLink RX2 83 "LedgerShares$Run" "dismissed" "I", .fieldLink RX2 62 "LedgerShares$Run" "mostUnderWay" "I", .fieldLink RX2 86 "LedgerShares$Run" "idle" "I", .fieldLink RX2 27 "LedgerShares$Run" "sheet" "LLedgerShares$Sheet;", .methodLink RX2 145 yX3_failures, .instanceMethod yX3_failures, .selects RX3 yX3_failures yX3_failures, .initialized RX3, .code yX3_failures cX3_failures 4 (some .int), .fieldLink RX3 38 "LedgerShares$Sheet" "outcomes" "[I"] ++ wsX20 ++ wsX30)
def wsX3_figure : List Cond := .code yX3_figure cX3_figure 3 (some .int) :: ([.fieldLink RX3 41 "LedgerShares$Sheet" "timesBegun" "[I", .fieldLink RX3 44 "LedgerShares$Sheet" "firstBegun" "[I", .fieldLink RX3 47 "LedgerShares$Sheet" "keptAt" "[I", .fieldLink RX3 50 "LedgerShares$Sheet" "endedBy" "[I"] ++ wsX30)
def wsX4_init_r1 : List Cond := [Cond.methodLink RX4 1 objectInit, Cond.instanceMethod objectInit, Cond.code objectInit ⟨#[0xb1]⟩ 1 none, Cond.classLink RX4 7 RX0, Cond.instantiable RX0 7, Cond.initialized RX0, Cond.fieldLink RX4 10 "LedgerShares" "book" "LLedgerShares$Book;", Cond.classLink RX4 16 RX2, Cond.instantiable RX2 13, Cond.initialized RX2, Cond.fieldLink RX4 21 "LedgerShares" "latest" "LLedgerShares$Run;", Cond.fieldLink RX4 25 "LedgerShares" "spare" "LLedgerShares$Run;", Cond.fieldLink RX4 28 "LedgerShares" "second" "LLedgerShares$Run;", Cond.instanceMethod yX0_init, Cond.code yX0_init cX0_init 1 none, Cond.methodLink RX0 3 objectInit, Cond.arrayClass .int, Cond.fieldLink RX0 9 "LedgerShares$Book" "ops" "[I", Cond.fieldLink RX0 15 "LedgerShares$Book" "as" "[I", Cond.fieldLink RX0 18 "LedgerShares$Book" "bs" "[I", Cond.fieldLink RX0 21 "LedgerShares$Book" "cs" "[I", Cond.fieldLink RX0 24 "LedgerShares$Book" "steps" "[I", Cond.fieldLink RX0 27 "LedgerShares$Book" "goneAt" "[I", Cond.methodLink RX4 18 yX2_init]
def wsX4_init_r2 : List Cond := [Cond.instanceMethod yX2_init, Cond.code yX2_init cX2_init 2 none, Cond.methodLink RX2 3 objectInit, Cond.classLink RX2 9 RX1, Cond.instantiable RX1 5, Cond.initialized RX1, Cond.fieldLink RX2 12 "LedgerShares$Run" "crew" "LLedgerShares$Crew;", Cond.fieldLink RX2 18 "LedgerShares$Run" "book" "LLedgerShares$Book;", Cond.classLink RX2 22 RX3, Cond.instantiable RX3 14, Cond.initialized RX3, Cond.fieldLink RX2 27 "LedgerShares$Run" "sheet" "LLedgerShares$Sheet;", Cond.instanceMethod yX1_init, Cond.code yX1_init cX1_init 1 none, Cond.methodLink RX1 3 objectInit, Cond.fieldLink RX1 9 "LedgerShares$Crew" "present" "[I", Cond.fieldLink RX1 15 "LedgerShares$Crew" "holds" "[I", Cond.fieldLink RX1 18 "LedgerShares$Crew" "begins" "[I", Cond.methodLink RX2 24 yX3_init, Cond.instanceMethod yX3_init, Cond.code yX3_init cX3_init 2 none, Cond.methodLink RX3 3 objectInit, Cond.fieldLink RX3 9 "LedgerShares$Sheet" "stages" "[I", Cond.fieldLink RX3 15 "LedgerShares$Sheet" "stepsLeft" "[I"]
def wsX4_init_r3 : List Cond := [Cond.arrayClass .long, Cond.fieldLink RX3 18 "LedgerShares$Sheet" "readA" "[J", Cond.fieldLink RX3 22 "LedgerShares$Sheet" "readB" "[J", Cond.arrayClass .boolean, Cond.fieldLink RX3 25 "LedgerShares$Sheet" "changesA" "[Z", Cond.fieldLink RX3 29 "LedgerShares$Sheet" "changesB" "[Z", Cond.fieldLink RX3 32 "LedgerShares$Sheet" "givesA" "[J", Cond.fieldLink RX3 35 "LedgerShares$Sheet" "givesB" "[J", Cond.fieldLink RX3 38 "LedgerShares$Sheet" "outcomes" "[I", Cond.fieldLink RX3 41 "LedgerShares$Sheet" "timesBegun" "[I", Cond.fieldLink RX3 44 "LedgerShares$Sheet" "firstBegun" "[I", Cond.fieldLink RX3 47 "LedgerShares$Sheet" "keptAt" "[I", Cond.fieldLink RX3 50 "LedgerShares$Sheet" "endedBy" "[I", Cond.fieldLink RX3 53 "LedgerShares$Sheet" "book" "LLedgerShares$Book;"]
def wsX4_init : List Cond := .code yX4_init cX4_init 2 none :: ((wsX4_init_r1 ++ (wsX4_init_r2 ++ wsX4_init_r3)) ++ wsX00 ++ wsX40 ++ wsX20 ++ wsX10 ++ wsX30)
def wsX4_call : List Cond := .code yX4_call cX4_call 6 (some .int) :: ([.constant RX4 35 (-1000000), .constant RX4 36 (1000000), .fieldLink RX4 10 "LedgerShares" "book" "LLedgerShares$Book;", .methodLink RX4 31 yX4_within, .static yX4_within, .initialized RX4, .code yX4_within cX4_within 3 (some .boolean), .methodLink RX4 37 yX0_enter, .instanceMethod yX0_enter, .selects RX0 yX0_enter yX0_enter, .initialized RX0, .code yX0_enter cX0_enter 7 (some .int), .fieldLink RX0 30 "LedgerShares$Book" "size" "I", .fieldLink RX0 9 "LedgerShares$Book" "ops" "[I", .fieldLink RX0 15 "LedgerShares$Book" "as" "[I", .fieldLink RX0 18 "LedgerShares$Book" "bs" "[I", .fieldLink RX0 21 "LedgerShares$Book" "cs" "[I", .fieldLink RX0 24 "LedgerShares$Book" "steps" "[I"] ++ wsX40 ++ wsX00)
def wsX4_clear : List Cond := .code yX4_clear cX4_clear 2 (some .int) :: ([.fieldLink RX4 10 "LedgerShares" "book" "LLedgerShares$Book;", .fieldLink RX4 41 "LedgerShares$Book" "size" "I", .fieldLink RX4 45 "LedgerShares" "hasRun" "Z", .fieldLink RX4 49 "LedgerShares" "runsDone" "I", .fieldLink RX4 52 "LedgerShares" "runsRefused" "I"] ++ wsX40 ++ wsX00)
def wsX4_gone : List Cond := .code yX4_gone cX4_gone 4 (some .int) :: ([.fieldLink RX4 10 "LedgerShares" "book" "LLedgerShares$Book;", .fieldLink RX4 55 "LedgerShares$Book" "goneAt" "[I", .methodLink RX4 31 yX4_within, .static yX4_within, .initialized RX4, .code yX4_within cX4_within 3 (some .boolean)] ++ wsX40 ++ wsX00)
def wsX4_isCrew : List Cond := .code yX4_isCrew cX4_isCrew 1 (some .boolean) :: ([.methodLink RX4 31 yX4_within, .static yX4_within, .initialized RX4, .code yX4_within cX4_within 3 (some .boolean)])
def wsX4_run_r1 : List Cond := [Cond.fieldLink RX4 10 "LedgerShares" "book" "LLedgerShares$Book;", Cond.fieldLink RX4 41 "LedgerShares$Book" "size" "I", Cond.fieldLink RX4 25 "LedgerShares" "spare" "LLedgerShares$Run;", Cond.fieldLink RX4 52 "LedgerShares" "runsRefused" "I", Cond.fieldLink RX4 21 "LedgerShares" "latest" "LLedgerShares$Run;", Cond.fieldLink RX4 45 "LedgerShares" "hasRun" "Z", Cond.fieldLink RX4 49 "LedgerShares" "runsDone" "I", Cond.fieldLink RX4 67 "LedgerShares$Run" "ticks" "I", Cond.methodLink RX4 31 yX4_within, Cond.static yX4_within, Cond.initialized RX4, Cond.code yX4_within cX4_within 3 (some .boolean), Cond.methodLink RX4 59 yX4_isCrew, Cond.static yX4_isCrew, Cond.code yX4_isCrew cX4_isCrew 1 (some .boolean), Cond.methodLink RX4 63 yX2_goesThrough, Cond.instanceMethod yX2_goesThrough, Cond.selects RX2 yX2_goesThrough yX2_goesThrough, Cond.initialized RX2, Cond.code yX2_goesThrough cX2_goesThrough 6 (some .boolean), Cond.fieldLink RX2 12 "LedgerShares$Run" "crew" "LLedgerShares$Crew;", Cond.fieldLink RX2 38 "LedgerShares$Run" "kept" "I", Cond.fieldLink RX2 42 "LedgerShares$Run" "calls" "I", Cond.fieldLink RX2 45 "LedgerShares$Crew" "left" "I"]
def wsX4_run_r2 : List Cond := [Cond.fieldLink RX2 48 "LedgerShares$Run" "ticks" "I", Cond.fieldLink RX2 62 "LedgerShares$Run" "mostUnderWay" "I", Cond.fieldLink RX2 65 "LedgerShares$Run" "underWay" "I", Cond.methodLink RX2 68 Lib.Math.max.name, Cond.static Lib.Math.max.name, Cond.initialized "java/lang/Math", Cond.code Lib.Math.max.name Lib.Math.max.code 2 (some .int), Cond.methodLink RX2 31 yX2_prepare, Cond.instanceMethod yX2_prepare, Cond.selects RX2 yX2_prepare yX2_prepare, Cond.code yX2_prepare cX2_prepare 3 none, Cond.fieldLink RX2 74 "LedgerShares$Run" "room" "I", Cond.fieldLink RX2 77 "LedgerShares$Run" "begun" "I", Cond.fieldLink RX2 80 "LedgerShares$Run" "anew" "I", Cond.fieldLink RX2 83 "LedgerShares$Run" "dismissed" "I", Cond.fieldLink RX2 86 "LedgerShares$Run" "idle" "I", Cond.fieldLink RX2 27 "LedgerShares$Run" "sheet" "LLedgerShares$Sheet;", Cond.methodLink RX2 89 yX3_openAll, Cond.instanceMethod yX3_openAll, Cond.selects RX3 yX3_openAll yX3_openAll, Cond.initialized RX3, Cond.code yX3_openAll cX3_openAll 2 none, Cond.fieldLink RX3 9 "LedgerShares$Sheet" "stages" "[I", Cond.fieldLink RX3 38 "LedgerShares$Sheet" "outcomes" "[I"]
def wsX4_run_r3 : List Cond := [Cond.fieldLink RX3 41 "LedgerShares$Sheet" "timesBegun" "[I", Cond.fieldLink RX3 44 "LedgerShares$Sheet" "firstBegun" "[I", Cond.fieldLink RX3 47 "LedgerShares$Sheet" "keptAt" "[I", Cond.fieldLink RX3 50 "LedgerShares$Sheet" "endedBy" "[I", Cond.methodLink RX2 35 yX1_gather, Cond.instanceMethod yX1_gather, Cond.selects RX1 yX1_gather yX1_gather, Cond.initialized RX1, Cond.code yX1_gather cX1_gather 4 none, Cond.fieldLink RX1 21 "LedgerShares$Crew" "seed" "I", Cond.methodLink RX1 25 Lib.Math.min.name, Cond.static Lib.Math.min.name, Cond.code Lib.Math.min.name Lib.Math.min.code 2 (some .int), Cond.fieldLink RX1 31 "LedgerShares$Crew" "left" "I", Cond.fieldLink RX1 9 "LedgerShares$Crew" "present" "[I", Cond.fieldLink RX1 15 "LedgerShares$Crew" "holds" "[I", Cond.fieldLink RX1 18 "LedgerShares$Crew" "begins" "[I", Cond.methodLink RX2 51 yX1_nextInTurn, Cond.instanceMethod yX1_nextInTurn, Cond.selects RX1 yX1_nextInTurn yX1_nextInTurn, Cond.code yX1_nextInTurn cX1_nextInTurn 1 (some .int), Cond.constant RX1 34 (1103515245), Cond.methodLink RX2 55 yX2_takeTurn, Cond.instanceMethod yX2_takeTurn]
def wsX4_run_r4 : List Cond := [Cond.selects RX2 yX2_takeTurn yX2_takeTurn, Cond.code yX2_takeTurn cX2_takeTurn 3 none, Cond.fieldLink RX2 96 "LedgerShares$Crew" "holds" "[I", Cond.methodLink RX2 100 yX2_takeCall, Cond.instanceMethod yX2_takeCall, Cond.selects RX2 yX2_takeCall yX2_takeCall, Cond.code yX2_takeCall cX2_takeCall 3 none, Cond.methodLink RX2 107 Lib.Math.min.name, Cond.fieldLink RX2 18 "LedgerShares$Run" "book" "LLedgerShares$Book;", Cond.fieldLink RX2 120 "LedgerShares$Book" "goneAt" "[I", Cond.methodLink RX2 110 yX3_leastOpen, Cond.instanceMethod yX3_leastOpen, Cond.selects RX3 yX3_leastOpen yX3_leastOpen, Cond.code yX3_leastOpen cX3_leastOpen 4 (some .int), Cond.methodLink RX3 75 Lib.Math.max.name, Cond.methodLink RX2 113 yX3_noteBegun, Cond.instanceMethod yX3_noteBegun, Cond.selects RX3 yX3_noteBegun yX3_noteBegun, Cond.code yX3_noteBegun cX3_noteBegun 3 none, Cond.methodLink RX2 116 yX1_beginsOnceMore, Cond.instanceMethod yX1_beginsOnceMore, Cond.selects RX1 yX1_beginsOnceMore yX1_beginsOnceMore, Cond.code yX1_beginsOnceMore cX1_beginsOnceMore 2 (some .int), Cond.methodLink RX2 125 yX1_dismiss]
def wsX4_run_r5 : List Cond := [Cond.instanceMethod yX1_dismiss, Cond.selects RX1 yX1_dismiss yX1_dismiss, Cond.code yX1_dismiss cX1_dismiss 4 none, Cond.methodLink RX2 128 yX3_setUnderWay, Cond.instanceMethod yX3_setUnderWay, Cond.selects RX3 yX3_setUnderWay yX3_setUnderWay, Cond.code yX3_setUnderWay cX3_setUnderWay 2 none, Cond.fieldLink RX3 15 "LedgerShares$Sheet" "stepsLeft" "[I", Cond.fieldLink RX3 53 "LedgerShares$Sheet" "book" "LLedgerShares$Book;", Cond.fieldLink RX3 78 "LedgerShares$Book" "steps" "[I", Cond.fieldLink RX3 18 "LedgerShares$Sheet" "readA" "[J", Cond.fieldLink RX3 67 "LedgerShares$Book" "as" "[I", Cond.fieldLink RX3 22 "LedgerShares$Sheet" "readB" "[J", Cond.fieldLink RX3 72 "LedgerShares$Book" "bs" "[I", Cond.methodLink RX3 81 yX3_standing, Cond.instanceMethod yX3_standing, Cond.selects RX3 yX3_standing yX3_standing, Cond.code yX3_standing cX3_standing 4 (some .long), Cond.methodLink RX3 57 Lib.Math.min.name, Cond.fieldLink RX3 25 "LedgerShares$Sheet" "changesA" "[Z", Cond.fieldLink RX3 32 "LedgerShares$Sheet" "givesA" "[J", Cond.fieldLink RX3 29 "LedgerShares$Sheet" "changesB" "[Z", Cond.fieldLink RX3 35 "LedgerShares$Sheet" "givesB" "[J", Cond.methodLink RX3 63 yX3_hasEnded]
def wsX4_run_r6 : List Cond := [Cond.instanceMethod yX3_hasEnded, Cond.selects RX3 yX3_hasEnded yX3_hasEnded, Cond.code yX3_hasEnded cX3_hasEnded 2 (some .boolean), Cond.methodLink RX2 103 yX3_doesLastStep, Cond.instanceMethod yX3_doesLastStep, Cond.selects RX3 yX3_doesLastStep yX3_doesLastStep, Cond.code yX3_doesLastStep cX3_doesLastStep 3 (some .boolean), Cond.methodLink RX3 85 yX3_work, Cond.instanceMethod yX3_work, Cond.selects RX3 yX3_work yX3_work, Cond.code yX3_work cX3_work 8 none, Cond.fieldLink RX3 93 "LedgerShares$Book" "cs" "[I", Cond.fieldLink RX3 96 "LedgerShares$Book" "ops" "[I", Cond.methodLink RX3 99 yX3_giveB, Cond.instanceMethod yX3_giveB, Cond.selects RX3 yX3_giveB yX3_giveB, Cond.code yX3_giveB cX3_giveB 4 none, Cond.methodLink RX3 103 yX3_pay, Cond.instanceMethod yX3_pay, Cond.selects RX3 yX3_pay yX3_pay, Cond.code yX3_pay cX3_pay 8 none, Cond.methodLink RX3 107 yX3_failUnless, Cond.instanceMethod yX3_failUnless, Cond.selects RX3 yX3_failUnless yX3_failUnless]
def wsX4_run_r7 : List Cond := [Cond.code yX3_failUnless cX3_failUnless 3 none, Cond.methodLink RX3 111 yX3_giveA, Cond.instanceMethod yX3_giveA, Cond.selects RX3 yX3_giveA yX3_giveA, Cond.code yX3_giveA cX3_giveA 4 none, Cond.methodLink RX3 114 yX3_meet, Cond.instanceMethod yX3_meet, Cond.selects RX3 yX3_meet yX3_meet, Cond.code yX3_meet cX3_meet 5 none, Cond.methodLink RX2 59 yX2_keepWhatStands, Cond.instanceMethod yX2_keepWhatStands, Cond.selects RX2 yX2_keepWhatStands yX2_keepWhatStands, Cond.code yX2_keepWhatStands cX2_keepWhatStands 1 none, Cond.methodLink RX2 131 yX3_waitsToBeKept, Cond.instanceMethod yX3_waitsToBeKept, Cond.selects RX3 yX3_waitsToBeKept yX3_waitsToBeKept, Cond.code yX3_waitsToBeKept cX3_waitsToBeKept 2 (some .boolean), Cond.methodLink RX2 135 yX3_settle, Cond.instanceMethod yX3_settle, Cond.selects RX3 yX3_settle yX3_settle, Cond.code yX3_settle cX3_settle 4 (some .boolean)]
def wsX4_run : List Cond := .code yX4_run cX4_run 6 (some .int) :: ((wsX4_run_r1 ++ (wsX4_run_r2 ++ (wsX4_run_r3 ++ (wsX4_run_r4 ++ (wsX4_run_r5 ++ (wsX4_run_r6 ++ wsX4_run_r7)))))) ++ wsX40 ++ wsX00 ++ wsX20 ++ wsX10 ++ wsX30)
def wsX4_amount_r1 : List Cond := [Cond.fieldLink RX4 45 "LedgerShares" "hasRun" "Z", Cond.fieldLink RX4 21 "LedgerShares" "latest" "LLedgerShares$Run;", Cond.fieldLink RX4 70 "LedgerShares$Run" "sheet" "LLedgerShares$Sheet;", Cond.fieldLink RX4 74 "LedgerShares$Run" "calls" "I", Cond.methodLink RX4 31 yX4_within, Cond.static yX4_within, Cond.initialized RX4, Cond.code yX4_within cX4_within 3 (some .boolean), Cond.methodLink RX4 77 yX3_standing, Cond.instanceMethod yX3_standing, Cond.selects RX3 yX3_standing yX3_standing, Cond.initialized RX3, Cond.code yX3_standing cX3_standing 4 (some .long), Cond.methodLink RX3 57 Lib.Math.min.name, Cond.static Lib.Math.min.name, Cond.initialized "java/lang/Math", Cond.code Lib.Math.min.name Lib.Math.min.code 2 (some .int), Cond.fieldLink RX3 25 "LedgerShares$Sheet" "changesA" "[Z", Cond.fieldLink RX3 53 "LedgerShares$Sheet" "book" "LLedgerShares$Book;", Cond.fieldLink RX3 67 "LedgerShares$Book" "as" "[I", Cond.fieldLink RX3 32 "LedgerShares$Sheet" "givesA" "[J", Cond.fieldLink RX3 29 "LedgerShares$Sheet" "changesB" "[Z", Cond.fieldLink RX3 72 "LedgerShares$Book" "bs" "[I", Cond.fieldLink RX3 35 "LedgerShares$Sheet" "givesB" "[J"]
def wsX4_amount_r2 : List Cond := [Cond.methodLink RX3 63 yX3_hasEnded, Cond.instanceMethod yX3_hasEnded, Cond.selects RX3 yX3_hasEnded yX3_hasEnded, Cond.code yX3_hasEnded cX3_hasEnded 2 (some .boolean), Cond.fieldLink RX3 9 "LedgerShares$Sheet" "stages" "[I"]
def wsX4_amount : List Cond := .code yX4_amount cX4_amount 2 (some .long) :: ((wsX4_amount_r1 ++ wsX4_amount_r2) ++ wsX40 ++ wsX20 ++ wsX30 ++ wsX00)
def wsX4_behind_r1 : List Cond := [Cond.fieldLink RX4 45 "LedgerShares" "hasRun" "Z", Cond.fieldLink RX4 21 "LedgerShares" "latest" "LLedgerShares$Run;", Cond.fieldLink RX4 74 "LedgerShares$Run" "calls" "I", Cond.constantLong RX4 83 (-2), Cond.constantLong RX4 85 (-3), Cond.fieldLink RX4 70 "LedgerShares$Run" "sheet" "LLedgerShares$Sheet;", Cond.methodLink RX4 31 yX4_within, Cond.static yX4_within, Cond.initialized RX4, Cond.code yX4_within cX4_within 3 (some .boolean), Cond.methodLink RX4 77 yX3_standing, Cond.instanceMethod yX3_standing, Cond.selects RX3 yX3_standing yX3_standing, Cond.initialized RX3, Cond.code yX3_standing cX3_standing 4 (some .long), Cond.methodLink RX3 57 Lib.Math.min.name, Cond.static Lib.Math.min.name, Cond.initialized "java/lang/Math", Cond.code Lib.Math.min.name Lib.Math.min.code 2 (some .int), Cond.fieldLink RX3 25 "LedgerShares$Sheet" "changesA" "[Z", Cond.fieldLink RX3 53 "LedgerShares$Sheet" "book" "LLedgerShares$Book;", Cond.fieldLink RX3 67 "LedgerShares$Book" "as" "[I", Cond.fieldLink RX3 32 "LedgerShares$Sheet" "givesA" "[J", Cond.fieldLink RX3 29 "LedgerShares$Sheet" "changesB" "[Z"]
def wsX4_behind_r2 : List Cond := [Cond.fieldLink RX3 72 "LedgerShares$Book" "bs" "[I", Cond.fieldLink RX3 35 "LedgerShares$Sheet" "givesB" "[J", Cond.methodLink RX3 63 yX3_hasEnded, Cond.instanceMethod yX3_hasEnded, Cond.selects RX3 yX3_hasEnded yX3_hasEnded, Cond.code yX3_hasEnded cX3_hasEnded 2 (some .boolean), Cond.fieldLink RX3 9 "LedgerShares$Sheet" "stages" "[I"]
def wsX4_behind : List Cond := .code yX4_behind cX4_behind 4 (some .long) :: ((wsX4_behind_r1 ++ wsX4_behind_r2) ++ wsX40 ++ wsX20 ++ wsX30 ++ wsX00)
def wsX4_isCall : List Cond := .code yX4_isCall cX4_isCall 2 (some .boolean) :: ([.fieldLink RX4 10 "LedgerShares" "book" "LLedgerShares$Book;", .fieldLink RX4 41 "LedgerShares$Book" "size" "I", .methodLink RX4 31 yX4_within, .static yX4_within, .initialized RX4, .code yX4_within cX4_within 3 (some .boolean)] ++ wsX40 ++ wsX00)
def wsX4_wasInLatest : List Cond := .code yX4_wasInLatest cX4_wasInLatest 2 (some .boolean) :: ([.fieldLink RX4 45 "LedgerShares" "hasRun" "Z", .fieldLink RX4 21 "LedgerShares" "latest" "LLedgerShares$Run;", .fieldLink RX4 74 "LedgerShares$Run" "calls" "I", .methodLink RX4 31 yX4_within, .static yX4_within, .initialized RX4, .code yX4_within cX4_within 3 (some .boolean)] ++ wsX40 ++ wsX20)
def wsX4_outcome : List Cond := .code yX4_outcome cX4_outcome 2 (some .int) :: ([.fieldLink RX4 21 "LedgerShares" "latest" "LLedgerShares$Run;", .fieldLink RX4 70 "LedgerShares$Run" "sheet" "LLedgerShares$Sheet;", .fieldLink RX4 93 "LedgerShares$Sheet" "outcomes" "[I", .methodLink RX4 87 yX4_isCall, .instanceMethod yX4_isCall, .selects RX4 yX4_isCall yX4_isCall, .initialized RX4, .code yX4_isCall cX4_isCall 2 (some .boolean), .fieldLink RX4 10 "LedgerShares" "book" "LLedgerShares$Book;", .fieldLink RX4 41 "LedgerShares$Book" "size" "I", .methodLink RX4 31 yX4_within, .static yX4_within, .code yX4_within cX4_within 3 (some .boolean), .methodLink RX4 90 yX4_wasInLatest, .instanceMethod yX4_wasInLatest, .selects RX4 yX4_wasInLatest yX4_wasInLatest, .code yX4_wasInLatest cX4_wasInLatest 2 (some .boolean), .fieldLink RX4 45 "LedgerShares" "hasRun" "Z", .fieldLink RX4 74 "LedgerShares$Run" "calls" "I"] ++ wsX40 ++ wsX20 ++ wsX30 ++ wsX00)
def wsX4_of_r1 : List Cond := [Cond.fieldLink RX4 21 "LedgerShares" "latest" "LLedgerShares$Run;", Cond.fieldLink RX4 70 "LedgerShares$Run" "sheet" "LLedgerShares$Sheet;", Cond.methodLink RX4 87 yX4_isCall, Cond.instanceMethod yX4_isCall, Cond.selects RX4 yX4_isCall yX4_isCall, Cond.initialized RX4, Cond.code yX4_isCall cX4_isCall 2 (some .boolean), Cond.fieldLink RX4 10 "LedgerShares" "book" "LLedgerShares$Book;", Cond.fieldLink RX4 41 "LedgerShares$Book" "size" "I", Cond.methodLink RX4 31 yX4_within, Cond.static yX4_within, Cond.code yX4_within cX4_within 3 (some .boolean), Cond.methodLink RX4 90 yX4_wasInLatest, Cond.instanceMethod yX4_wasInLatest, Cond.selects RX4 yX4_wasInLatest yX4_wasInLatest, Cond.code yX4_wasInLatest cX4_wasInLatest 2 (some .boolean), Cond.fieldLink RX4 45 "LedgerShares" "hasRun" "Z", Cond.fieldLink RX4 74 "LedgerShares$Run" "calls" "I", Cond.methodLink RX4 96 yX3_figure, Cond.instanceMethod yX3_figure, Cond.selects RX3 yX3_figure yX3_figure, Cond.initialized RX3, Cond.code yX3_figure cX3_figure 3 (some .int), Cond.fieldLink RX3 41 "LedgerShares$Sheet" "timesBegun" "[I"]
def wsX4_of_r2 : List Cond := [Cond.fieldLink RX3 44 "LedgerShares$Sheet" "firstBegun" "[I", Cond.fieldLink RX3 47 "LedgerShares$Sheet" "keptAt" "[I", Cond.fieldLink RX3 50 "LedgerShares$Sheet" "endedBy" "[I"]
def wsX4_of : List Cond := .code yX4_of cX4_of 3 (some .int) :: ((wsX4_of_r1 ++ wsX4_of_r2) ++ wsX40 ++ wsX20 ++ wsX00 ++ wsX30)
def wsX4_told_r1 : List Cond := [Cond.fieldLink RX4 45 "LedgerShares" "hasRun" "Z", Cond.fieldLink RX4 21 "LedgerShares" "latest" "LLedgerShares$Run;", Cond.methodLink RX4 31 yX4_within, Cond.static yX4_within, Cond.initialized RX4, Cond.code yX4_within cX4_within 3 (some .boolean), Cond.methodLink RX4 100 yX2_total, Cond.instanceMethod yX2_total, Cond.selects RX2 yX2_total yX2_total, Cond.initialized RX2, Cond.code yX2_total cX2_total 2 (some .int), Cond.fieldLink RX2 42 "LedgerShares$Run" "calls" "I", Cond.fieldLink RX2 48 "LedgerShares$Run" "ticks" "I", Cond.fieldLink RX2 77 "LedgerShares$Run" "begun" "I", Cond.fieldLink RX2 80 "LedgerShares$Run" "anew" "I", Cond.fieldLink RX2 83 "LedgerShares$Run" "dismissed" "I", Cond.fieldLink RX2 62 "LedgerShares$Run" "mostUnderWay" "I", Cond.fieldLink RX2 86 "LedgerShares$Run" "idle" "I", Cond.fieldLink RX2 27 "LedgerShares$Run" "sheet" "LLedgerShares$Sheet;", Cond.methodLink RX2 145 yX3_failures, Cond.instanceMethod yX3_failures, Cond.selects RX3 yX3_failures yX3_failures, Cond.initialized RX3, Cond.code yX3_failures cX3_failures 4 (some .int)]
def wsX4_told_r2 : List Cond := [Cond.fieldLink RX3 38 "LedgerShares$Sheet" "outcomes" "[I"]
def wsX4_told : List Cond := .code yX4_told cX4_told 2 (some .int) :: ((wsX4_told_r1 ++ wsX4_told_r2) ++ wsX40 ++ wsX20 ++ wsX30)
def wsX4_same_r1 : List Cond := [Cond.fieldLink RX4 25 "LedgerShares" "spare" "LLedgerShares$Run;", Cond.fieldLink RX4 10 "LedgerShares" "book" "LLedgerShares$Book;", Cond.fieldLink RX4 41 "LedgerShares$Book" "size" "I", Cond.fieldLink RX4 28 "LedgerShares" "second" "LLedgerShares$Run;", Cond.methodLink RX4 59 yX4_isCrew, Cond.static yX4_isCrew, Cond.initialized RX4, Cond.code yX4_isCrew cX4_isCrew 1 (some .boolean), Cond.methodLink RX4 31 yX4_within, Cond.static yX4_within, Cond.code yX4_within cX4_within 3 (some .boolean), Cond.methodLink RX4 63 yX2_goesThrough, Cond.instanceMethod yX2_goesThrough, Cond.selects RX2 yX2_goesThrough yX2_goesThrough, Cond.initialized RX2, Cond.code yX2_goesThrough cX2_goesThrough 6 (some .boolean), Cond.fieldLink RX2 12 "LedgerShares$Run" "crew" "LLedgerShares$Crew;", Cond.fieldLink RX2 38 "LedgerShares$Run" "kept" "I", Cond.fieldLink RX2 42 "LedgerShares$Run" "calls" "I", Cond.fieldLink RX2 45 "LedgerShares$Crew" "left" "I", Cond.fieldLink RX2 48 "LedgerShares$Run" "ticks" "I", Cond.fieldLink RX2 62 "LedgerShares$Run" "mostUnderWay" "I", Cond.fieldLink RX2 65 "LedgerShares$Run" "underWay" "I", Cond.methodLink RX2 68 Lib.Math.max.name]
def wsX4_same_r2 : List Cond := [Cond.static Lib.Math.max.name, Cond.initialized "java/lang/Math", Cond.code Lib.Math.max.name Lib.Math.max.code 2 (some .int), Cond.methodLink RX2 31 yX2_prepare, Cond.instanceMethod yX2_prepare, Cond.selects RX2 yX2_prepare yX2_prepare, Cond.code yX2_prepare cX2_prepare 3 none, Cond.fieldLink RX2 74 "LedgerShares$Run" "room" "I", Cond.fieldLink RX2 77 "LedgerShares$Run" "begun" "I", Cond.fieldLink RX2 80 "LedgerShares$Run" "anew" "I", Cond.fieldLink RX2 83 "LedgerShares$Run" "dismissed" "I", Cond.fieldLink RX2 86 "LedgerShares$Run" "idle" "I", Cond.fieldLink RX2 27 "LedgerShares$Run" "sheet" "LLedgerShares$Sheet;", Cond.methodLink RX2 89 yX3_openAll, Cond.instanceMethod yX3_openAll, Cond.selects RX3 yX3_openAll yX3_openAll, Cond.initialized RX3, Cond.code yX3_openAll cX3_openAll 2 none, Cond.fieldLink RX3 9 "LedgerShares$Sheet" "stages" "[I", Cond.fieldLink RX3 38 "LedgerShares$Sheet" "outcomes" "[I", Cond.fieldLink RX3 41 "LedgerShares$Sheet" "timesBegun" "[I", Cond.fieldLink RX3 44 "LedgerShares$Sheet" "firstBegun" "[I", Cond.fieldLink RX3 47 "LedgerShares$Sheet" "keptAt" "[I", Cond.fieldLink RX3 50 "LedgerShares$Sheet" "endedBy" "[I"]
def wsX4_same_r3 : List Cond := [Cond.methodLink RX2 35 yX1_gather, Cond.instanceMethod yX1_gather, Cond.selects RX1 yX1_gather yX1_gather, Cond.initialized RX1, Cond.code yX1_gather cX1_gather 4 none, Cond.fieldLink RX1 21 "LedgerShares$Crew" "seed" "I", Cond.methodLink RX1 25 Lib.Math.min.name, Cond.static Lib.Math.min.name, Cond.code Lib.Math.min.name Lib.Math.min.code 2 (some .int), Cond.fieldLink RX1 31 "LedgerShares$Crew" "left" "I", Cond.fieldLink RX1 9 "LedgerShares$Crew" "present" "[I", Cond.fieldLink RX1 15 "LedgerShares$Crew" "holds" "[I", Cond.fieldLink RX1 18 "LedgerShares$Crew" "begins" "[I", Cond.methodLink RX2 51 yX1_nextInTurn, Cond.instanceMethod yX1_nextInTurn, Cond.selects RX1 yX1_nextInTurn yX1_nextInTurn, Cond.code yX1_nextInTurn cX1_nextInTurn 1 (some .int), Cond.constant RX1 34 (1103515245), Cond.methodLink RX2 55 yX2_takeTurn, Cond.instanceMethod yX2_takeTurn, Cond.selects RX2 yX2_takeTurn yX2_takeTurn, Cond.code yX2_takeTurn cX2_takeTurn 3 none, Cond.fieldLink RX2 96 "LedgerShares$Crew" "holds" "[I", Cond.methodLink RX2 100 yX2_takeCall]
def wsX4_same_r4 : List Cond := [Cond.instanceMethod yX2_takeCall, Cond.selects RX2 yX2_takeCall yX2_takeCall, Cond.code yX2_takeCall cX2_takeCall 3 none, Cond.methodLink RX2 107 Lib.Math.min.name, Cond.fieldLink RX2 18 "LedgerShares$Run" "book" "LLedgerShares$Book;", Cond.fieldLink RX2 120 "LedgerShares$Book" "goneAt" "[I", Cond.methodLink RX2 110 yX3_leastOpen, Cond.instanceMethod yX3_leastOpen, Cond.selects RX3 yX3_leastOpen yX3_leastOpen, Cond.code yX3_leastOpen cX3_leastOpen 4 (some .int), Cond.methodLink RX3 75 Lib.Math.max.name, Cond.methodLink RX2 113 yX3_noteBegun, Cond.instanceMethod yX3_noteBegun, Cond.selects RX3 yX3_noteBegun yX3_noteBegun, Cond.code yX3_noteBegun cX3_noteBegun 3 none, Cond.methodLink RX2 116 yX1_beginsOnceMore, Cond.instanceMethod yX1_beginsOnceMore, Cond.selects RX1 yX1_beginsOnceMore yX1_beginsOnceMore, Cond.code yX1_beginsOnceMore cX1_beginsOnceMore 2 (some .int), Cond.methodLink RX2 125 yX1_dismiss, Cond.instanceMethod yX1_dismiss, Cond.selects RX1 yX1_dismiss yX1_dismiss, Cond.code yX1_dismiss cX1_dismiss 4 none, Cond.methodLink RX2 128 yX3_setUnderWay]
def wsX4_same_r5 : List Cond := [Cond.instanceMethod yX3_setUnderWay, Cond.selects RX3 yX3_setUnderWay yX3_setUnderWay, Cond.code yX3_setUnderWay cX3_setUnderWay 2 none, Cond.fieldLink RX3 15 "LedgerShares$Sheet" "stepsLeft" "[I", Cond.fieldLink RX3 53 "LedgerShares$Sheet" "book" "LLedgerShares$Book;", Cond.fieldLink RX3 78 "LedgerShares$Book" "steps" "[I", Cond.fieldLink RX3 18 "LedgerShares$Sheet" "readA" "[J", Cond.fieldLink RX3 67 "LedgerShares$Book" "as" "[I", Cond.fieldLink RX3 22 "LedgerShares$Sheet" "readB" "[J", Cond.fieldLink RX3 72 "LedgerShares$Book" "bs" "[I", Cond.methodLink RX3 81 yX3_standing, Cond.instanceMethod yX3_standing, Cond.selects RX3 yX3_standing yX3_standing, Cond.code yX3_standing cX3_standing 4 (some .long), Cond.methodLink RX3 57 Lib.Math.min.name, Cond.fieldLink RX3 25 "LedgerShares$Sheet" "changesA" "[Z", Cond.fieldLink RX3 32 "LedgerShares$Sheet" "givesA" "[J", Cond.fieldLink RX3 29 "LedgerShares$Sheet" "changesB" "[Z", Cond.fieldLink RX3 35 "LedgerShares$Sheet" "givesB" "[J", Cond.methodLink RX3 63 yX3_hasEnded, Cond.instanceMethod yX3_hasEnded, Cond.selects RX3 yX3_hasEnded yX3_hasEnded, Cond.code yX3_hasEnded cX3_hasEnded 2 (some .boolean), Cond.methodLink RX2 103 yX3_doesLastStep]
def wsX4_same_r6 : List Cond := [Cond.instanceMethod yX3_doesLastStep, Cond.selects RX3 yX3_doesLastStep yX3_doesLastStep, Cond.code yX3_doesLastStep cX3_doesLastStep 3 (some .boolean), Cond.methodLink RX3 85 yX3_work, Cond.instanceMethod yX3_work, Cond.selects RX3 yX3_work yX3_work, Cond.code yX3_work cX3_work 8 none, Cond.fieldLink RX3 93 "LedgerShares$Book" "cs" "[I", Cond.fieldLink RX3 96 "LedgerShares$Book" "ops" "[I", Cond.methodLink RX3 99 yX3_giveB, Cond.instanceMethod yX3_giveB, Cond.selects RX3 yX3_giveB yX3_giveB, Cond.code yX3_giveB cX3_giveB 4 none, Cond.methodLink RX3 103 yX3_pay, Cond.instanceMethod yX3_pay, Cond.selects RX3 yX3_pay yX3_pay, Cond.code yX3_pay cX3_pay 8 none, Cond.methodLink RX3 107 yX3_failUnless, Cond.instanceMethod yX3_failUnless, Cond.selects RX3 yX3_failUnless yX3_failUnless, Cond.code yX3_failUnless cX3_failUnless 3 none, Cond.methodLink RX3 111 yX3_giveA, Cond.instanceMethod yX3_giveA, Cond.selects RX3 yX3_giveA yX3_giveA]
def wsX4_same_r7 : List Cond := [Cond.code yX3_giveA cX3_giveA 4 none, Cond.methodLink RX3 114 yX3_meet, Cond.instanceMethod yX3_meet, Cond.selects RX3 yX3_meet yX3_meet, Cond.code yX3_meet cX3_meet 5 none, Cond.methodLink RX2 59 yX2_keepWhatStands, Cond.instanceMethod yX2_keepWhatStands, Cond.selects RX2 yX2_keepWhatStands yX2_keepWhatStands, Cond.code yX2_keepWhatStands cX2_keepWhatStands 1 none, Cond.methodLink RX2 131 yX3_waitsToBeKept, Cond.instanceMethod yX3_waitsToBeKept, Cond.selects RX3 yX3_waitsToBeKept yX3_waitsToBeKept, Cond.code yX3_waitsToBeKept cX3_waitsToBeKept 2 (some .boolean), Cond.methodLink RX2 135 yX3_settle, Cond.instanceMethod yX3_settle, Cond.selects RX3 yX3_settle yX3_settle, Cond.code yX3_settle cX3_settle 4 (some .boolean), Cond.methodLink RX4 104 yX2_leavesLike, Cond.instanceMethod yX2_leavesLike, Cond.selects RX2 yX2_leavesLike yX2_leavesLike, Cond.code yX2_leavesLike cX2_leavesLike 3 (some .boolean), Cond.fieldLink RX2 142 "LedgerShares$Sheet" "outcomes" "[I", Cond.methodLink RX2 138 yX3_standing]
def wsX4_same : List Cond := .code yX4_same cX4_same 5 (some .boolean) :: ((wsX4_same_r1 ++ (wsX4_same_r2 ++ (wsX4_same_r3 ++ (wsX4_same_r4 ++ (wsX4_same_r5 ++ (wsX4_same_r6 ++ wsX4_same_r7)))))) ++ wsX40 ++ wsX00 ++ wsX20 ++ wsX10 ++ wsX30)
def wsX4_count : List Cond := .code yX4_count cX4_count 2 (some .int) :: ([.fieldLink RX4 10 "LedgerShares" "book" "LLedgerShares$Book;", .fieldLink RX4 41 "LedgerShares$Book" "size" "I", .fieldLink RX4 49 "LedgerShares" "runsDone" "I", .fieldLink RX4 52 "LedgerShares" "runsRefused" "I"] ++ wsX40 ++ wsX00)
def wsX5_init_r1 : List Cond := [Cond.methodLink RX5 1 objectInit, Cond.instanceMethod objectInit, Cond.code objectInit ⟨#[0xb1]⟩ 1 none, Cond.arrayClass .int, Cond.fieldLink RX5 7 "LedgerSharesModel" "ops" "[I", Cond.fieldLink RX5 13 "LedgerSharesModel" "as" "[I", Cond.fieldLink RX5 16 "LedgerSharesModel" "bs" "[I", Cond.fieldLink RX5 19 "LedgerSharesModel" "cs" "[I", Cond.fieldLink RX5 22 "LedgerSharesModel" "steps" "[I", Cond.fieldLink RX5 25 "LedgerSharesModel" "goneAt" "[I", Cond.fieldLink RX5 28 "LedgerSharesModel" "figures" "[I", Cond.fieldLink RX5 31 "LedgerSharesModel" "begunOf" "[I", Cond.fieldLink RX5 34 "LedgerSharesModel" "firstOf" "[I", Cond.fieldLink RX5 37 "LedgerSharesModel" "keptOf" "[I", Cond.fieldLink RX5 40 "LedgerSharesModel" "workerOf" "[I", Cond.fieldLink RX5 43 "LedgerSharesModel" "outcomeOf" "[I", Cond.arrayClass .long, Cond.fieldLink RX5 46 "LedgerSharesModel" "behind" "[J", Cond.fieldLink RX5 50 "LedgerSharesModel" "told" "[I", Cond.fieldLink RX5 53 "LedgerSharesModel" "state" "[I", Cond.fieldLink RX5 56 "LedgerSharesModel" "begun" "[I", Cond.fieldLink RX5 59 "LedgerSharesModel" "first" "[I", Cond.fieldLink RX5 62 "LedgerSharesModel" "kept" "[I", Cond.fieldLink RX5 65 "LedgerSharesModel" "worker" "[I"]
def wsX5_init_r2 : List Cond := [Cond.fieldLink RX5 68 "LedgerSharesModel" "outcome" "[I", Cond.fieldLink RX5 71 "LedgerSharesModel" "readA" "[J", Cond.fieldLink RX5 74 "LedgerSharesModel" "readB" "[J", Cond.arrayClass .boolean, Cond.fieldLink RX5 77 "LedgerSharesModel" "givesA" "[Z", Cond.fieldLink RX5 81 "LedgerSharesModel" "givesB" "[Z", Cond.fieldLink RX5 84 "LedgerSharesModel" "givenA" "[J", Cond.fieldLink RX5 87 "LedgerSharesModel" "givenB" "[J", Cond.fieldLink RX5 90 "LedgerSharesModel" "amounts" "[J", Cond.fieldLink RX5 93 "LedgerSharesModel" "callOf" "[I", Cond.fieldLink RX5 96 "LedgerSharesModel" "stepOf" "[I", Cond.fieldLink RX5 99 "LedgerSharesModel" "begins" "[I", Cond.fieldLink RX5 102 "LedgerSharesModel" "isGone" "[Z", Cond.fieldLink RX5 105 "LedgerSharesModel" "ownAmounts" "[J", Cond.fieldLink RX5 108 "LedgerSharesModel" "ownOutcomes" "[I", Cond.fieldLink RX5 111 "LedgerSharesModel" "has" "Z"]
def wsX5_init : List Cond := .code yX5_init cX5_init 1 none :: ((wsX5_init_r1 ++ wsX5_init_r2) ++ wsX50)
def wsX5_in : List Cond := .code yX5_in cX5_in 3 (some .boolean) :: ([])
def wsX5_call : List Cond := .code yX5_call cX5_call 6 (some .int) :: ([.fieldLink RX5 115 "LedgerSharesModel" "thrown" "I", .constant RX5 123 (-1000000), .constant RX5 124 (1000000), .fieldLink RX5 125 "LedgerSharesModel" "calls" "I", .fieldLink RX5 7 "LedgerSharesModel" "ops" "[I", .fieldLink RX5 13 "LedgerSharesModel" "as" "[I", .fieldLink RX5 16 "LedgerSharesModel" "bs" "[I", .fieldLink RX5 19 "LedgerSharesModel" "cs" "[I", .fieldLink RX5 22 "LedgerSharesModel" "steps" "[I", .methodLink RX5 119 yX5_in, .static yX5_in, .initialized RX5, .code yX5_in cX5_in 3 (some .boolean)] ++ wsX50)
def wsX5_clear : List Cond := .code yX5_clear cX5_clear 2 (some .int) :: ([.fieldLink RX5 115 "LedgerSharesModel" "thrown" "I", .fieldLink RX5 125 "LedgerSharesModel" "calls" "I", .fieldLink RX5 111 "LedgerSharesModel" "has" "Z"] ++ wsX50)
def wsX5_gone : List Cond := .code yX5_gone cX5_gone 4 (some .int) :: ([.fieldLink RX5 115 "LedgerSharesModel" "thrown" "I", .fieldLink RX5 25 "LedgerSharesModel" "goneAt" "[I", .methodLink RX5 119 yX5_in, .static yX5_in, .initialized RX5, .code yX5_in cX5_in 3 (some .boolean)] ++ wsX50)
def wsX5_reads : List Cond := .code yX5_reads cX5_reads 4 (some .long) :: ([.fieldLink RX5 53 "LedgerSharesModel" "state" "[I", .fieldLink RX5 81 "LedgerSharesModel" "givesB" "[Z", .fieldLink RX5 16 "LedgerSharesModel" "bs" "[I", .fieldLink RX5 87 "LedgerSharesModel" "givenB" "[J", .fieldLink RX5 77 "LedgerSharesModel" "givesA" "[Z", .fieldLink RX5 13 "LedgerSharesModel" "as" "[I", .fieldLink RX5 84 "LedgerSharesModel" "givenA" "[J"] ++ wsX50)
def wsX5_work : List Cond := .code yX5_work cX5_work 9 none :: ([.fieldLink RX5 71 "LedgerSharesModel" "readA" "[J", .fieldLink RX5 74 "LedgerSharesModel" "readB" "[J", .fieldLink RX5 19 "LedgerSharesModel" "cs" "[I", .fieldLink RX5 77 "LedgerSharesModel" "givesA" "[Z", .fieldLink RX5 81 "LedgerSharesModel" "givesB" "[Z", .fieldLink RX5 7 "LedgerSharesModel" "ops" "[I", .fieldLink RX5 87 "LedgerSharesModel" "givenB" "[J", .fieldLink RX5 13 "LedgerSharesModel" "as" "[I", .fieldLink RX5 16 "LedgerSharesModel" "bs" "[I", .fieldLink RX5 84 "LedgerSharesModel" "givenA" "[J", .fieldLink RX5 68 "LedgerSharesModel" "outcome" "[I"] ++ wsX50)
def wsX5_turnOf : List Cond := .code yX5_turnOf cX5_turnOf 5 (some .int) :: ([.fieldLink RX5 102 "LedgerSharesModel" "isGone" "[Z"] ++ wsX50)
def wsX5_openOne : List Cond := .code yX5_openOne cX5_openOne 4 (some .int) :: ([.fieldLink RX5 53 "LedgerSharesModel" "state" "[I"] ++ wsX50)
def wsX5_take : List Cond := .code yX5_take cX5_take 4 none :: ([.fieldLink RX5 56 "LedgerSharesModel" "begun" "[I", .fieldLink RX5 50 "LedgerSharesModel" "told" "[I", .fieldLink RX5 59 "LedgerSharesModel" "first" "[I", .fieldLink RX5 99 "LedgerSharesModel" "begins" "[I", .fieldLink RX5 25 "LedgerSharesModel" "goneAt" "[I", .fieldLink RX5 102 "LedgerSharesModel" "isGone" "[Z", .fieldLink RX5 53 "LedgerSharesModel" "state" "[I", .fieldLink RX5 71 "LedgerSharesModel" "readA" "[J", .fieldLink RX5 13 "LedgerSharesModel" "as" "[I", .fieldLink RX5 74 "LedgerSharesModel" "readB" "[J", .fieldLink RX5 16 "LedgerSharesModel" "bs" "[I", .fieldLink RX5 93 "LedgerSharesModel" "callOf" "[I", .fieldLink RX5 96 "LedgerSharesModel" "stepOf" "[I", .methodLink RX5 128 yX5_reads, .instanceMethod yX5_reads, .selects RX5 yX5_reads yX5_reads, .initialized RX5, .code yX5_reads cX5_reads 4 (some .long), .fieldLink RX5 81 "LedgerSharesModel" "givesB" "[Z", .fieldLink RX5 87 "LedgerSharesModel" "givenB" "[J", .fieldLink RX5 77 "LedgerSharesModel" "givesA" "[Z", .fieldLink RX5 84 "LedgerSharesModel" "givenA" "[J"] ++ wsX50)
def wsX5_step : List Cond := .code yX5_step cX5_step 3 none :: ([.fieldLink RX5 93 "LedgerSharesModel" "callOf" "[I", .fieldLink RX5 96 "LedgerSharesModel" "stepOf" "[I", .fieldLink RX5 22 "LedgerSharesModel" "steps" "[I", .fieldLink RX5 53 "LedgerSharesModel" "state" "[I", .fieldLink RX5 65 "LedgerSharesModel" "worker" "[I", .methodLink RX5 132 yX5_work, .instanceMethod yX5_work, .selects RX5 yX5_work yX5_work, .initialized RX5, .code yX5_work cX5_work 9 none, .fieldLink RX5 71 "LedgerSharesModel" "readA" "[J", .fieldLink RX5 74 "LedgerSharesModel" "readB" "[J", .fieldLink RX5 19 "LedgerSharesModel" "cs" "[I", .fieldLink RX5 77 "LedgerSharesModel" "givesA" "[Z", .fieldLink RX5 81 "LedgerSharesModel" "givesB" "[Z", .fieldLink RX5 7 "LedgerSharesModel" "ops" "[I", .fieldLink RX5 87 "LedgerSharesModel" "givenB" "[J", .fieldLink RX5 13 "LedgerSharesModel" "as" "[I", .fieldLink RX5 16 "LedgerSharesModel" "bs" "[I", .fieldLink RX5 84 "LedgerSharesModel" "givenA" "[J", .fieldLink RX5 68 "LedgerSharesModel" "outcome" "[I"] ++ wsX50)
def wsX5_keep : List Cond := .code yX5_keep cX5_keep 7 (some .int) :: ([.fieldLink RX5 53 "LedgerSharesModel" "state" "[I", .fieldLink RX5 71 "LedgerSharesModel" "readA" "[J", .fieldLink RX5 90 "LedgerSharesModel" "amounts" "[J", .fieldLink RX5 13 "LedgerSharesModel" "as" "[I", .fieldLink RX5 74 "LedgerSharesModel" "readB" "[J", .fieldLink RX5 16 "LedgerSharesModel" "bs" "[I", .fieldLink RX5 50 "LedgerSharesModel" "told" "[I", .fieldLink RX5 77 "LedgerSharesModel" "givesA" "[Z", .fieldLink RX5 84 "LedgerSharesModel" "givenA" "[J", .fieldLink RX5 81 "LedgerSharesModel" "givesB" "[Z", .fieldLink RX5 87 "LedgerSharesModel" "givenB" "[J", .fieldLink RX5 62 "LedgerSharesModel" "kept" "[I", .fieldLink RX5 68 "LedgerSharesModel" "outcome" "[I"] ++ wsX50)
def wsX5_underWay : List Cond := .code yX5_underWay cX5_underWay 4 (some .int) :: ([.fieldLink RX5 53 "LedgerSharesModel" "state" "[I"] ++ wsX50)
def wsX5_begin : List Cond := .code yX5_begin cX5_begin 4 none :: ([.fieldLink RX5 50 "LedgerSharesModel" "told" "[I", .fieldLink RX5 90 "LedgerSharesModel" "amounts" "[J", .fieldLink RX5 53 "LedgerSharesModel" "state" "[I", .fieldLink RX5 56 "LedgerSharesModel" "begun" "[I", .fieldLink RX5 59 "LedgerSharesModel" "first" "[I", .fieldLink RX5 62 "LedgerSharesModel" "kept" "[I", .fieldLink RX5 65 "LedgerSharesModel" "worker" "[I", .fieldLink RX5 68 "LedgerSharesModel" "outcome" "[I", .fieldLink RX5 93 "LedgerSharesModel" "callOf" "[I", .fieldLink RX5 99 "LedgerSharesModel" "begins" "[I", .fieldLink RX5 102 "LedgerSharesModel" "isGone" "[Z"] ++ wsX50)
def wsX5_goes_r1 : List Cond := [Cond.fieldLink RX5 50 "LedgerSharesModel" "told" "[I", Cond.constant RX5 140 (1103515245), Cond.fieldLink RX5 93 "LedgerSharesModel" "callOf" "[I", Cond.methodLink RX5 136 yX5_begin, Cond.instanceMethod yX5_begin, Cond.selects RX5 yX5_begin yX5_begin, Cond.initialized RX5, Cond.code yX5_begin cX5_begin 4 none, Cond.fieldLink RX5 90 "LedgerSharesModel" "amounts" "[J", Cond.fieldLink RX5 53 "LedgerSharesModel" "state" "[I", Cond.fieldLink RX5 56 "LedgerSharesModel" "begun" "[I", Cond.fieldLink RX5 59 "LedgerSharesModel" "first" "[I", Cond.fieldLink RX5 62 "LedgerSharesModel" "kept" "[I", Cond.fieldLink RX5 65 "LedgerSharesModel" "worker" "[I", Cond.fieldLink RX5 68 "LedgerSharesModel" "outcome" "[I", Cond.fieldLink RX5 99 "LedgerSharesModel" "begins" "[I", Cond.fieldLink RX5 102 "LedgerSharesModel" "isGone" "[Z", Cond.methodLink RX5 141 yX5_turnOf, Cond.instanceMethod yX5_turnOf, Cond.selects RX5 yX5_turnOf yX5_turnOf, Cond.code yX5_turnOf cX5_turnOf 5 (some .int), Cond.methodLink RX5 145 yX5_step, Cond.instanceMethod yX5_step, Cond.selects RX5 yX5_step yX5_step]
def wsX5_goes_r2 : List Cond := [Cond.code yX5_step cX5_step 3 none, Cond.fieldLink RX5 96 "LedgerSharesModel" "stepOf" "[I", Cond.fieldLink RX5 22 "LedgerSharesModel" "steps" "[I", Cond.methodLink RX5 132 yX5_work, Cond.instanceMethod yX5_work, Cond.selects RX5 yX5_work yX5_work, Cond.code yX5_work cX5_work 9 none, Cond.fieldLink RX5 71 "LedgerSharesModel" "readA" "[J", Cond.fieldLink RX5 74 "LedgerSharesModel" "readB" "[J", Cond.fieldLink RX5 19 "LedgerSharesModel" "cs" "[I", Cond.fieldLink RX5 77 "LedgerSharesModel" "givesA" "[Z", Cond.fieldLink RX5 81 "LedgerSharesModel" "givesB" "[Z", Cond.fieldLink RX5 7 "LedgerSharesModel" "ops" "[I", Cond.fieldLink RX5 87 "LedgerSharesModel" "givenB" "[J", Cond.fieldLink RX5 13 "LedgerSharesModel" "as" "[I", Cond.fieldLink RX5 16 "LedgerSharesModel" "bs" "[I", Cond.fieldLink RX5 84 "LedgerSharesModel" "givenA" "[J", Cond.methodLink RX5 148 yX5_openOne, Cond.instanceMethod yX5_openOne, Cond.selects RX5 yX5_openOne yX5_openOne, Cond.code yX5_openOne cX5_openOne 4 (some .int), Cond.methodLink RX5 151 yX5_take, Cond.instanceMethod yX5_take, Cond.selects RX5 yX5_take yX5_take]
def wsX5_goes_r3 : List Cond := [Cond.code yX5_take cX5_take 4 none, Cond.fieldLink RX5 25 "LedgerSharesModel" "goneAt" "[I", Cond.methodLink RX5 128 yX5_reads, Cond.instanceMethod yX5_reads, Cond.selects RX5 yX5_reads yX5_reads, Cond.code yX5_reads cX5_reads 4 (some .long), Cond.methodLink RX5 155 yX5_keep, Cond.instanceMethod yX5_keep, Cond.selects RX5 yX5_keep yX5_keep, Cond.code yX5_keep cX5_keep 7 (some .int), Cond.methodLink RX5 159 yX5_underWay, Cond.instanceMethod yX5_underWay, Cond.selects RX5 yX5_underWay yX5_underWay, Cond.code yX5_underWay cX5_underWay 4 (some .int)]
def wsX5_goes : List Cond := .code yX5_goes cX5_goes 10 (some .boolean) :: ((wsX5_goes_r1 ++ (wsX5_goes_r2 ++ wsX5_goes_r3)) ++ wsX50)
def wsX5_run_r1 : List Cond := [Cond.fieldLink RX5 115 "LedgerSharesModel" "thrown" "I", Cond.fieldLink RX5 125 "LedgerSharesModel" "calls" "I", Cond.fieldLink RX5 167 "LedgerSharesModel" "refusals" "I", Cond.fieldLink RX5 170 "LedgerSharesModel" "runs" "I", Cond.fieldLink RX5 111 "LedgerSharesModel" "has" "Z", Cond.fieldLink RX5 28 "LedgerSharesModel" "figures" "[I", Cond.fieldLink RX5 50 "LedgerSharesModel" "told" "[I", Cond.fieldLink RX5 31 "LedgerSharesModel" "begunOf" "[I", Cond.fieldLink RX5 56 "LedgerSharesModel" "begun" "[I", Cond.fieldLink RX5 34 "LedgerSharesModel" "firstOf" "[I", Cond.fieldLink RX5 59 "LedgerSharesModel" "first" "[I", Cond.fieldLink RX5 37 "LedgerSharesModel" "keptOf" "[I", Cond.fieldLink RX5 62 "LedgerSharesModel" "kept" "[I", Cond.fieldLink RX5 40 "LedgerSharesModel" "workerOf" "[I", Cond.fieldLink RX5 65 "LedgerSharesModel" "worker" "[I", Cond.fieldLink RX5 43 "LedgerSharesModel" "outcomeOf" "[I", Cond.fieldLink RX5 68 "LedgerSharesModel" "outcome" "[I", Cond.fieldLink RX5 46 "LedgerSharesModel" "behind" "[J", Cond.fieldLink RX5 90 "LedgerSharesModel" "amounts" "[J", Cond.methodLink RX5 119 yX5_in, Cond.static yX5_in, Cond.initialized RX5, Cond.code yX5_in cX5_in 3 (some .boolean), Cond.methodLink RX5 163 yX5_goes]
def wsX5_run_r2 : List Cond := [Cond.instanceMethod yX5_goes, Cond.selects RX5 yX5_goes yX5_goes, Cond.code yX5_goes cX5_goes 10 (some .boolean), Cond.constant RX5 140 (1103515245), Cond.fieldLink RX5 93 "LedgerSharesModel" "callOf" "[I", Cond.methodLink RX5 136 yX5_begin, Cond.instanceMethod yX5_begin, Cond.selects RX5 yX5_begin yX5_begin, Cond.code yX5_begin cX5_begin 4 none, Cond.fieldLink RX5 53 "LedgerSharesModel" "state" "[I", Cond.fieldLink RX5 99 "LedgerSharesModel" "begins" "[I", Cond.fieldLink RX5 102 "LedgerSharesModel" "isGone" "[Z", Cond.methodLink RX5 141 yX5_turnOf, Cond.instanceMethod yX5_turnOf, Cond.selects RX5 yX5_turnOf yX5_turnOf, Cond.code yX5_turnOf cX5_turnOf 5 (some .int), Cond.methodLink RX5 145 yX5_step, Cond.instanceMethod yX5_step, Cond.selects RX5 yX5_step yX5_step, Cond.code yX5_step cX5_step 3 none, Cond.fieldLink RX5 96 "LedgerSharesModel" "stepOf" "[I", Cond.fieldLink RX5 22 "LedgerSharesModel" "steps" "[I", Cond.methodLink RX5 132 yX5_work, Cond.instanceMethod yX5_work]
def wsX5_run_r3 : List Cond := [Cond.selects RX5 yX5_work yX5_work, Cond.code yX5_work cX5_work 9 none, Cond.fieldLink RX5 71 "LedgerSharesModel" "readA" "[J", Cond.fieldLink RX5 74 "LedgerSharesModel" "readB" "[J", Cond.fieldLink RX5 19 "LedgerSharesModel" "cs" "[I", Cond.fieldLink RX5 77 "LedgerSharesModel" "givesA" "[Z", Cond.fieldLink RX5 81 "LedgerSharesModel" "givesB" "[Z", Cond.fieldLink RX5 7 "LedgerSharesModel" "ops" "[I", Cond.fieldLink RX5 87 "LedgerSharesModel" "givenB" "[J", Cond.fieldLink RX5 13 "LedgerSharesModel" "as" "[I", Cond.fieldLink RX5 16 "LedgerSharesModel" "bs" "[I", Cond.fieldLink RX5 84 "LedgerSharesModel" "givenA" "[J", Cond.methodLink RX5 148 yX5_openOne, Cond.instanceMethod yX5_openOne, Cond.selects RX5 yX5_openOne yX5_openOne, Cond.code yX5_openOne cX5_openOne 4 (some .int), Cond.methodLink RX5 151 yX5_take, Cond.instanceMethod yX5_take, Cond.selects RX5 yX5_take yX5_take, Cond.code yX5_take cX5_take 4 none, Cond.fieldLink RX5 25 "LedgerSharesModel" "goneAt" "[I", Cond.methodLink RX5 128 yX5_reads, Cond.instanceMethod yX5_reads, Cond.selects RX5 yX5_reads yX5_reads]
def wsX5_run_r4 : List Cond := [Cond.code yX5_reads cX5_reads 4 (some .long), Cond.methodLink RX5 155 yX5_keep, Cond.instanceMethod yX5_keep, Cond.selects RX5 yX5_keep yX5_keep, Cond.code yX5_keep cX5_keep 7 (some .int), Cond.methodLink RX5 159 yX5_underWay, Cond.instanceMethod yX5_underWay, Cond.selects RX5 yX5_underWay yX5_underWay, Cond.code yX5_underWay cX5_underWay 4 (some .int)]
def wsX5_run : List Cond := .code yX5_run cX5_run 6 (some .int) :: ((wsX5_run_r1 ++ (wsX5_run_r2 ++ (wsX5_run_r3 ++ wsX5_run_r4))) ++ wsX50)
def wsX5_isOfRun : List Cond := .code yX5_isOfRun cX5_isOfRun 2 (some .boolean) :: ([.fieldLink RX5 111 "LedgerSharesModel" "has" "Z", .fieldLink RX5 28 "LedgerSharesModel" "figures" "[I"] ++ wsX50)
def wsX5_amount : List Cond := .code yX5_amount cX5_amount 2 (some .long) :: ([.fieldLink RX5 115 "LedgerSharesModel" "thrown" "I", .fieldLink RX5 111 "LedgerSharesModel" "has" "Z", .fieldLink RX5 46 "LedgerSharesModel" "behind" "[J", .fieldLink RX5 28 "LedgerSharesModel" "figures" "[I", .methodLink RX5 119 yX5_in, .static yX5_in, .initialized RX5, .code yX5_in cX5_in 3 (some .boolean)] ++ wsX50)
def wsX5_behind : List Cond := .code yX5_behind cX5_behind 3 (some .long) :: ([.fieldLink RX5 115 "LedgerSharesModel" "thrown" "I", .fieldLink RX5 111 "LedgerSharesModel" "has" "Z", .fieldLink RX5 28 "LedgerSharesModel" "figures" "[I", .constantLong RX5 173 (-2), .fieldLink RX5 46 "LedgerSharesModel" "behind" "[J", .constantLong RX5 175 (-3), .methodLink RX5 119 yX5_in, .static yX5_in, .initialized RX5, .code yX5_in cX5_in 3 (some .boolean)] ++ wsX50)
def wsX5_outcome : List Cond := .code yX5_outcome cX5_outcome 2 (some .int) :: ([.fieldLink RX5 115 "LedgerSharesModel" "thrown" "I", .fieldLink RX5 125 "LedgerSharesModel" "calls" "I", .fieldLink RX5 43 "LedgerSharesModel" "outcomeOf" "[I", .methodLink RX5 119 yX5_in, .static yX5_in, .initialized RX5, .code yX5_in cX5_in 3 (some .boolean), .methodLink RX5 177 yX5_isOfRun, .instanceMethod yX5_isOfRun, .selects RX5 yX5_isOfRun yX5_isOfRun, .code yX5_isOfRun cX5_isOfRun 2 (some .boolean), .fieldLink RX5 111 "LedgerSharesModel" "has" "Z", .fieldLink RX5 28 "LedgerSharesModel" "figures" "[I"] ++ wsX50)
def wsX5_of : List Cond := .code yX5_of cX5_of 3 (some .int) :: ([.fieldLink RX5 115 "LedgerSharesModel" "thrown" "I", .fieldLink RX5 125 "LedgerSharesModel" "calls" "I", .fieldLink RX5 31 "LedgerSharesModel" "begunOf" "[I", .fieldLink RX5 34 "LedgerSharesModel" "firstOf" "[I", .fieldLink RX5 37 "LedgerSharesModel" "keptOf" "[I", .fieldLink RX5 40 "LedgerSharesModel" "workerOf" "[I", .methodLink RX5 119 yX5_in, .static yX5_in, .initialized RX5, .code yX5_in cX5_in 3 (some .boolean), .methodLink RX5 177 yX5_isOfRun, .instanceMethod yX5_isOfRun, .selects RX5 yX5_isOfRun yX5_isOfRun, .code yX5_isOfRun cX5_isOfRun 2 (some .boolean), .fieldLink RX5 111 "LedgerSharesModel" "has" "Z", .fieldLink RX5 28 "LedgerSharesModel" "figures" "[I"] ++ wsX50)
def wsX5_told : List Cond := .code yX5_told cX5_told 2 (some .int) :: ([.fieldLink RX5 115 "LedgerSharesModel" "thrown" "I", .fieldLink RX5 111 "LedgerSharesModel" "has" "Z", .fieldLink RX5 28 "LedgerSharesModel" "figures" "[I", .methodLink RX5 119 yX5_in, .static yX5_in, .initialized RX5, .code yX5_in cX5_in 3 (some .boolean)] ++ wsX50)
def wsX5_same_r1 : List Cond := [Cond.fieldLink RX5 115 "LedgerSharesModel" "thrown" "I", Cond.fieldLink RX5 125 "LedgerSharesModel" "calls" "I", Cond.fieldLink RX5 105 "LedgerSharesModel" "ownAmounts" "[J", Cond.fieldLink RX5 90 "LedgerSharesModel" "amounts" "[J", Cond.fieldLink RX5 108 "LedgerSharesModel" "ownOutcomes" "[I", Cond.fieldLink RX5 68 "LedgerSharesModel" "outcome" "[I", Cond.methodLink RX5 119 yX5_in, Cond.static yX5_in, Cond.initialized RX5, Cond.code yX5_in cX5_in 3 (some .boolean), Cond.methodLink RX5 163 yX5_goes, Cond.instanceMethod yX5_goes, Cond.selects RX5 yX5_goes yX5_goes, Cond.code yX5_goes cX5_goes 10 (some .boolean), Cond.fieldLink RX5 50 "LedgerSharesModel" "told" "[I", Cond.constant RX5 140 (1103515245), Cond.fieldLink RX5 93 "LedgerSharesModel" "callOf" "[I", Cond.methodLink RX5 136 yX5_begin, Cond.instanceMethod yX5_begin, Cond.selects RX5 yX5_begin yX5_begin, Cond.code yX5_begin cX5_begin 4 none, Cond.fieldLink RX5 53 "LedgerSharesModel" "state" "[I", Cond.fieldLink RX5 56 "LedgerSharesModel" "begun" "[I", Cond.fieldLink RX5 59 "LedgerSharesModel" "first" "[I"]
def wsX5_same_r2 : List Cond := [Cond.fieldLink RX5 62 "LedgerSharesModel" "kept" "[I", Cond.fieldLink RX5 65 "LedgerSharesModel" "worker" "[I", Cond.fieldLink RX5 99 "LedgerSharesModel" "begins" "[I", Cond.fieldLink RX5 102 "LedgerSharesModel" "isGone" "[Z", Cond.methodLink RX5 141 yX5_turnOf, Cond.instanceMethod yX5_turnOf, Cond.selects RX5 yX5_turnOf yX5_turnOf, Cond.code yX5_turnOf cX5_turnOf 5 (some .int), Cond.methodLink RX5 145 yX5_step, Cond.instanceMethod yX5_step, Cond.selects RX5 yX5_step yX5_step, Cond.code yX5_step cX5_step 3 none, Cond.fieldLink RX5 96 "LedgerSharesModel" "stepOf" "[I", Cond.fieldLink RX5 22 "LedgerSharesModel" "steps" "[I", Cond.methodLink RX5 132 yX5_work, Cond.instanceMethod yX5_work, Cond.selects RX5 yX5_work yX5_work, Cond.code yX5_work cX5_work 9 none, Cond.fieldLink RX5 71 "LedgerSharesModel" "readA" "[J", Cond.fieldLink RX5 74 "LedgerSharesModel" "readB" "[J", Cond.fieldLink RX5 19 "LedgerSharesModel" "cs" "[I", Cond.fieldLink RX5 77 "LedgerSharesModel" "givesA" "[Z", Cond.fieldLink RX5 81 "LedgerSharesModel" "givesB" "[Z", Cond.fieldLink RX5 7 "LedgerSharesModel" "ops" "[I"]
def wsX5_same_r3 : List Cond := [Cond.fieldLink RX5 87 "LedgerSharesModel" "givenB" "[J", Cond.fieldLink RX5 13 "LedgerSharesModel" "as" "[I", Cond.fieldLink RX5 16 "LedgerSharesModel" "bs" "[I", Cond.fieldLink RX5 84 "LedgerSharesModel" "givenA" "[J", Cond.methodLink RX5 148 yX5_openOne, Cond.instanceMethod yX5_openOne, Cond.selects RX5 yX5_openOne yX5_openOne, Cond.code yX5_openOne cX5_openOne 4 (some .int), Cond.methodLink RX5 151 yX5_take, Cond.instanceMethod yX5_take, Cond.selects RX5 yX5_take yX5_take, Cond.code yX5_take cX5_take 4 none, Cond.fieldLink RX5 25 "LedgerSharesModel" "goneAt" "[I", Cond.methodLink RX5 128 yX5_reads, Cond.instanceMethod yX5_reads, Cond.selects RX5 yX5_reads yX5_reads, Cond.code yX5_reads cX5_reads 4 (some .long), Cond.methodLink RX5 155 yX5_keep, Cond.instanceMethod yX5_keep, Cond.selects RX5 yX5_keep yX5_keep, Cond.code yX5_keep cX5_keep 7 (some .int), Cond.methodLink RX5 159 yX5_underWay, Cond.instanceMethod yX5_underWay, Cond.selects RX5 yX5_underWay yX5_underWay]
def wsX5_same_r4 : List Cond := [Cond.code yX5_underWay cX5_underWay 4 (some .int)]
def wsX5_same : List Cond := .code yX5_same cX5_same 7 (some .boolean) :: ((wsX5_same_r1 ++ (wsX5_same_r2 ++ (wsX5_same_r3 ++ wsX5_same_r4))) ++ wsX50)
def wsX5_count : List Cond := .code yX5_count cX5_count 2 (some .int) :: ([.fieldLink RX5 115 "LedgerSharesModel" "thrown" "I", .fieldLink RX5 125 "LedgerSharesModel" "calls" "I", .fieldLink RX5 170 "LedgerSharesModel" "runs" "I", .fieldLink RX5 167 "LedgerSharesModel" "refusals" "I"] ++ wsX50)
def wsJ9_max_7cf53 : List Cond := .code yJ9_max_7cf53 cJ9_max_7cf53 2 (some .int) :: ([])
def wsJ9_min_7cf53 : List Cond := .code yJ9_min_7cf53 cJ9_min_7cf53 2 (some .int) :: ([])
abbrev vwCl : List vw_C := [(RX0, TX0, 7), (RX1, TX1, 5), (RX2, TX2, 13), (RX3, TX3, 14), (RX4, TX4, 7), (RX5, TX5, 38)]
end
section
theorem dX0_init_0 : decode cX0_init 0 = .ok (.aload_n 0, 1) := by decide +kernel
theorem dX0_init_1 : decode cX0_init 1 = .ok (.invokespecial 3, 3) := by decide +kernel
theorem dX0_init_4 : decode cX0_init 4 = .ok (.aload_n 0, 1) := by decide +kernel
theorem dX0_init_5 : decode cX0_init 5 = .ok (.bipush 40, 2) := by decide +kernel
theorem dX0_init_7 : decode cX0_init 7 = .ok (.newarray .int, 2) := by decide +kernel
theorem dX0_init_9 : decode cX0_init 9 = .ok (.putfield 9, 3) := by decide +kernel
theorem dX0_init_12 : decode cX0_init 12 = .ok (.aload_n 0, 1) := by decide +kernel
theorem dX0_init_13 : decode cX0_init 13 = .ok (.bipush 40, 2) := by decide +kernel
theorem dX0_init_15 : decode cX0_init 15 = .ok (.newarray .int, 2) := by decide +kernel
theorem dX0_init_17 : decode cX0_init 17 = .ok (.putfield 15, 3) := by decide +kernel
theorem dX0_init_20 : decode cX0_init 20 = .ok (.aload_n 0, 1) := by decide +kernel
theorem dX0_init_21 : decode cX0_init 21 = .ok (.bipush 40, 2) := by decide +kernel
theorem dX0_init_23 : decode cX0_init 23 = .ok (.newarray .int, 2) := by decide +kernel
theorem dX0_init_25 : decode cX0_init 25 = .ok (.putfield 18, 3) := by decide +kernel
theorem dX0_init_28 : decode cX0_init 28 = .ok (.aload_n 0, 1) := by decide +kernel
theorem dX0_init_29 : decode cX0_init 29 = .ok (.bipush 40, 2) := by decide +kernel
theorem dX0_init_31 : decode cX0_init 31 = .ok (.newarray .int, 2) := by decide +kernel
theorem dX0_init_33 : decode cX0_init 33 = .ok (.putfield 21, 3) := by decide +kernel
theorem dX0_init_36 : decode cX0_init 36 = .ok (.aload_n 0, 1) := by decide +kernel
theorem dX0_init_37 : decode cX0_init 37 = .ok (.bipush 40, 2) := by decide +kernel
theorem dX0_init_39 : decode cX0_init 39 = .ok (.newarray .int, 2) := by decide +kernel
theorem dX0_init_41 : decode cX0_init 41 = .ok (.putfield 24, 3) := by decide +kernel
theorem dX0_init_44 : decode cX0_init 44 = .ok (.aload_n 0, 1) := by decide +kernel
theorem dX0_init_45 : decode cX0_init 45 = .ok (.bipush 16, 2) := by decide +kernel
theorem dX0_init_47 : decode cX0_init 47 = .ok (.newarray .int, 2) := by decide +kernel
theorem dX0_init_49 : decode cX0_init 49 = .ok (.putfield 27, 3) := by decide +kernel
theorem dX0_init_52 : decode cX0_init 52 = .ok (.return_, 1) := by decide +kernel
theorem dX0_enter_0 : decode cX0_enter 0 = .ok (.aload_n 0, 1) := by decide +kernel
theorem dX0_enter_1 : decode cX0_enter 1 = .ok (.getfield 30, 3) := by decide +kernel
theorem dX0_enter_4 : decode cX0_enter 4 = .ok (.istore 6, 2) := by decide +kernel
theorem dX0_enter_6 : decode cX0_enter 6 = .ok (.iload 6, 2) := by decide +kernel
theorem dX0_enter_8 : decode cX0_enter 8 = .ok (.iconst 0, 1) := by decide +kernel
theorem dX0_enter_9 : decode cX0_enter 9 = .ok (.bipush 39, 2) := by decide +kernel
theorem dX0_enter_11 : decode cX0_enter 11 = .ok (.invokestatic 34, 3) := by decide +kernel
theorem dX0_enter_14 : decode cX0_enter 14 = .ok (.ifCond .ne 6, 3) := by decide +kernel
theorem dX0_enter_17 : decode cX0_enter 17 = .ok (.bipush (-4), 2) := by decide +kernel
theorem dX0_enter_19 : decode cX0_enter 19 = .ok (.ireturn, 1) := by decide +kernel
theorem dX0_enter_20 : decode cX0_enter 20 = .ok (.aload_n 0, 1) := by decide +kernel
theorem dX0_enter_21 : decode cX0_enter 21 = .ok (.getfield 9, 3) := by decide +kernel
theorem dX0_enter_24 : decode cX0_enter 24 = .ok (.iload 6, 2) := by decide +kernel
theorem dX0_enter_26 : decode cX0_enter 26 = .ok (.iload_n 1, 1) := by decide +kernel
theorem dX0_enter_27 : decode cX0_enter 27 = .ok (.iastore, 1) := by decide +kernel
theorem dX0_enter_28 : decode cX0_enter 28 = .ok (.aload_n 0, 1) := by decide +kernel
theorem dX0_enter_29 : decode cX0_enter 29 = .ok (.getfield 15, 3) := by decide +kernel
theorem dX0_enter_32 : decode cX0_enter 32 = .ok (.iload 6, 2) := by decide +kernel
theorem dX0_enter_34 : decode cX0_enter 34 = .ok (.iload_n 2, 1) := by decide +kernel
theorem dX0_enter_35 : decode cX0_enter 35 = .ok (.iastore, 1) := by decide +kernel
theorem dX0_enter_36 : decode cX0_enter 36 = .ok (.aload_n 0, 1) := by decide +kernel
theorem dX0_enter_37 : decode cX0_enter 37 = .ok (.getfield 18, 3) := by decide +kernel
theorem dX0_enter_40 : decode cX0_enter 40 = .ok (.iload 6, 2) := by decide +kernel
theorem dX0_enter_42 : decode cX0_enter 42 = .ok (.iload_n 3, 1) := by decide +kernel
theorem dX0_enter_43 : decode cX0_enter 43 = .ok (.iastore, 1) := by decide +kernel
theorem dX0_enter_44 : decode cX0_enter 44 = .ok (.aload_n 0, 1) := by decide +kernel
theorem dX0_enter_45 : decode cX0_enter 45 = .ok (.getfield 21, 3) := by decide +kernel
theorem dX0_enter_48 : decode cX0_enter 48 = .ok (.iload 6, 2) := by decide +kernel
theorem dX0_enter_50 : decode cX0_enter 50 = .ok (.iload 4, 2) := by decide +kernel
theorem dX0_enter_52 : decode cX0_enter 52 = .ok (.iastore, 1) := by decide +kernel
theorem dX0_enter_53 : decode cX0_enter 53 = .ok (.aload_n 0, 1) := by decide +kernel
theorem dX0_enter_54 : decode cX0_enter 54 = .ok (.getfield 24, 3) := by decide +kernel
theorem dX0_enter_57 : decode cX0_enter 57 = .ok (.iload 6, 2) := by decide +kernel
theorem dX0_enter_59 : decode cX0_enter 59 = .ok (.iload 5, 2) := by decide +kernel
theorem dX0_enter_61 : decode cX0_enter 61 = .ok (.iastore, 1) := by decide +kernel
theorem dX0_enter_62 : decode cX0_enter 62 = .ok (.aload_n 0, 1) := by decide +kernel
theorem dX0_enter_63 : decode cX0_enter 63 = .ok (.iload 6, 2) := by decide +kernel
theorem dX0_enter_65 : decode cX0_enter 65 = .ok (.iconst 1, 1) := by decide +kernel
theorem dX0_enter_66 : decode cX0_enter 66 = .ok (.iadd, 1) := by decide +kernel
theorem dX0_enter_67 : decode cX0_enter 67 = .ok (.putfield 30, 3) := by decide +kernel
theorem dX0_enter_70 : decode cX0_enter 70 = .ok (.iload 6, 2) := by decide +kernel
theorem dX0_enter_72 : decode cX0_enter 72 = .ok (.ireturn, 1) := by decide +kernel
theorem dX1_init_0 : decode cX1_init 0 = .ok (.aload_n 0, 1) := by decide +kernel
theorem dX1_init_1 : decode cX1_init 1 = .ok (.invokespecial 3, 3) := by decide +kernel
theorem dX1_init_4 : decode cX1_init 4 = .ok (.aload_n 0, 1) := by decide +kernel
theorem dX1_init_5 : decode cX1_init 5 = .ok (.bipush 16, 2) := by decide +kernel
theorem dX1_init_7 : decode cX1_init 7 = .ok (.newarray .int, 2) := by decide +kernel
theorem dX1_init_9 : decode cX1_init 9 = .ok (.putfield 9, 3) := by decide +kernel
theorem dX1_init_12 : decode cX1_init 12 = .ok (.aload_n 0, 1) := by decide +kernel
theorem dX1_init_13 : decode cX1_init 13 = .ok (.bipush 16, 2) := by decide +kernel
theorem dX1_init_15 : decode cX1_init 15 = .ok (.newarray .int, 2) := by decide +kernel
theorem dX1_init_17 : decode cX1_init 17 = .ok (.putfield 15, 3) := by decide +kernel
theorem dX1_init_20 : decode cX1_init 20 = .ok (.aload_n 0, 1) := by decide +kernel
theorem dX1_init_21 : decode cX1_init 21 = .ok (.bipush 16, 2) := by decide +kernel
theorem dX1_init_23 : decode cX1_init 23 = .ok (.newarray .int, 2) := by decide +kernel
theorem dX1_init_25 : decode cX1_init 25 = .ok (.putfield 18, 3) := by decide +kernel
theorem dX1_init_28 : decode cX1_init 28 = .ok (.return_, 1) := by decide +kernel
theorem dX1_gather_0 : decode cX1_gather 0 = .ok (.aload_n 0, 1) := by decide +kernel
theorem dX1_gather_1 : decode cX1_gather 1 = .ok (.iload_n 2, 1) := by decide +kernel
theorem dX1_gather_2 : decode cX1_gather 2 = .ok (.putfield 21, 3) := by decide +kernel
theorem dX1_gather_5 : decode cX1_gather 5 = .ok (.aload_n 0, 1) := by decide +kernel
theorem dX1_gather_6 : decode cX1_gather 6 = .ok (.iload_n 1, 1) := by decide +kernel
theorem dX1_gather_7 : decode cX1_gather 7 = .ok (.bipush 16, 2) := by decide +kernel
theorem dX1_gather_9 : decode cX1_gather 9 = .ok (.invokestatic 25, 3) := by decide +kernel
theorem dX1_gather_12 : decode cX1_gather 12 = .ok (.putfield 31, 3) := by decide +kernel
theorem dX1_gather_15 : decode cX1_gather 15 = .ok (.iconst 0, 1) := by decide +kernel
theorem dX1_gather_16 : decode cX1_gather 16 = .ok (.istore_n 3, 1) := by decide +kernel
theorem dX1_gather_17 : decode cX1_gather 17 = .ok (.iload_n 3, 1) := by decide +kernel
theorem dX1_gather_18 : decode cX1_gather 18 = .ok (.aload_n 0, 1) := by decide +kernel
theorem dX1_gather_19 : decode cX1_gather 19 = .ok (.getfield 31, 3) := by decide +kernel
theorem dX1_gather_22 : decode cX1_gather 22 = .ok (.if_icmp .ge 30, 3) := by decide +kernel
theorem dX1_gather_25 : decode cX1_gather 25 = .ok (.aload_n 0, 1) := by decide +kernel
theorem dX1_gather_26 : decode cX1_gather 26 = .ok (.getfield 9, 3) := by decide +kernel
theorem dX1_gather_29 : decode cX1_gather 29 = .ok (.iload_n 3, 1) := by decide +kernel
theorem dX1_gather_30 : decode cX1_gather 30 = .ok (.iload_n 3, 1) := by decide +kernel
theorem dX1_gather_31 : decode cX1_gather 31 = .ok (.iastore, 1) := by decide +kernel
theorem dX1_gather_32 : decode cX1_gather 32 = .ok (.aload_n 0, 1) := by decide +kernel
theorem dX1_gather_33 : decode cX1_gather 33 = .ok (.getfield 15, 3) := by decide +kernel
theorem dX1_gather_36 : decode cX1_gather 36 = .ok (.iload_n 3, 1) := by decide +kernel
theorem dX1_gather_37 : decode cX1_gather 37 = .ok (.iconst (-1), 1) := by decide +kernel
theorem dX1_gather_38 : decode cX1_gather 38 = .ok (.iastore, 1) := by decide +kernel
theorem dX1_gather_39 : decode cX1_gather 39 = .ok (.aload_n 0, 1) := by decide +kernel
theorem dX1_gather_40 : decode cX1_gather 40 = .ok (.getfield 18, 3) := by decide +kernel
theorem dX1_gather_43 : decode cX1_gather 43 = .ok (.iload_n 3, 1) := by decide +kernel
theorem dX1_gather_44 : decode cX1_gather 44 = .ok (.iconst 0, 1) := by decide +kernel
theorem dX1_gather_45 : decode cX1_gather 45 = .ok (.iastore, 1) := by decide +kernel
theorem dX1_gather_46 : decode cX1_gather 46 = .ok (.iinc 3 1, 3) := by decide +kernel
theorem dX1_gather_49 : decode cX1_gather 49 = .ok (.goto (-32), 3) := by decide +kernel
theorem dX1_gather_52 : decode cX1_gather 52 = .ok (.return_, 1) := by decide +kernel
theorem dX1_nextInTurn_0 : decode cX1_nextInTurn 0 = .ok (.aload_n 0, 1) := by decide +kernel
theorem dX1_nextInTurn_1 : decode cX1_nextInTurn 1 = .ok (.aload_n 0, 1) := by decide +kernel
theorem dX1_nextInTurn_2 : decode cX1_nextInTurn 2 = .ok (.getfield 21, 3) := by decide +kernel
theorem dX1_nextInTurn_5 : decode cX1_nextInTurn 5 = .ok (.ldc 34, 2) := by decide +kernel
theorem dX1_nextInTurn_7 : decode cX1_nextInTurn 7 = .ok (.imul, 1) := by decide +kernel
theorem dX1_nextInTurn_8 : decode cX1_nextInTurn 8 = .ok (.sipush 12345, 3) := by decide +kernel
theorem dX1_nextInTurn_11 : decode cX1_nextInTurn 11 = .ok (.iadd, 1) := by decide +kernel
theorem dX1_nextInTurn_12 : decode cX1_nextInTurn 12 = .ok (.putfield 21, 3) := by decide +kernel
theorem dX1_nextInTurn_15 : decode cX1_nextInTurn 15 = .ok (.aload_n 0, 1) := by decide +kernel
theorem dX1_nextInTurn_16 : decode cX1_nextInTurn 16 = .ok (.getfield 31, 3) := by decide +kernel
theorem dX1_nextInTurn_19 : decode cX1_nextInTurn 19 = .ok (.ifCond .le 23, 3) := by decide +kernel
theorem dX1_nextInTurn_22 : decode cX1_nextInTurn 22 = .ok (.aload_n 0, 1) := by decide +kernel
theorem dX1_nextInTurn_23 : decode cX1_nextInTurn 23 = .ok (.getfield 9, 3) := by decide +kernel
theorem dX1_nextInTurn_26 : decode cX1_nextInTurn 26 = .ok (.aload_n 0, 1) := by decide +kernel
theorem dX1_nextInTurn_27 : decode cX1_nextInTurn 27 = .ok (.getfield 21, 3) := by decide +kernel
theorem dX1_nextInTurn_30 : decode cX1_nextInTurn 30 = .ok (.bipush 16, 2) := by decide +kernel
theorem dX1_nextInTurn_32 : decode cX1_nextInTurn 32 = .ok (.iushr, 1) := by decide +kernel
theorem dX1_nextInTurn_33 : decode cX1_nextInTurn 33 = .ok (.aload_n 0, 1) := by decide +kernel
theorem dX1_nextInTurn_34 : decode cX1_nextInTurn 34 = .ok (.getfield 31, 3) := by decide +kernel
theorem dX1_nextInTurn_37 : decode cX1_nextInTurn 37 = .ok (.irem, 1) := by decide +kernel
theorem dX1_nextInTurn_38 : decode cX1_nextInTurn 38 = .ok (.iaload, 1) := by decide +kernel
theorem dX1_nextInTurn_39 : decode cX1_nextInTurn 39 = .ok (.goto 4, 3) := by decide +kernel
theorem dX1_nextInTurn_42 : decode cX1_nextInTurn 42 = .ok (.iconst (-1), 1) := by decide +kernel
theorem dX1_nextInTurn_43 : decode cX1_nextInTurn 43 = .ok (.ireturn, 1) := by decide +kernel
theorem dX1_beginsOnceMore_0 : decode cX1_beginsOnceMore 0 = .ok (.aload_n 0, 1) := by decide +kernel
theorem dX1_beginsOnceMore_1 : decode cX1_beginsOnceMore 1 = .ok (.getfield 18, 3) := by decide +kernel
theorem dX1_beginsOnceMore_4 : decode cX1_beginsOnceMore 4 = .ok (.iload_n 1, 1) := by decide +kernel
theorem dX1_beginsOnceMore_5 : decode cX1_beginsOnceMore 5 = .ok (.dup2, 1) := by decide +kernel
theorem dX1_beginsOnceMore_6 : decode cX1_beginsOnceMore 6 = .ok (.iaload, 1) := by decide +kernel
theorem dX1_beginsOnceMore_7 : decode cX1_beginsOnceMore 7 = .ok (.iconst 1, 1) := by decide +kernel
theorem dX1_beginsOnceMore_8 : decode cX1_beginsOnceMore 8 = .ok (.iadd, 1) := by decide +kernel
theorem dX1_beginsOnceMore_9 : decode cX1_beginsOnceMore 9 = .ok (.iastore, 1) := by decide +kernel
theorem dX1_beginsOnceMore_10 : decode cX1_beginsOnceMore 10 = .ok (.aload_n 0, 1) := by decide +kernel
theorem dX1_beginsOnceMore_11 : decode cX1_beginsOnceMore 11 = .ok (.getfield 18, 3) := by decide +kernel
theorem dX1_beginsOnceMore_14 : decode cX1_beginsOnceMore 14 = .ok (.iload_n 1, 1) := by decide +kernel
theorem dX1_beginsOnceMore_15 : decode cX1_beginsOnceMore 15 = .ok (.iaload, 1) := by decide +kernel
theorem dX1_beginsOnceMore_16 : decode cX1_beginsOnceMore 16 = .ok (.ireturn, 1) := by decide +kernel
theorem dX1_dismiss_0 : decode cX1_dismiss 0 = .ok (.iconst 0, 1) := by decide +kernel
theorem dX1_dismiss_1 : decode cX1_dismiss 1 = .ok (.istore_n 2, 1) := by decide +kernel
theorem dX1_dismiss_2 : decode cX1_dismiss 2 = .ok (.iconst 0, 1) := by decide +kernel
theorem dX1_dismiss_3 : decode cX1_dismiss 3 = .ok (.istore_n 3, 1) := by decide +kernel
theorem dX1_dismiss_4 : decode cX1_dismiss 4 = .ok (.iload_n 3, 1) := by decide +kernel
theorem dX1_dismiss_5 : decode cX1_dismiss 5 = .ok (.aload_n 0, 1) := by decide +kernel
theorem dX1_dismiss_6 : decode cX1_dismiss 6 = .ok (.getfield 31, 3) := by decide +kernel
theorem dX1_dismiss_9 : decode cX1_dismiss 9 = .ok (.if_icmp .ge 34, 3) := by decide +kernel
theorem dX1_dismiss_12 : decode cX1_dismiss 12 = .ok (.aload_n 0, 1) := by decide +kernel
theorem dX1_dismiss_13 : decode cX1_dismiss 13 = .ok (.getfield 9, 3) := by decide +kernel
theorem dX1_dismiss_16 : decode cX1_dismiss 16 = .ok (.iload_n 3, 1) := by decide +kernel
theorem dX1_dismiss_17 : decode cX1_dismiss 17 = .ok (.iaload, 1) := by decide +kernel
theorem dX1_dismiss_18 : decode cX1_dismiss 18 = .ok (.iload_n 1, 1) := by decide +kernel
theorem dX1_dismiss_19 : decode cX1_dismiss 19 = .ok (.if_icmp .eq 18, 3) := by decide +kernel
theorem dX1_dismiss_22 : decode cX1_dismiss 22 = .ok (.aload_n 0, 1) := by decide +kernel
theorem dX1_dismiss_23 : decode cX1_dismiss 23 = .ok (.getfield 9, 3) := by decide +kernel
theorem dX1_dismiss_26 : decode cX1_dismiss 26 = .ok (.iload_n 2, 1) := by decide +kernel
theorem dX1_dismiss_27 : decode cX1_dismiss 27 = .ok (.aload_n 0, 1) := by decide +kernel
theorem dX1_dismiss_28 : decode cX1_dismiss 28 = .ok (.getfield 9, 3) := by decide +kernel
theorem dX1_dismiss_31 : decode cX1_dismiss 31 = .ok (.iload_n 3, 1) := by decide +kernel
theorem dX1_dismiss_32 : decode cX1_dismiss 32 = .ok (.iaload, 1) := by decide +kernel
theorem dX1_dismiss_33 : decode cX1_dismiss 33 = .ok (.iastore, 1) := by decide +kernel
theorem dX1_dismiss_34 : decode cX1_dismiss 34 = .ok (.iinc 2 1, 3) := by decide +kernel
theorem dX1_dismiss_37 : decode cX1_dismiss 37 = .ok (.iinc 3 1, 3) := by decide +kernel
theorem dX1_dismiss_40 : decode cX1_dismiss 40 = .ok (.goto (-36), 3) := by decide +kernel
theorem dX1_dismiss_43 : decode cX1_dismiss 43 = .ok (.aload_n 0, 1) := by decide +kernel
theorem dX1_dismiss_44 : decode cX1_dismiss 44 = .ok (.iload_n 2, 1) := by decide +kernel
theorem dX1_dismiss_45 : decode cX1_dismiss 45 = .ok (.putfield 31, 3) := by decide +kernel
theorem dX1_dismiss_48 : decode cX1_dismiss 48 = .ok (.return_, 1) := by decide +kernel
theorem dX2_init_0 : decode cX2_init 0 = .ok (.aload_n 0, 1) := by decide +kernel
theorem dX2_init_1 : decode cX2_init 1 = .ok (.invokespecial 3, 3) := by decide +kernel
theorem dX2_init_4 : decode cX2_init 4 = .ok (.aload_n 0, 1) := by decide +kernel
theorem dX2_init_5 : decode cX2_init 5 = .ok (.new 9, 3) := by decide +kernel
theorem dX2_init_8 : decode cX2_init 8 = .ok (.dup, 1) := by decide +kernel
theorem dX2_init_9 : decode cX2_init 9 = .ok (.invokespecial 11, 3) := by decide +kernel
theorem dX2_init_12 : decode cX2_init 12 = .ok (.putfield 12, 3) := by decide +kernel
theorem dX2_init_15 : decode cX2_init 15 = .ok (.aload_n 0, 1) := by decide +kernel
theorem dX2_init_16 : decode cX2_init 16 = .ok (.aload_n 1, 1) := by decide +kernel
theorem dX2_init_17 : decode cX2_init 17 = .ok (.putfield 18, 3) := by decide +kernel
theorem dX2_init_20 : decode cX2_init 20 = .ok (.aload_n 0, 1) := by decide +kernel
theorem dX2_init_21 : decode cX2_init 21 = .ok (.new 22, 3) := by decide +kernel
theorem dX2_init_24 : decode cX2_init 24 = .ok (.dup, 1) := by decide +kernel
theorem dX2_init_25 : decode cX2_init 25 = .ok (.aload_n 1, 1) := by decide +kernel
theorem dX2_init_26 : decode cX2_init 26 = .ok (.invokespecial 24, 3) := by decide +kernel
theorem dX2_init_29 : decode cX2_init 29 = .ok (.putfield 27, 3) := by decide +kernel
theorem dX2_init_32 : decode cX2_init 32 = .ok (.return_, 1) := by decide +kernel
theorem dX2_goesThrough_0 : decode cX2_goesThrough 0 = .ok (.aload_n 0, 1) := by decide +kernel
theorem dX2_goesThrough_1 : decode cX2_goesThrough 1 = .ok (.iload_n 1, 1) := by decide +kernel
theorem dX2_goesThrough_2 : decode cX2_goesThrough 2 = .ok (.iload 4, 2) := by decide +kernel
theorem dX2_goesThrough_4 : decode cX2_goesThrough 4 = .ok (.invokevirtual 31, 3) := by decide +kernel
theorem dX2_goesThrough_7 : decode cX2_goesThrough 7 = .ok (.aload_n 0, 1) := by decide +kernel
theorem dX2_goesThrough_8 : decode cX2_goesThrough 8 = .ok (.getfield 12, 3) := by decide +kernel
theorem dX2_goesThrough_11 : decode cX2_goesThrough 11 = .ok (.iload_n 2, 1) := by decide +kernel
theorem dX2_goesThrough_12 : decode cX2_goesThrough 12 = .ok (.iload_n 3, 1) := by decide +kernel
theorem dX2_goesThrough_13 : decode cX2_goesThrough 13 = .ok (.invokevirtual 35, 3) := by decide +kernel
theorem dX2_goesThrough_16 : decode cX2_goesThrough 16 = .ok (.iconst 1, 1) := by decide +kernel
theorem dX2_goesThrough_17 : decode cX2_goesThrough 17 = .ok (.istore 5, 2) := by decide +kernel
theorem dX2_goesThrough_19 : decode cX2_goesThrough 19 = .ok (.iload 5, 2) := by decide +kernel
theorem dX2_goesThrough_21 : decode cX2_goesThrough 21 = .ok (.sipush 30000, 3) := by decide +kernel
theorem dX2_goesThrough_24 : decode cX2_goesThrough 24 = .ok (.if_icmp .gt 66, 3) := by decide +kernel
theorem dX2_goesThrough_27 : decode cX2_goesThrough 27 = .ok (.aload_n 0, 1) := by decide +kernel
theorem dX2_goesThrough_28 : decode cX2_goesThrough 28 = .ok (.getfield 38, 3) := by decide +kernel
theorem dX2_goesThrough_31 : decode cX2_goesThrough 31 = .ok (.aload_n 0, 1) := by decide +kernel
theorem dX2_goesThrough_32 : decode cX2_goesThrough 32 = .ok (.getfield 42, 3) := by decide +kernel
theorem dX2_goesThrough_35 : decode cX2_goesThrough 35 = .ok (.if_icmp .ge 55, 3) := by decide +kernel
theorem dX2_goesThrough_38 : decode cX2_goesThrough 38 = .ok (.aload_n 0, 1) := by decide +kernel
theorem dX2_goesThrough_39 : decode cX2_goesThrough 39 = .ok (.getfield 12, 3) := by decide +kernel
theorem dX2_goesThrough_42 : decode cX2_goesThrough 42 = .ok (.getfield 45, 3) := by decide +kernel
theorem dX2_goesThrough_45 : decode cX2_goesThrough 45 = .ok (.ifCond .le 45, 3) := by decide +kernel
theorem dX2_goesThrough_48 : decode cX2_goesThrough 48 = .ok (.aload_n 0, 1) := by decide +kernel
theorem dX2_goesThrough_49 : decode cX2_goesThrough 49 = .ok (.iload 5, 2) := by decide +kernel
theorem dX2_goesThrough_51 : decode cX2_goesThrough 51 = .ok (.putfield 48, 3) := by decide +kernel
theorem dX2_goesThrough_54 : decode cX2_goesThrough 54 = .ok (.aload_n 0, 1) := by decide +kernel
theorem dX2_goesThrough_55 : decode cX2_goesThrough 55 = .ok (.aload_n 0, 1) := by decide +kernel
theorem dX2_goesThrough_56 : decode cX2_goesThrough 56 = .ok (.getfield 12, 3) := by decide +kernel
theorem dX2_goesThrough_59 : decode cX2_goesThrough 59 = .ok (.invokevirtual 51, 3) := by decide +kernel
theorem dX2_goesThrough_62 : decode cX2_goesThrough 62 = .ok (.invokevirtual 55, 3) := by decide +kernel
theorem dX2_goesThrough_65 : decode cX2_goesThrough 65 = .ok (.aload_n 0, 1) := by decide +kernel
theorem dX2_goesThrough_66 : decode cX2_goesThrough 66 = .ok (.invokevirtual 59, 3) := by decide +kernel
theorem dX2_goesThrough_69 : decode cX2_goesThrough 69 = .ok (.aload_n 0, 1) := by decide +kernel
theorem dX2_goesThrough_70 : decode cX2_goesThrough 70 = .ok (.aload_n 0, 1) := by decide +kernel
theorem dX2_goesThrough_71 : decode cX2_goesThrough 71 = .ok (.getfield 62, 3) := by decide +kernel
theorem dX2_goesThrough_74 : decode cX2_goesThrough 74 = .ok (.aload_n 0, 1) := by decide +kernel
theorem dX2_goesThrough_75 : decode cX2_goesThrough 75 = .ok (.getfield 65, 3) := by decide +kernel
theorem dX2_goesThrough_78 : decode cX2_goesThrough 78 = .ok (.invokestatic 68, 3) := by decide +kernel
theorem dX2_goesThrough_81 : decode cX2_goesThrough 81 = .ok (.putfield 62, 3) := by decide +kernel
theorem dX2_goesThrough_84 : decode cX2_goesThrough 84 = .ok (.iinc 5 1, 3) := by decide +kernel
theorem dX2_goesThrough_87 : decode cX2_goesThrough 87 = .ok (.goto (-68), 3) := by decide +kernel
theorem dX2_goesThrough_90 : decode cX2_goesThrough 90 = .ok (.aload_n 0, 1) := by decide +kernel
theorem dX2_goesThrough_91 : decode cX2_goesThrough 91 = .ok (.getfield 38, 3) := by decide +kernel
theorem dX2_goesThrough_94 : decode cX2_goesThrough 94 = .ok (.aload_n 0, 1) := by decide +kernel
theorem dX2_goesThrough_95 : decode cX2_goesThrough 95 = .ok (.getfield 42, 3) := by decide +kernel
theorem dX2_goesThrough_98 : decode cX2_goesThrough 98 = .ok (.if_icmp .ne 7, 3) := by decide +kernel
theorem dX2_goesThrough_101 : decode cX2_goesThrough 101 = .ok (.iconst 1, 1) := by decide +kernel
theorem dX2_goesThrough_102 : decode cX2_goesThrough 102 = .ok (.goto 4, 3) := by decide +kernel
theorem dX2_goesThrough_105 : decode cX2_goesThrough 105 = .ok (.iconst 0, 1) := by decide +kernel
theorem dX2_goesThrough_106 : decode cX2_goesThrough 106 = .ok (.ireturn, 1) := by decide +kernel
theorem dX2_prepare_0 : decode cX2_prepare 0 = .ok (.aload_n 0, 1) := by decide +kernel
theorem dX2_prepare_1 : decode cX2_prepare 1 = .ok (.iload_n 1, 1) := by decide +kernel
theorem dX2_prepare_2 : decode cX2_prepare 2 = .ok (.putfield 42, 3) := by decide +kernel
theorem dX2_prepare_5 : decode cX2_prepare 5 = .ok (.aload_n 0, 1) := by decide +kernel
theorem dX2_prepare_6 : decode cX2_prepare 6 = .ok (.iload_n 2, 1) := by decide +kernel
theorem dX2_prepare_7 : decode cX2_prepare 7 = .ok (.putfield 74, 3) := by decide +kernel
theorem dX2_prepare_10 : decode cX2_prepare 10 = .ok (.aload_n 0, 1) := by decide +kernel
theorem dX2_prepare_11 : decode cX2_prepare 11 = .ok (.iconst 0, 1) := by decide +kernel
theorem dX2_prepare_12 : decode cX2_prepare 12 = .ok (.putfield 48, 3) := by decide +kernel
theorem dX2_prepare_15 : decode cX2_prepare 15 = .ok (.aload_n 0, 1) := by decide +kernel
theorem dX2_prepare_16 : decode cX2_prepare 16 = .ok (.iconst 0, 1) := by decide +kernel
theorem dX2_prepare_17 : decode cX2_prepare 17 = .ok (.putfield 38, 3) := by decide +kernel
theorem dX2_prepare_20 : decode cX2_prepare 20 = .ok (.aload_n 0, 1) := by decide +kernel
theorem dX2_prepare_21 : decode cX2_prepare 21 = .ok (.iconst 0, 1) := by decide +kernel
theorem dX2_prepare_22 : decode cX2_prepare 22 = .ok (.putfield 77, 3) := by decide +kernel
theorem dX2_prepare_25 : decode cX2_prepare 25 = .ok (.aload_n 0, 1) := by decide +kernel
theorem dX2_prepare_26 : decode cX2_prepare 26 = .ok (.iconst 0, 1) := by decide +kernel
theorem dX2_prepare_27 : decode cX2_prepare 27 = .ok (.putfield 80, 3) := by decide +kernel
theorem dX2_prepare_30 : decode cX2_prepare 30 = .ok (.aload_n 0, 1) := by decide +kernel
theorem dX2_prepare_31 : decode cX2_prepare 31 = .ok (.iconst 0, 1) := by decide +kernel
theorem dX2_prepare_32 : decode cX2_prepare 32 = .ok (.putfield 83, 3) := by decide +kernel
theorem dX2_prepare_35 : decode cX2_prepare 35 = .ok (.aload_n 0, 1) := by decide +kernel
theorem dX2_prepare_36 : decode cX2_prepare 36 = .ok (.iconst 0, 1) := by decide +kernel
theorem dX2_prepare_37 : decode cX2_prepare 37 = .ok (.putfield 65, 3) := by decide +kernel
theorem dX2_prepare_40 : decode cX2_prepare 40 = .ok (.aload_n 0, 1) := by decide +kernel
theorem dX2_prepare_41 : decode cX2_prepare 41 = .ok (.iconst 0, 1) := by decide +kernel
theorem dX2_prepare_42 : decode cX2_prepare 42 = .ok (.putfield 62, 3) := by decide +kernel
theorem dX2_prepare_45 : decode cX2_prepare 45 = .ok (.aload_n 0, 1) := by decide +kernel
theorem dX2_prepare_46 : decode cX2_prepare 46 = .ok (.iconst 0, 1) := by decide +kernel
theorem dX2_prepare_47 : decode cX2_prepare 47 = .ok (.putfield 86, 3) := by decide +kernel
theorem dX2_prepare_50 : decode cX2_prepare 50 = .ok (.aload_n 0, 1) := by decide +kernel
theorem dX2_prepare_51 : decode cX2_prepare 51 = .ok (.getfield 27, 3) := by decide +kernel
theorem dX2_prepare_54 : decode cX2_prepare 54 = .ok (.invokevirtual 89, 3) := by decide +kernel
theorem dX2_prepare_57 : decode cX2_prepare 57 = .ok (.return_, 1) := by decide +kernel
theorem dX2_takeTurn_0 : decode cX2_takeTurn 0 = .ok (.iload_n 1, 1) := by decide +kernel
theorem dX2_takeTurn_1 : decode cX2_takeTurn 1 = .ok (.iconst 0, 1) := by decide +kernel
theorem dX2_takeTurn_2 : decode cX2_takeTurn 2 = .ok (.bipush 15, 2) := by decide +kernel
theorem dX2_takeTurn_4 : decode cX2_takeTurn 4 = .ok (.invokestatic 92, 3) := by decide +kernel
theorem dX2_takeTurn_7 : decode cX2_takeTurn 7 = .ok (.ifCond .ne 4, 3) := by decide +kernel
theorem dX2_takeTurn_10 : decode cX2_takeTurn 10 = .ok (.return_, 1) := by decide +kernel
theorem dX2_takeTurn_11 : decode cX2_takeTurn 11 = .ok (.aload_n 0, 1) := by decide +kernel
theorem dX2_takeTurn_12 : decode cX2_takeTurn 12 = .ok (.getfield 12, 3) := by decide +kernel
theorem dX2_takeTurn_15 : decode cX2_takeTurn 15 = .ok (.getfield 96, 3) := by decide +kernel
theorem dX2_takeTurn_18 : decode cX2_takeTurn 18 = .ok (.iload_n 1, 1) := by decide +kernel
theorem dX2_takeTurn_19 : decode cX2_takeTurn 19 = .ok (.iaload, 1) := by decide +kernel
theorem dX2_takeTurn_20 : decode cX2_takeTurn 20 = .ok (.istore_n 2, 1) := by decide +kernel
theorem dX2_takeTurn_21 : decode cX2_takeTurn 21 = .ok (.iload_n 2, 1) := by decide +kernel
theorem dX2_takeTurn_22 : decode cX2_takeTurn 22 = .ok (.iconst (-1), 1) := by decide +kernel
theorem dX2_takeTurn_23 : decode cX2_takeTurn 23 = .ok (.if_icmp .ne 11, 3) := by decide +kernel
theorem dX2_takeTurn_26 : decode cX2_takeTurn 26 = .ok (.aload_n 0, 1) := by decide +kernel
theorem dX2_takeTurn_27 : decode cX2_takeTurn 27 = .ok (.iload_n 1, 1) := by decide +kernel
theorem dX2_takeTurn_28 : decode cX2_takeTurn 28 = .ok (.invokevirtual 100, 3) := by decide +kernel
theorem dX2_takeTurn_31 : decode cX2_takeTurn 31 = .ok (.goto 35, 3) := by decide +kernel
theorem dX2_takeTurn_34 : decode cX2_takeTurn 34 = .ok (.aload_n 0, 1) := by decide +kernel
theorem dX2_takeTurn_35 : decode cX2_takeTurn 35 = .ok (.getfield 27, 3) := by decide +kernel
theorem dX2_takeTurn_38 : decode cX2_takeTurn 38 = .ok (.iload_n 2, 1) := by decide +kernel
theorem dX2_takeTurn_39 : decode cX2_takeTurn 39 = .ok (.iload_n 1, 1) := by decide +kernel
theorem dX2_takeTurn_40 : decode cX2_takeTurn 40 = .ok (.invokevirtual 103, 3) := by decide +kernel
theorem dX2_takeTurn_43 : decode cX2_takeTurn 43 = .ok (.ifCond .eq 23, 3) := by decide +kernel
theorem dX2_takeTurn_46 : decode cX2_takeTurn 46 = .ok (.aload_n 0, 1) := by decide +kernel
theorem dX2_takeTurn_47 : decode cX2_takeTurn 47 = .ok (.getfield 12, 3) := by decide +kernel
theorem dX2_takeTurn_50 : decode cX2_takeTurn 50 = .ok (.getfield 96, 3) := by decide +kernel
theorem dX2_takeTurn_53 : decode cX2_takeTurn 53 = .ok (.iload_n 1, 1) := by decide +kernel
theorem dX2_takeTurn_54 : decode cX2_takeTurn 54 = .ok (.iconst (-1), 1) := by decide +kernel
theorem dX2_takeTurn_55 : decode cX2_takeTurn 55 = .ok (.iastore, 1) := by decide +kernel
theorem dX2_takeTurn_56 : decode cX2_takeTurn 56 = .ok (.aload_n 0, 1) := by decide +kernel
theorem dX2_takeTurn_57 : decode cX2_takeTurn 57 = .ok (.dup, 1) := by decide +kernel
theorem dX2_takeTurn_58 : decode cX2_takeTurn 58 = .ok (.getfield 65, 3) := by decide +kernel
theorem dX2_takeTurn_61 : decode cX2_takeTurn 61 = .ok (.iconst 1, 1) := by decide +kernel
theorem dX2_takeTurn_62 : decode cX2_takeTurn 62 = .ok (.isub, 1) := by decide +kernel
theorem dX2_takeTurn_63 : decode cX2_takeTurn 63 = .ok (.putfield 65, 3) := by decide +kernel
theorem dX2_takeTurn_66 : decode cX2_takeTurn 66 = .ok (.return_, 1) := by decide +kernel
theorem dX2_takeCall_0 : decode cX2_takeCall 0 = .ok (.aload_n 0, 1) := by decide +kernel
theorem dX2_takeCall_1 : decode cX2_takeCall 1 = .ok (.getfield 27, 3) := by decide +kernel
theorem dX2_takeCall_4 : decode cX2_takeCall 4 = .ok (.aload_n 0, 1) := by decide +kernel
theorem dX2_takeCall_5 : decode cX2_takeCall 5 = .ok (.getfield 38, 3) := by decide +kernel
theorem dX2_takeCall_8 : decode cX2_takeCall 8 = .ok (.aload_n 0, 1) := by decide +kernel
theorem dX2_takeCall_9 : decode cX2_takeCall 9 = .ok (.getfield 42, 3) := by decide +kernel
theorem dX2_takeCall_12 : decode cX2_takeCall 12 = .ok (.aload_n 0, 1) := by decide +kernel
theorem dX2_takeCall_13 : decode cX2_takeCall 13 = .ok (.getfield 38, 3) := by decide +kernel
theorem dX2_takeCall_16 : decode cX2_takeCall 16 = .ok (.aload_n 0, 1) := by decide +kernel
theorem dX2_takeCall_17 : decode cX2_takeCall 17 = .ok (.getfield 74, 3) := by decide +kernel
theorem dX2_takeCall_20 : decode cX2_takeCall 20 = .ok (.iadd, 1) := by decide +kernel
theorem dX2_takeCall_21 : decode cX2_takeCall 21 = .ok (.invokestatic 107, 3) := by decide +kernel
theorem dX2_takeCall_24 : decode cX2_takeCall 24 = .ok (.invokevirtual 110, 3) := by decide +kernel
theorem dX2_takeCall_27 : decode cX2_takeCall 27 = .ok (.istore_n 2, 1) := by decide +kernel
theorem dX2_takeCall_28 : decode cX2_takeCall 28 = .ok (.iload_n 2, 1) := by decide +kernel
theorem dX2_takeCall_29 : decode cX2_takeCall 29 = .ok (.iconst (-1), 1) := by decide +kernel
theorem dX2_takeCall_30 : decode cX2_takeCall 30 = .ok (.if_icmp .ne 14, 3) := by decide +kernel
theorem dX2_takeCall_33 : decode cX2_takeCall 33 = .ok (.aload_n 0, 1) := by decide +kernel
theorem dX2_takeCall_34 : decode cX2_takeCall 34 = .ok (.dup, 1) := by decide +kernel
theorem dX2_takeCall_35 : decode cX2_takeCall 35 = .ok (.getfield 86, 3) := by decide +kernel
theorem dX2_takeCall_38 : decode cX2_takeCall 38 = .ok (.iconst 1, 1) := by decide +kernel
theorem dX2_takeCall_39 : decode cX2_takeCall 39 = .ok (.iadd, 1) := by decide +kernel
theorem dX2_takeCall_40 : decode cX2_takeCall 40 = .ok (.putfield 86, 3) := by decide +kernel
theorem dX2_takeCall_43 : decode cX2_takeCall 43 = .ok (.return_, 1) := by decide +kernel
theorem dX2_takeCall_44 : decode cX2_takeCall 44 = .ok (.aload_n 0, 1) := by decide +kernel
theorem dX2_takeCall_45 : decode cX2_takeCall 45 = .ok (.dup, 1) := by decide +kernel
theorem dX2_takeCall_46 : decode cX2_takeCall 46 = .ok (.getfield 77, 3) := by decide +kernel
theorem dX2_takeCall_49 : decode cX2_takeCall 49 = .ok (.iconst 1, 1) := by decide +kernel
theorem dX2_takeCall_50 : decode cX2_takeCall 50 = .ok (.iadd, 1) := by decide +kernel
theorem dX2_takeCall_51 : decode cX2_takeCall 51 = .ok (.putfield 77, 3) := by decide +kernel
theorem dX2_takeCall_54 : decode cX2_takeCall 54 = .ok (.aload_n 0, 1) := by decide +kernel
theorem dX2_takeCall_55 : decode cX2_takeCall 55 = .ok (.getfield 27, 3) := by decide +kernel
theorem dX2_takeCall_58 : decode cX2_takeCall 58 = .ok (.iload_n 2, 1) := by decide +kernel
theorem dX2_takeCall_59 : decode cX2_takeCall 59 = .ok (.aload_n 0, 1) := by decide +kernel
theorem dX2_takeCall_60 : decode cX2_takeCall 60 = .ok (.getfield 48, 3) := by decide +kernel
theorem dX2_takeCall_63 : decode cX2_takeCall 63 = .ok (.invokevirtual 113, 3) := by decide +kernel
theorem dX2_takeCall_66 : decode cX2_takeCall 66 = .ok (.aload_n 0, 1) := by decide +kernel
theorem dX2_takeCall_67 : decode cX2_takeCall 67 = .ok (.getfield 12, 3) := by decide +kernel
theorem dX2_takeCall_70 : decode cX2_takeCall 70 = .ok (.iload_n 1, 1) := by decide +kernel
theorem dX2_takeCall_71 : decode cX2_takeCall 71 = .ok (.invokevirtual 116, 3) := by decide +kernel
theorem dX2_takeCall_74 : decode cX2_takeCall 74 = .ok (.aload_n 0, 1) := by decide +kernel
theorem dX2_takeCall_75 : decode cX2_takeCall 75 = .ok (.getfield 18, 3) := by decide +kernel
theorem dX2_takeCall_78 : decode cX2_takeCall 78 = .ok (.getfield 120, 3) := by decide +kernel
theorem dX2_takeCall_81 : decode cX2_takeCall 81 = .ok (.iload_n 1, 1) := by decide +kernel
theorem dX2_takeCall_82 : decode cX2_takeCall 82 = .ok (.iaload, 1) := by decide +kernel
theorem dX2_takeCall_83 : decode cX2_takeCall 83 = .ok (.if_icmp .ne 22, 3) := by decide +kernel
theorem dX2_takeCall_86 : decode cX2_takeCall 86 = .ok (.aload_n 0, 1) := by decide +kernel
theorem dX2_takeCall_87 : decode cX2_takeCall 87 = .ok (.getfield 12, 3) := by decide +kernel
theorem dX2_takeCall_90 : decode cX2_takeCall 90 = .ok (.iload_n 1, 1) := by decide +kernel
theorem dX2_takeCall_91 : decode cX2_takeCall 91 = .ok (.invokevirtual 125, 3) := by decide +kernel
theorem dX2_takeCall_94 : decode cX2_takeCall 94 = .ok (.aload_n 0, 1) := by decide +kernel
theorem dX2_takeCall_95 : decode cX2_takeCall 95 = .ok (.dup, 1) := by decide +kernel
theorem dX2_takeCall_96 : decode cX2_takeCall 96 = .ok (.getfield 83, 3) := by decide +kernel
theorem dX2_takeCall_99 : decode cX2_takeCall 99 = .ok (.iconst 1, 1) := by decide +kernel
theorem dX2_takeCall_100 : decode cX2_takeCall 100 = .ok (.iadd, 1) := by decide +kernel
theorem dX2_takeCall_101 : decode cX2_takeCall 101 = .ok (.putfield 83, 3) := by decide +kernel
theorem dX2_takeCall_104 : decode cX2_takeCall 104 = .ok (.return_, 1) := by decide +kernel
theorem dX2_takeCall_105 : decode cX2_takeCall 105 = .ok (.aload_n 0, 1) := by decide +kernel
theorem dX2_takeCall_106 : decode cX2_takeCall 106 = .ok (.getfield 12, 3) := by decide +kernel
theorem dX2_takeCall_109 : decode cX2_takeCall 109 = .ok (.getfield 96, 3) := by decide +kernel
theorem dX2_takeCall_112 : decode cX2_takeCall 112 = .ok (.iload_n 1, 1) := by decide +kernel
theorem dX2_takeCall_113 : decode cX2_takeCall 113 = .ok (.iload_n 2, 1) := by decide +kernel
theorem dX2_takeCall_114 : decode cX2_takeCall 114 = .ok (.iastore, 1) := by decide +kernel
theorem dX2_takeCall_115 : decode cX2_takeCall 115 = .ok (.aload_n 0, 1) := by decide +kernel
theorem dX2_takeCall_116 : decode cX2_takeCall 116 = .ok (.getfield 27, 3) := by decide +kernel
theorem dX2_takeCall_119 : decode cX2_takeCall 119 = .ok (.iload_n 2, 1) := by decide +kernel
theorem dX2_takeCall_120 : decode cX2_takeCall 120 = .ok (.invokevirtual 128, 3) := by decide +kernel
theorem dX2_takeCall_123 : decode cX2_takeCall 123 = .ok (.aload_n 0, 1) := by decide +kernel
theorem dX2_takeCall_124 : decode cX2_takeCall 124 = .ok (.dup, 1) := by decide +kernel
theorem dX2_takeCall_125 : decode cX2_takeCall 125 = .ok (.getfield 65, 3) := by decide +kernel
theorem dX2_takeCall_128 : decode cX2_takeCall 128 = .ok (.iconst 1, 1) := by decide +kernel
theorem dX2_takeCall_129 : decode cX2_takeCall 129 = .ok (.iadd, 1) := by decide +kernel
theorem dX2_takeCall_130 : decode cX2_takeCall 130 = .ok (.putfield 65, 3) := by decide +kernel
theorem dX2_takeCall_133 : decode cX2_takeCall 133 = .ok (.return_, 1) := by decide +kernel
theorem dX2_keepWhatStands_0 : decode cX2_keepWhatStands 0 = .ok (.aload_n 0, 1) := by decide +kernel
theorem dX2_keepWhatStands_1 : decode cX2_keepWhatStands 1 = .ok (.getfield 38, 3) := by decide +kernel
theorem dX2_keepWhatStands_4 : decode cX2_keepWhatStands 4 = .ok (.aload_n 0, 1) := by decide +kernel
theorem dX2_keepWhatStands_5 : decode cX2_keepWhatStands 5 = .ok (.getfield 42, 3) := by decide +kernel
theorem dX2_keepWhatStands_8 : decode cX2_keepWhatStands 8 = .ok (.if_icmp .ge 59, 3) := by decide +kernel
theorem dX2_keepWhatStands_11 : decode cX2_keepWhatStands 11 = .ok (.aload_n 0, 1) := by decide +kernel
theorem dX2_keepWhatStands_12 : decode cX2_keepWhatStands 12 = .ok (.getfield 27, 3) := by decide +kernel
theorem dX2_keepWhatStands_15 : decode cX2_keepWhatStands 15 = .ok (.aload_n 0, 1) := by decide +kernel
theorem dX2_keepWhatStands_16 : decode cX2_keepWhatStands 16 = .ok (.getfield 38, 3) := by decide +kernel
theorem dX2_keepWhatStands_19 : decode cX2_keepWhatStands 19 = .ok (.invokevirtual 131, 3) := by decide +kernel
theorem dX2_keepWhatStands_22 : decode cX2_keepWhatStands 22 = .ok (.ifCond .eq 45, 3) := by decide +kernel
theorem dX2_keepWhatStands_25 : decode cX2_keepWhatStands 25 = .ok (.aload_n 0, 1) := by decide +kernel
theorem dX2_keepWhatStands_26 : decode cX2_keepWhatStands 26 = .ok (.getfield 27, 3) := by decide +kernel
theorem dX2_keepWhatStands_29 : decode cX2_keepWhatStands 29 = .ok (.aload_n 0, 1) := by decide +kernel
theorem dX2_keepWhatStands_30 : decode cX2_keepWhatStands 30 = .ok (.getfield 38, 3) := by decide +kernel
theorem dX2_keepWhatStands_33 : decode cX2_keepWhatStands 33 = .ok (.aload_n 0, 1) := by decide +kernel
theorem dX2_keepWhatStands_34 : decode cX2_keepWhatStands 34 = .ok (.getfield 48, 3) := by decide +kernel
theorem dX2_keepWhatStands_37 : decode cX2_keepWhatStands 37 = .ok (.invokevirtual 135, 3) := by decide +kernel
theorem dX2_keepWhatStands_40 : decode cX2_keepWhatStands 40 = .ok (.ifCond .ne 14, 3) := by decide +kernel
theorem dX2_keepWhatStands_43 : decode cX2_keepWhatStands 43 = .ok (.aload_n 0, 1) := by decide +kernel
theorem dX2_keepWhatStands_44 : decode cX2_keepWhatStands 44 = .ok (.dup, 1) := by decide +kernel
theorem dX2_keepWhatStands_45 : decode cX2_keepWhatStands 45 = .ok (.getfield 80, 3) := by decide +kernel
theorem dX2_keepWhatStands_48 : decode cX2_keepWhatStands 48 = .ok (.iconst 1, 1) := by decide +kernel
theorem dX2_keepWhatStands_49 : decode cX2_keepWhatStands 49 = .ok (.iadd, 1) := by decide +kernel
theorem dX2_keepWhatStands_50 : decode cX2_keepWhatStands 50 = .ok (.putfield 80, 3) := by decide +kernel
theorem dX2_keepWhatStands_53 : decode cX2_keepWhatStands 53 = .ok (.return_, 1) := by decide +kernel
theorem dX2_keepWhatStands_54 : decode cX2_keepWhatStands 54 = .ok (.aload_n 0, 1) := by decide +kernel
theorem dX2_keepWhatStands_55 : decode cX2_keepWhatStands 55 = .ok (.dup, 1) := by decide +kernel
theorem dX2_keepWhatStands_56 : decode cX2_keepWhatStands 56 = .ok (.getfield 38, 3) := by decide +kernel
theorem dX2_keepWhatStands_59 : decode cX2_keepWhatStands 59 = .ok (.iconst 1, 1) := by decide +kernel
theorem dX2_keepWhatStands_60 : decode cX2_keepWhatStands 60 = .ok (.iadd, 1) := by decide +kernel
theorem dX2_keepWhatStands_61 : decode cX2_keepWhatStands 61 = .ok (.putfield 38, 3) := by decide +kernel
theorem dX2_keepWhatStands_64 : decode cX2_keepWhatStands 64 = .ok (.goto (-64), 3) := by decide +kernel
theorem dX2_keepWhatStands_67 : decode cX2_keepWhatStands 67 = .ok (.return_, 1) := by decide +kernel
theorem dX2_leavesLike_0 : decode cX2_leavesLike 0 = .ok (.aload_n 0, 1) := by decide +kernel
theorem dX2_leavesLike_1 : decode cX2_leavesLike 1 = .ok (.getfield 42, 3) := by decide +kernel
theorem dX2_leavesLike_4 : decode cX2_leavesLike 4 = .ok (.aload_n 1, 1) := by decide +kernel
theorem dX2_leavesLike_5 : decode cX2_leavesLike 5 = .ok (.getfield 42, 3) := by decide +kernel
theorem dX2_leavesLike_8 : decode cX2_leavesLike 8 = .ok (.if_icmp .eq 5, 3) := by decide +kernel
theorem dX2_leavesLike_11 : decode cX2_leavesLike 11 = .ok (.iconst 0, 1) := by decide +kernel
theorem dX2_leavesLike_12 : decode cX2_leavesLike 12 = .ok (.ireturn, 1) := by decide +kernel
theorem dX2_leavesLike_13 : decode cX2_leavesLike 13 = .ok (.iconst 0, 1) := by decide +kernel
theorem dX2_leavesLike_14 : decode cX2_leavesLike 14 = .ok (.istore_n 2, 1) := by decide +kernel
theorem dX2_leavesLike_15 : decode cX2_leavesLike 15 = .ok (.iload_n 2, 1) := by decide +kernel
theorem dX2_leavesLike_16 : decode cX2_leavesLike 16 = .ok (.bipush 7, 2) := by decide +kernel
theorem dX2_leavesLike_18 : decode cX2_leavesLike 18 = .ok (.if_icmp .gt 39, 3) := by decide +kernel
theorem dX2_leavesLike_21 : decode cX2_leavesLike 21 = .ok (.aload_n 0, 1) := by decide +kernel
theorem dX2_leavesLike_22 : decode cX2_leavesLike 22 = .ok (.getfield 27, 3) := by decide +kernel
theorem dX2_leavesLike_25 : decode cX2_leavesLike 25 = .ok (.aload_n 0, 1) := by decide +kernel
theorem dX2_leavesLike_26 : decode cX2_leavesLike 26 = .ok (.getfield 42, 3) := by decide +kernel
theorem dX2_leavesLike_29 : decode cX2_leavesLike 29 = .ok (.iload_n 2, 1) := by decide +kernel
theorem dX2_leavesLike_30 : decode cX2_leavesLike 30 = .ok (.invokevirtual 138, 3) := by decide +kernel
theorem dX2_leavesLike_33 : decode cX2_leavesLike 33 = .ok (.aload_n 1, 1) := by decide +kernel
theorem dX2_leavesLike_34 : decode cX2_leavesLike 34 = .ok (.getfield 27, 3) := by decide +kernel
theorem dX2_leavesLike_37 : decode cX2_leavesLike 37 = .ok (.aload_n 0, 1) := by decide +kernel
theorem dX2_leavesLike_38 : decode cX2_leavesLike 38 = .ok (.getfield 42, 3) := by decide +kernel
theorem dX2_leavesLike_41 : decode cX2_leavesLike 41 = .ok (.iload_n 2, 1) := by decide +kernel
theorem dX2_leavesLike_42 : decode cX2_leavesLike 42 = .ok (.invokevirtual 138, 3) := by decide +kernel
theorem dX2_leavesLike_45 : decode cX2_leavesLike 45 = .ok (.lcmp, 1) := by decide +kernel
theorem dX2_leavesLike_46 : decode cX2_leavesLike 46 = .ok (.ifCond .eq 5, 3) := by decide +kernel
theorem dX2_leavesLike_49 : decode cX2_leavesLike 49 = .ok (.iconst 0, 1) := by decide +kernel
theorem dX2_leavesLike_50 : decode cX2_leavesLike 50 = .ok (.ireturn, 1) := by decide +kernel
theorem dX2_leavesLike_51 : decode cX2_leavesLike 51 = .ok (.iinc 2 1, 3) := by decide +kernel
theorem dX2_leavesLike_54 : decode cX2_leavesLike 54 = .ok (.goto (-39), 3) := by decide +kernel
theorem dX2_leavesLike_57 : decode cX2_leavesLike 57 = .ok (.iconst 0, 1) := by decide +kernel
theorem dX2_leavesLike_58 : decode cX2_leavesLike 58 = .ok (.istore_n 2, 1) := by decide +kernel
theorem dX2_leavesLike_59 : decode cX2_leavesLike 59 = .ok (.iload_n 2, 1) := by decide +kernel
theorem dX2_leavesLike_60 : decode cX2_leavesLike 60 = .ok (.aload_n 0, 1) := by decide +kernel
theorem dX2_leavesLike_61 : decode cX2_leavesLike 61 = .ok (.getfield 42, 3) := by decide +kernel
theorem dX2_leavesLike_64 : decode cX2_leavesLike 64 = .ok (.if_icmp .ge 38, 3) := by decide +kernel
theorem dX2_leavesLike_67 : decode cX2_leavesLike 67 = .ok (.iload_n 2, 1) := by decide +kernel
theorem dX2_leavesLike_68 : decode cX2_leavesLike 68 = .ok (.bipush 40, 2) := by decide +kernel
theorem dX2_leavesLike_70 : decode cX2_leavesLike 70 = .ok (.if_icmp .ge 32, 3) := by decide +kernel
theorem dX2_leavesLike_73 : decode cX2_leavesLike 73 = .ok (.aload_n 0, 1) := by decide +kernel
theorem dX2_leavesLike_74 : decode cX2_leavesLike 74 = .ok (.getfield 27, 3) := by decide +kernel
theorem dX2_leavesLike_77 : decode cX2_leavesLike 77 = .ok (.getfield 142, 3) := by decide +kernel
theorem dX2_leavesLike_80 : decode cX2_leavesLike 80 = .ok (.iload_n 2, 1) := by decide +kernel
theorem dX2_leavesLike_81 : decode cX2_leavesLike 81 = .ok (.iaload, 1) := by decide +kernel
theorem dX2_leavesLike_82 : decode cX2_leavesLike 82 = .ok (.aload_n 1, 1) := by decide +kernel
theorem dX2_leavesLike_83 : decode cX2_leavesLike 83 = .ok (.getfield 27, 3) := by decide +kernel
theorem dX2_leavesLike_86 : decode cX2_leavesLike 86 = .ok (.getfield 142, 3) := by decide +kernel
theorem dX2_leavesLike_89 : decode cX2_leavesLike 89 = .ok (.iload_n 2, 1) := by decide +kernel
theorem dX2_leavesLike_90 : decode cX2_leavesLike 90 = .ok (.iaload, 1) := by decide +kernel
theorem dX2_leavesLike_91 : decode cX2_leavesLike 91 = .ok (.if_icmp .eq 5, 3) := by decide +kernel
theorem dX2_leavesLike_94 : decode cX2_leavesLike 94 = .ok (.iconst 0, 1) := by decide +kernel
theorem dX2_leavesLike_95 : decode cX2_leavesLike 95 = .ok (.ireturn, 1) := by decide +kernel
theorem dX2_leavesLike_96 : decode cX2_leavesLike 96 = .ok (.iinc 2 1, 3) := by decide +kernel
theorem dX2_leavesLike_99 : decode cX2_leavesLike 99 = .ok (.goto (-40), 3) := by decide +kernel
theorem dX2_leavesLike_102 : decode cX2_leavesLike 102 = .ok (.iconst 1, 1) := by decide +kernel
theorem dX2_leavesLike_103 : decode cX2_leavesLike 103 = .ok (.ireturn, 1) := by decide +kernel
theorem dX2_total_0 : decode cX2_total 0 = .ok (.iload_n 1, 1) := by decide +kernel
theorem dX2_total_1 : decode cX2_total 1 = .ok (.tableswitch 78 0 6 #[43, 48, 53, 58, 63, 68, 73], 43) := by decide +kernel
theorem dX2_total_44 : decode cX2_total 44 = .ok (.aload_n 0, 1) := by decide +kernel
theorem dX2_total_45 : decode cX2_total 45 = .ok (.getfield 42, 3) := by decide +kernel
theorem dX2_total_48 : decode cX2_total 48 = .ok (.ireturn, 1) := by decide +kernel
theorem dX2_total_49 : decode cX2_total 49 = .ok (.aload_n 0, 1) := by decide +kernel
theorem dX2_total_50 : decode cX2_total 50 = .ok (.getfield 48, 3) := by decide +kernel
theorem dX2_total_53 : decode cX2_total 53 = .ok (.ireturn, 1) := by decide +kernel
theorem dX2_total_54 : decode cX2_total 54 = .ok (.aload_n 0, 1) := by decide +kernel
theorem dX2_total_55 : decode cX2_total 55 = .ok (.getfield 77, 3) := by decide +kernel
theorem dX2_total_58 : decode cX2_total 58 = .ok (.ireturn, 1) := by decide +kernel
theorem dX2_total_59 : decode cX2_total 59 = .ok (.aload_n 0, 1) := by decide +kernel
theorem dX2_total_60 : decode cX2_total 60 = .ok (.getfield 80, 3) := by decide +kernel
theorem dX2_total_63 : decode cX2_total 63 = .ok (.ireturn, 1) := by decide +kernel
theorem dX2_total_64 : decode cX2_total 64 = .ok (.aload_n 0, 1) := by decide +kernel
theorem dX2_total_65 : decode cX2_total 65 = .ok (.getfield 83, 3) := by decide +kernel
theorem dX2_total_68 : decode cX2_total 68 = .ok (.ireturn, 1) := by decide +kernel
theorem dX2_total_69 : decode cX2_total 69 = .ok (.aload_n 0, 1) := by decide +kernel
theorem dX2_total_70 : decode cX2_total 70 = .ok (.getfield 62, 3) := by decide +kernel
theorem dX2_total_73 : decode cX2_total 73 = .ok (.ireturn, 1) := by decide +kernel
theorem dX2_total_74 : decode cX2_total 74 = .ok (.aload_n 0, 1) := by decide +kernel
theorem dX2_total_75 : decode cX2_total 75 = .ok (.getfield 86, 3) := by decide +kernel
theorem dX2_total_78 : decode cX2_total 78 = .ok (.ireturn, 1) := by decide +kernel
theorem dX2_total_79 : decode cX2_total 79 = .ok (.aload_n 0, 1) := by decide +kernel
theorem dX2_total_80 : decode cX2_total 80 = .ok (.getfield 27, 3) := by decide +kernel
theorem dX2_total_83 : decode cX2_total 83 = .ok (.aload_n 0, 1) := by decide +kernel
theorem dX2_total_84 : decode cX2_total 84 = .ok (.getfield 42, 3) := by decide +kernel
theorem dX2_total_87 : decode cX2_total 87 = .ok (.invokevirtual 145, 3) := by decide +kernel
theorem dX2_total_90 : decode cX2_total 90 = .ok (.ireturn, 1) := by decide +kernel
theorem dX3_init_0 : decode cX3_init 0 = .ok (.aload_n 0, 1) := by decide +kernel
theorem dX3_init_1 : decode cX3_init 1 = .ok (.invokespecial 3, 3) := by decide +kernel
theorem dX3_init_4 : decode cX3_init 4 = .ok (.aload_n 0, 1) := by decide +kernel
theorem dX3_init_5 : decode cX3_init 5 = .ok (.bipush 40, 2) := by decide +kernel
theorem dX3_init_7 : decode cX3_init 7 = .ok (.newarray .int, 2) := by decide +kernel
theorem dX3_init_9 : decode cX3_init 9 = .ok (.putfield 9, 3) := by decide +kernel
theorem dX3_init_12 : decode cX3_init 12 = .ok (.aload_n 0, 1) := by decide +kernel
theorem dX3_init_13 : decode cX3_init 13 = .ok (.bipush 40, 2) := by decide +kernel
theorem dX3_init_15 : decode cX3_init 15 = .ok (.newarray .int, 2) := by decide +kernel
theorem dX3_init_17 : decode cX3_init 17 = .ok (.putfield 15, 3) := by decide +kernel
theorem dX3_init_20 : decode cX3_init 20 = .ok (.aload_n 0, 1) := by decide +kernel
theorem dX3_init_21 : decode cX3_init 21 = .ok (.bipush 40, 2) := by decide +kernel
theorem dX3_init_23 : decode cX3_init 23 = .ok (.newarray .long, 2) := by decide +kernel
theorem dX3_init_25 : decode cX3_init 25 = .ok (.putfield 18, 3) := by decide +kernel
theorem dX3_init_28 : decode cX3_init 28 = .ok (.aload_n 0, 1) := by decide +kernel
theorem dX3_init_29 : decode cX3_init 29 = .ok (.bipush 40, 2) := by decide +kernel
theorem dX3_init_31 : decode cX3_init 31 = .ok (.newarray .long, 2) := by decide +kernel
theorem dX3_init_33 : decode cX3_init 33 = .ok (.putfield 22, 3) := by decide +kernel
theorem dX3_init_36 : decode cX3_init 36 = .ok (.aload_n 0, 1) := by decide +kernel
theorem dX3_init_37 : decode cX3_init 37 = .ok (.bipush 40, 2) := by decide +kernel
theorem dX3_init_39 : decode cX3_init 39 = .ok (.newarray .boolean, 2) := by decide +kernel
theorem dX3_init_41 : decode cX3_init 41 = .ok (.putfield 25, 3) := by decide +kernel
theorem dX3_init_44 : decode cX3_init 44 = .ok (.aload_n 0, 1) := by decide +kernel
theorem dX3_init_45 : decode cX3_init 45 = .ok (.bipush 40, 2) := by decide +kernel
theorem dX3_init_47 : decode cX3_init 47 = .ok (.newarray .boolean, 2) := by decide +kernel
theorem dX3_init_49 : decode cX3_init 49 = .ok (.putfield 29, 3) := by decide +kernel
theorem dX3_init_52 : decode cX3_init 52 = .ok (.aload_n 0, 1) := by decide +kernel
theorem dX3_init_53 : decode cX3_init 53 = .ok (.bipush 40, 2) := by decide +kernel
theorem dX3_init_55 : decode cX3_init 55 = .ok (.newarray .long, 2) := by decide +kernel
theorem dX3_init_57 : decode cX3_init 57 = .ok (.putfield 32, 3) := by decide +kernel
theorem dX3_init_60 : decode cX3_init 60 = .ok (.aload_n 0, 1) := by decide +kernel
theorem dX3_init_61 : decode cX3_init 61 = .ok (.bipush 40, 2) := by decide +kernel
theorem dX3_init_63 : decode cX3_init 63 = .ok (.newarray .long, 2) := by decide +kernel
theorem dX3_init_65 : decode cX3_init 65 = .ok (.putfield 35, 3) := by decide +kernel
theorem dX3_init_68 : decode cX3_init 68 = .ok (.aload_n 0, 1) := by decide +kernel
theorem dX3_init_69 : decode cX3_init 69 = .ok (.bipush 40, 2) := by decide +kernel
theorem dX3_init_71 : decode cX3_init 71 = .ok (.newarray .int, 2) := by decide +kernel
theorem dX3_init_73 : decode cX3_init 73 = .ok (.putfield 38, 3) := by decide +kernel
theorem dX3_init_76 : decode cX3_init 76 = .ok (.aload_n 0, 1) := by decide +kernel
theorem dX3_init_77 : decode cX3_init 77 = .ok (.bipush 40, 2) := by decide +kernel
theorem dX3_init_79 : decode cX3_init 79 = .ok (.newarray .int, 2) := by decide +kernel
theorem dX3_init_81 : decode cX3_init 81 = .ok (.putfield 41, 3) := by decide +kernel
theorem dX3_init_84 : decode cX3_init 84 = .ok (.aload_n 0, 1) := by decide +kernel
theorem dX3_init_85 : decode cX3_init 85 = .ok (.bipush 40, 2) := by decide +kernel
theorem dX3_init_87 : decode cX3_init 87 = .ok (.newarray .int, 2) := by decide +kernel
theorem dX3_init_89 : decode cX3_init 89 = .ok (.putfield 44, 3) := by decide +kernel
theorem dX3_init_92 : decode cX3_init 92 = .ok (.aload_n 0, 1) := by decide +kernel
theorem dX3_init_93 : decode cX3_init 93 = .ok (.bipush 40, 2) := by decide +kernel
theorem dX3_init_95 : decode cX3_init 95 = .ok (.newarray .int, 2) := by decide +kernel
theorem dX3_init_97 : decode cX3_init 97 = .ok (.putfield 47, 3) := by decide +kernel
theorem dX3_init_100 : decode cX3_init 100 = .ok (.aload_n 0, 1) := by decide +kernel
theorem dX3_init_101 : decode cX3_init 101 = .ok (.bipush 40, 2) := by decide +kernel
theorem dX3_init_103 : decode cX3_init 103 = .ok (.newarray .int, 2) := by decide +kernel
theorem dX3_init_105 : decode cX3_init 105 = .ok (.putfield 50, 3) := by decide +kernel
theorem dX3_init_108 : decode cX3_init 108 = .ok (.aload_n 0, 1) := by decide +kernel
theorem dX3_init_109 : decode cX3_init 109 = .ok (.aload_n 1, 1) := by decide +kernel
theorem dX3_init_110 : decode cX3_init 110 = .ok (.putfield 53, 3) := by decide +kernel
theorem dX3_init_113 : decode cX3_init 113 = .ok (.return_, 1) := by decide +kernel
theorem dX3_openAll_0 : decode cX3_openAll 0 = .ok (.iconst 0, 1) := by decide +kernel
theorem dX3_openAll_1 : decode cX3_openAll 1 = .ok (.istore_n 1, 1) := by decide +kernel
theorem dX3_openAll_2 : decode cX3_openAll 2 = .ok (.iload_n 1, 1) := by decide +kernel
theorem dX3_openAll_3 : decode cX3_openAll 3 = .ok (.bipush 40, 2) := by decide +kernel
theorem dX3_openAll_5 : decode cX3_openAll 5 = .ok (.if_icmp .ge 51, 3) := by decide +kernel
theorem dX3_openAll_8 : decode cX3_openAll 8 = .ok (.aload_n 0, 1) := by decide +kernel
theorem dX3_openAll_9 : decode cX3_openAll 9 = .ok (.getfield 9, 3) := by decide +kernel
theorem dX3_openAll_12 : decode cX3_openAll 12 = .ok (.iload_n 1, 1) := by decide +kernel
theorem dX3_openAll_13 : decode cX3_openAll 13 = .ok (.iconst 0, 1) := by decide +kernel
theorem dX3_openAll_14 : decode cX3_openAll 14 = .ok (.iastore, 1) := by decide +kernel
theorem dX3_openAll_15 : decode cX3_openAll 15 = .ok (.aload_n 0, 1) := by decide +kernel
theorem dX3_openAll_16 : decode cX3_openAll 16 = .ok (.getfield 38, 3) := by decide +kernel
theorem dX3_openAll_19 : decode cX3_openAll 19 = .ok (.iload_n 1, 1) := by decide +kernel
theorem dX3_openAll_20 : decode cX3_openAll 20 = .ok (.iconst 0, 1) := by decide +kernel
theorem dX3_openAll_21 : decode cX3_openAll 21 = .ok (.iastore, 1) := by decide +kernel
theorem dX3_openAll_22 : decode cX3_openAll 22 = .ok (.aload_n 0, 1) := by decide +kernel
theorem dX3_openAll_23 : decode cX3_openAll 23 = .ok (.getfield 41, 3) := by decide +kernel
theorem dX3_openAll_26 : decode cX3_openAll 26 = .ok (.iload_n 1, 1) := by decide +kernel
theorem dX3_openAll_27 : decode cX3_openAll 27 = .ok (.iconst 0, 1) := by decide +kernel
theorem dX3_openAll_28 : decode cX3_openAll 28 = .ok (.iastore, 1) := by decide +kernel
theorem dX3_openAll_29 : decode cX3_openAll 29 = .ok (.aload_n 0, 1) := by decide +kernel
theorem dX3_openAll_30 : decode cX3_openAll 30 = .ok (.getfield 44, 3) := by decide +kernel
theorem dX3_openAll_33 : decode cX3_openAll 33 = .ok (.iload_n 1, 1) := by decide +kernel
theorem dX3_openAll_34 : decode cX3_openAll 34 = .ok (.iconst (-1), 1) := by decide +kernel
theorem dX3_openAll_35 : decode cX3_openAll 35 = .ok (.iastore, 1) := by decide +kernel
theorem dX3_openAll_36 : decode cX3_openAll 36 = .ok (.aload_n 0, 1) := by decide +kernel
theorem dX3_openAll_37 : decode cX3_openAll 37 = .ok (.getfield 47, 3) := by decide +kernel
theorem dX3_openAll_40 : decode cX3_openAll 40 = .ok (.iload_n 1, 1) := by decide +kernel
theorem dX3_openAll_41 : decode cX3_openAll 41 = .ok (.iconst (-1), 1) := by decide +kernel
theorem dX3_openAll_42 : decode cX3_openAll 42 = .ok (.iastore, 1) := by decide +kernel
theorem dX3_openAll_43 : decode cX3_openAll 43 = .ok (.aload_n 0, 1) := by decide +kernel
theorem dX3_openAll_44 : decode cX3_openAll 44 = .ok (.getfield 50, 3) := by decide +kernel
theorem dX3_openAll_47 : decode cX3_openAll 47 = .ok (.iload_n 1, 1) := by decide +kernel
theorem dX3_openAll_48 : decode cX3_openAll 48 = .ok (.iconst (-1), 1) := by decide +kernel
theorem dX3_openAll_49 : decode cX3_openAll 49 = .ok (.iastore, 1) := by decide +kernel
theorem dX3_openAll_50 : decode cX3_openAll 50 = .ok (.iinc 1 1, 3) := by decide +kernel
theorem dX3_openAll_53 : decode cX3_openAll 53 = .ok (.goto (-51), 3) := by decide +kernel
theorem dX3_openAll_56 : decode cX3_openAll 56 = .ok (.return_, 1) := by decide +kernel
theorem dX3_standing_0 : decode cX3_standing 0 = .ok (.iload_n 1, 1) := by decide +kernel
theorem dX3_standing_1 : decode cX3_standing 1 = .ok (.bipush 40, 2) := by decide +kernel
theorem dX3_standing_3 : decode cX3_standing 3 = .ok (.invokestatic 57, 3) := by decide +kernel
theorem dX3_standing_6 : decode cX3_standing 6 = .ok (.iconst 1, 1) := by decide +kernel
theorem dX3_standing_7 : decode cX3_standing 7 = .ok (.isub, 1) := by decide +kernel
theorem dX3_standing_8 : decode cX3_standing 8 = .ok (.istore_n 3, 1) := by decide +kernel
theorem dX3_standing_9 : decode cX3_standing 9 = .ok (.iload_n 3, 1) := by decide +kernel
theorem dX3_standing_10 : decode cX3_standing 10 = .ok (.ifCond .lt 75, 3) := by decide +kernel
theorem dX3_standing_13 : decode cX3_standing 13 = .ok (.aload_n 0, 1) := by decide +kernel
theorem dX3_standing_14 : decode cX3_standing 14 = .ok (.iload_n 3, 1) := by decide +kernel
theorem dX3_standing_15 : decode cX3_standing 15 = .ok (.invokevirtual 63, 3) := by decide +kernel
theorem dX3_standing_18 : decode cX3_standing 18 = .ok (.ifCond .eq 61, 3) := by decide +kernel
theorem dX3_standing_21 : decode cX3_standing 21 = .ok (.aload_n 0, 1) := by decide +kernel
theorem dX3_standing_22 : decode cX3_standing 22 = .ok (.getfield 25, 3) := by decide +kernel
theorem dX3_standing_25 : decode cX3_standing 25 = .ok (.iload_n 3, 1) := by decide +kernel
theorem dX3_standing_26 : decode cX3_standing 26 = .ok (.baload, 1) := by decide +kernel
theorem dX3_standing_27 : decode cX3_standing 27 = .ok (.ifCond .eq 23, 3) := by decide +kernel
theorem dX3_standing_30 : decode cX3_standing 30 = .ok (.aload_n 0, 1) := by decide +kernel
theorem dX3_standing_31 : decode cX3_standing 31 = .ok (.getfield 53, 3) := by decide +kernel
theorem dX3_standing_34 : decode cX3_standing 34 = .ok (.getfield 67, 3) := by decide +kernel
theorem dX3_standing_37 : decode cX3_standing 37 = .ok (.iload_n 3, 1) := by decide +kernel
theorem dX3_standing_38 : decode cX3_standing 38 = .ok (.iaload, 1) := by decide +kernel
theorem dX3_standing_39 : decode cX3_standing 39 = .ok (.iload_n 2, 1) := by decide +kernel
theorem dX3_standing_40 : decode cX3_standing 40 = .ok (.if_icmp .ne 10, 3) := by decide +kernel
theorem dX3_standing_43 : decode cX3_standing 43 = .ok (.aload_n 0, 1) := by decide +kernel
theorem dX3_standing_44 : decode cX3_standing 44 = .ok (.getfield 32, 3) := by decide +kernel
theorem dX3_standing_47 : decode cX3_standing 47 = .ok (.iload_n 3, 1) := by decide +kernel
theorem dX3_standing_48 : decode cX3_standing 48 = .ok (.laload, 1) := by decide +kernel
theorem dX3_standing_49 : decode cX3_standing 49 = .ok (.lreturn, 1) := by decide +kernel
theorem dX3_standing_50 : decode cX3_standing 50 = .ok (.aload_n 0, 1) := by decide +kernel
theorem dX3_standing_51 : decode cX3_standing 51 = .ok (.getfield 29, 3) := by decide +kernel
theorem dX3_standing_54 : decode cX3_standing 54 = .ok (.iload_n 3, 1) := by decide +kernel
theorem dX3_standing_55 : decode cX3_standing 55 = .ok (.baload, 1) := by decide +kernel
theorem dX3_standing_56 : decode cX3_standing 56 = .ok (.ifCond .eq 23, 3) := by decide +kernel
theorem dX3_standing_59 : decode cX3_standing 59 = .ok (.aload_n 0, 1) := by decide +kernel
theorem dX3_standing_60 : decode cX3_standing 60 = .ok (.getfield 53, 3) := by decide +kernel
theorem dX3_standing_63 : decode cX3_standing 63 = .ok (.getfield 72, 3) := by decide +kernel
theorem dX3_standing_66 : decode cX3_standing 66 = .ok (.iload_n 3, 1) := by decide +kernel
theorem dX3_standing_67 : decode cX3_standing 67 = .ok (.iaload, 1) := by decide +kernel
theorem dX3_standing_68 : decode cX3_standing 68 = .ok (.iload_n 2, 1) := by decide +kernel
theorem dX3_standing_69 : decode cX3_standing 69 = .ok (.if_icmp .ne 10, 3) := by decide +kernel
theorem dX3_standing_72 : decode cX3_standing 72 = .ok (.aload_n 0, 1) := by decide +kernel
theorem dX3_standing_73 : decode cX3_standing 73 = .ok (.getfield 35, 3) := by decide +kernel
theorem dX3_standing_76 : decode cX3_standing 76 = .ok (.iload_n 3, 1) := by decide +kernel
theorem dX3_standing_77 : decode cX3_standing 77 = .ok (.laload, 1) := by decide +kernel
theorem dX3_standing_78 : decode cX3_standing 78 = .ok (.lreturn, 1) := by decide +kernel
theorem dX3_standing_79 : decode cX3_standing 79 = .ok (.iinc 3 (-1), 3) := by decide +kernel
theorem dX3_standing_82 : decode cX3_standing 82 = .ok (.goto (-73), 3) := by decide +kernel
theorem dX3_standing_85 : decode cX3_standing 85 = .ok (.lconst 0, 1) := by decide +kernel
theorem dX3_standing_86 : decode cX3_standing 86 = .ok (.lreturn, 1) := by decide +kernel
theorem dX3_hasEnded_0 : decode cX3_hasEnded 0 = .ok (.aload_n 0, 1) := by decide +kernel
theorem dX3_hasEnded_1 : decode cX3_hasEnded 1 = .ok (.getfield 9, 3) := by decide +kernel
theorem dX3_hasEnded_4 : decode cX3_hasEnded 4 = .ok (.iload_n 1, 1) := by decide +kernel
theorem dX3_hasEnded_5 : decode cX3_hasEnded 5 = .ok (.iaload, 1) := by decide +kernel
theorem dX3_hasEnded_6 : decode cX3_hasEnded 6 = .ok (.iconst 2, 1) := by decide +kernel
theorem dX3_hasEnded_7 : decode cX3_hasEnded 7 = .ok (.if_icmp .eq 13, 3) := by decide +kernel
theorem dX3_hasEnded_10 : decode cX3_hasEnded 10 = .ok (.aload_n 0, 1) := by decide +kernel
theorem dX3_hasEnded_11 : decode cX3_hasEnded 11 = .ok (.getfield 9, 3) := by decide +kernel
theorem dX3_hasEnded_14 : decode cX3_hasEnded 14 = .ok (.iload_n 1, 1) := by decide +kernel
theorem dX3_hasEnded_15 : decode cX3_hasEnded 15 = .ok (.iaload, 1) := by decide +kernel
theorem dX3_hasEnded_16 : decode cX3_hasEnded 16 = .ok (.iconst 3, 1) := by decide +kernel
theorem dX3_hasEnded_17 : decode cX3_hasEnded 17 = .ok (.if_icmp .ne 7, 3) := by decide +kernel
theorem dX3_hasEnded_20 : decode cX3_hasEnded 20 = .ok (.iconst 1, 1) := by decide +kernel
theorem dX3_hasEnded_21 : decode cX3_hasEnded 21 = .ok (.goto 4, 3) := by decide +kernel
theorem dX3_hasEnded_24 : decode cX3_hasEnded 24 = .ok (.iconst 0, 1) := by decide +kernel
theorem dX3_hasEnded_25 : decode cX3_hasEnded 25 = .ok (.ireturn, 1) := by decide +kernel
theorem dX3_leastOpen_0 : decode cX3_leastOpen 0 = .ok (.iload_n 1, 1) := by decide +kernel
theorem dX3_leastOpen_1 : decode cX3_leastOpen 1 = .ok (.iconst 0, 1) := by decide +kernel
theorem dX3_leastOpen_2 : decode cX3_leastOpen 2 = .ok (.invokestatic 75, 3) := by decide +kernel
theorem dX3_leastOpen_5 : decode cX3_leastOpen 5 = .ok (.istore_n 3, 1) := by decide +kernel
theorem dX3_leastOpen_6 : decode cX3_leastOpen 6 = .ok (.iload_n 3, 1) := by decide +kernel
theorem dX3_leastOpen_7 : decode cX3_leastOpen 7 = .ok (.iload_n 2, 1) := by decide +kernel
theorem dX3_leastOpen_8 : decode cX3_leastOpen 8 = .ok (.if_icmp .ge 26, 3) := by decide +kernel
theorem dX3_leastOpen_11 : decode cX3_leastOpen 11 = .ok (.iload_n 3, 1) := by decide +kernel
theorem dX3_leastOpen_12 : decode cX3_leastOpen 12 = .ok (.bipush 40, 2) := by decide +kernel
theorem dX3_leastOpen_14 : decode cX3_leastOpen 14 = .ok (.if_icmp .ge 20, 3) := by decide +kernel
theorem dX3_leastOpen_17 : decode cX3_leastOpen 17 = .ok (.aload_n 0, 1) := by decide +kernel
theorem dX3_leastOpen_18 : decode cX3_leastOpen 18 = .ok (.getfield 9, 3) := by decide +kernel
theorem dX3_leastOpen_21 : decode cX3_leastOpen 21 = .ok (.iload_n 3, 1) := by decide +kernel
theorem dX3_leastOpen_22 : decode cX3_leastOpen 22 = .ok (.iaload, 1) := by decide +kernel
theorem dX3_leastOpen_23 : decode cX3_leastOpen 23 = .ok (.ifCond .ne 5, 3) := by decide +kernel
theorem dX3_leastOpen_26 : decode cX3_leastOpen 26 = .ok (.iload_n 3, 1) := by decide +kernel
theorem dX3_leastOpen_27 : decode cX3_leastOpen 27 = .ok (.ireturn, 1) := by decide +kernel
theorem dX3_leastOpen_28 : decode cX3_leastOpen 28 = .ok (.iinc 3 1, 3) := by decide +kernel
theorem dX3_leastOpen_31 : decode cX3_leastOpen 31 = .ok (.goto (-25), 3) := by decide +kernel
theorem dX3_leastOpen_34 : decode cX3_leastOpen 34 = .ok (.iconst (-1), 1) := by decide +kernel
theorem dX3_leastOpen_35 : decode cX3_leastOpen 35 = .ok (.ireturn, 1) := by decide +kernel
theorem dX3_noteBegun_0 : decode cX3_noteBegun 0 = .ok (.aload_n 0, 1) := by decide +kernel
theorem dX3_noteBegun_1 : decode cX3_noteBegun 1 = .ok (.getfield 41, 3) := by decide +kernel
theorem dX3_noteBegun_4 : decode cX3_noteBegun 4 = .ok (.iload_n 1, 1) := by decide +kernel
theorem dX3_noteBegun_5 : decode cX3_noteBegun 5 = .ok (.iaload, 1) := by decide +kernel
theorem dX3_noteBegun_6 : decode cX3_noteBegun 6 = .ok (.ifCond .ne 10, 3) := by decide +kernel
theorem dX3_noteBegun_9 : decode cX3_noteBegun 9 = .ok (.aload_n 0, 1) := by decide +kernel
theorem dX3_noteBegun_10 : decode cX3_noteBegun 10 = .ok (.getfield 44, 3) := by decide +kernel
theorem dX3_noteBegun_13 : decode cX3_noteBegun 13 = .ok (.iload_n 1, 1) := by decide +kernel
theorem dX3_noteBegun_14 : decode cX3_noteBegun 14 = .ok (.iload_n 2, 1) := by decide +kernel
theorem dX3_noteBegun_15 : decode cX3_noteBegun 15 = .ok (.iastore, 1) := by decide +kernel
theorem dX3_noteBegun_16 : decode cX3_noteBegun 16 = .ok (.aload_n 0, 1) := by decide +kernel
theorem dX3_noteBegun_17 : decode cX3_noteBegun 17 = .ok (.getfield 41, 3) := by decide +kernel
theorem dX3_noteBegun_20 : decode cX3_noteBegun 20 = .ok (.iload_n 1, 1) := by decide +kernel
theorem dX3_noteBegun_21 : decode cX3_noteBegun 21 = .ok (.dup2, 1) := by decide +kernel
theorem dX3_noteBegun_22 : decode cX3_noteBegun 22 = .ok (.iaload, 1) := by decide +kernel
theorem dX3_noteBegun_23 : decode cX3_noteBegun 23 = .ok (.iconst 1, 1) := by decide +kernel
theorem dX3_noteBegun_24 : decode cX3_noteBegun 24 = .ok (.iadd, 1) := by decide +kernel
theorem dX3_noteBegun_25 : decode cX3_noteBegun 25 = .ok (.iastore, 1) := by decide +kernel
theorem dX3_noteBegun_26 : decode cX3_noteBegun 26 = .ok (.return_, 1) := by decide +kernel
theorem dX3_setUnderWay_0 : decode cX3_setUnderWay 0 = .ok (.aload_n 0, 1) := by decide +kernel
theorem dX3_setUnderWay_1 : decode cX3_setUnderWay 1 = .ok (.getfield 9, 3) := by decide +kernel
theorem dX3_setUnderWay_4 : decode cX3_setUnderWay 4 = .ok (.iload_n 1, 1) := by decide +kernel
theorem dX3_setUnderWay_5 : decode cX3_setUnderWay 5 = .ok (.iconst 1, 1) := by decide +kernel
theorem dX3_setUnderWay_6 : decode cX3_setUnderWay 6 = .ok (.iastore, 1) := by decide +kernel
theorem dX3_setUnderWay_7 : decode cX3_setUnderWay 7 = .ok (.aload_n 0, 1) := by decide +kernel
theorem dX3_setUnderWay_8 : decode cX3_setUnderWay 8 = .ok (.getfield 15, 3) := by decide +kernel
theorem dX3_setUnderWay_11 : decode cX3_setUnderWay 11 = .ok (.iload_n 1, 1) := by decide +kernel
theorem dX3_setUnderWay_12 : decode cX3_setUnderWay 12 = .ok (.aload_n 0, 1) := by decide +kernel
theorem dX3_setUnderWay_13 : decode cX3_setUnderWay 13 = .ok (.getfield 53, 3) := by decide +kernel
theorem dX3_setUnderWay_16 : decode cX3_setUnderWay 16 = .ok (.getfield 78, 3) := by decide +kernel
theorem dX3_setUnderWay_19 : decode cX3_setUnderWay 19 = .ok (.iload_n 1, 1) := by decide +kernel
theorem dX3_setUnderWay_20 : decode cX3_setUnderWay 20 = .ok (.iaload, 1) := by decide +kernel
theorem dX3_setUnderWay_21 : decode cX3_setUnderWay 21 = .ok (.iastore, 1) := by decide +kernel
theorem dX3_setUnderWay_22 : decode cX3_setUnderWay 22 = .ok (.aload_n 0, 1) := by decide +kernel
theorem dX3_setUnderWay_23 : decode cX3_setUnderWay 23 = .ok (.getfield 18, 3) := by decide +kernel
theorem dX3_setUnderWay_26 : decode cX3_setUnderWay 26 = .ok (.iload_n 1, 1) := by decide +kernel
theorem dX3_setUnderWay_27 : decode cX3_setUnderWay 27 = .ok (.aload_n 0, 1) := by decide +kernel
theorem dX3_setUnderWay_28 : decode cX3_setUnderWay 28 = .ok (.iload_n 1, 1) := by decide +kernel
theorem dX3_setUnderWay_29 : decode cX3_setUnderWay 29 = .ok (.aload_n 0, 1) := by decide +kernel
theorem dX3_setUnderWay_30 : decode cX3_setUnderWay 30 = .ok (.getfield 53, 3) := by decide +kernel
theorem dX3_setUnderWay_33 : decode cX3_setUnderWay 33 = .ok (.getfield 67, 3) := by decide +kernel
theorem dX3_setUnderWay_36 : decode cX3_setUnderWay 36 = .ok (.iload_n 1, 1) := by decide +kernel
theorem dX3_setUnderWay_37 : decode cX3_setUnderWay 37 = .ok (.iaload, 1) := by decide +kernel
theorem dX3_setUnderWay_38 : decode cX3_setUnderWay 38 = .ok (.invokevirtual 81, 3) := by decide +kernel
theorem dX3_setUnderWay_41 : decode cX3_setUnderWay 41 = .ok (.lastore, 1) := by decide +kernel
theorem dX3_setUnderWay_42 : decode cX3_setUnderWay 42 = .ok (.aload_n 0, 1) := by decide +kernel
theorem dX3_setUnderWay_43 : decode cX3_setUnderWay 43 = .ok (.getfield 22, 3) := by decide +kernel
theorem dX3_setUnderWay_46 : decode cX3_setUnderWay 46 = .ok (.iload_n 1, 1) := by decide +kernel
theorem dX3_setUnderWay_47 : decode cX3_setUnderWay 47 = .ok (.aload_n 0, 1) := by decide +kernel
theorem dX3_setUnderWay_48 : decode cX3_setUnderWay 48 = .ok (.iload_n 1, 1) := by decide +kernel
theorem dX3_setUnderWay_49 : decode cX3_setUnderWay 49 = .ok (.aload_n 0, 1) := by decide +kernel
theorem dX3_setUnderWay_50 : decode cX3_setUnderWay 50 = .ok (.getfield 53, 3) := by decide +kernel
theorem dX3_setUnderWay_53 : decode cX3_setUnderWay 53 = .ok (.getfield 72, 3) := by decide +kernel
theorem dX3_setUnderWay_56 : decode cX3_setUnderWay 56 = .ok (.iload_n 1, 1) := by decide +kernel
theorem dX3_setUnderWay_57 : decode cX3_setUnderWay 57 = .ok (.iaload, 1) := by decide +kernel
theorem dX3_setUnderWay_58 : decode cX3_setUnderWay 58 = .ok (.invokevirtual 81, 3) := by decide +kernel
theorem dX3_setUnderWay_61 : decode cX3_setUnderWay 61 = .ok (.lastore, 1) := by decide +kernel
theorem dX3_setUnderWay_62 : decode cX3_setUnderWay 62 = .ok (.return_, 1) := by decide +kernel
theorem dX3_doesLastStep_0 : decode cX3_doesLastStep 0 = .ok (.aload_n 0, 1) := by decide +kernel
theorem dX3_doesLastStep_1 : decode cX3_doesLastStep 1 = .ok (.getfield 15, 3) := by decide +kernel
theorem dX3_doesLastStep_4 : decode cX3_doesLastStep 4 = .ok (.iload_n 1, 1) := by decide +kernel
theorem dX3_doesLastStep_5 : decode cX3_doesLastStep 5 = .ok (.dup2, 1) := by decide +kernel
theorem dX3_doesLastStep_6 : decode cX3_doesLastStep 6 = .ok (.iaload, 1) := by decide +kernel
theorem dX3_doesLastStep_7 : decode cX3_doesLastStep 7 = .ok (.iconst 1, 1) := by decide +kernel
theorem dX3_doesLastStep_8 : decode cX3_doesLastStep 8 = .ok (.isub, 1) := by decide +kernel
theorem dX3_doesLastStep_9 : decode cX3_doesLastStep 9 = .ok (.iastore, 1) := by decide +kernel
theorem dX3_doesLastStep_10 : decode cX3_doesLastStep 10 = .ok (.aload_n 0, 1) := by decide +kernel
theorem dX3_doesLastStep_11 : decode cX3_doesLastStep 11 = .ok (.getfield 15, 3) := by decide +kernel
theorem dX3_doesLastStep_14 : decode cX3_doesLastStep 14 = .ok (.iload_n 1, 1) := by decide +kernel
theorem dX3_doesLastStep_15 : decode cX3_doesLastStep 15 = .ok (.iaload, 1) := by decide +kernel
theorem dX3_doesLastStep_16 : decode cX3_doesLastStep 16 = .ok (.ifCond .le 5, 3) := by decide +kernel
theorem dX3_doesLastStep_19 : decode cX3_doesLastStep 19 = .ok (.iconst 0, 1) := by decide +kernel
theorem dX3_doesLastStep_20 : decode cX3_doesLastStep 20 = .ok (.ireturn, 1) := by decide +kernel
theorem dX3_doesLastStep_21 : decode cX3_doesLastStep 21 = .ok (.aload_n 0, 1) := by decide +kernel
theorem dX3_doesLastStep_22 : decode cX3_doesLastStep 22 = .ok (.iload_n 1, 1) := by decide +kernel
theorem dX3_doesLastStep_23 : decode cX3_doesLastStep 23 = .ok (.invokevirtual 85, 3) := by decide +kernel
theorem dX3_doesLastStep_26 : decode cX3_doesLastStep 26 = .ok (.aload_n 0, 1) := by decide +kernel
theorem dX3_doesLastStep_27 : decode cX3_doesLastStep 27 = .ok (.getfield 9, 3) := by decide +kernel
theorem dX3_doesLastStep_30 : decode cX3_doesLastStep 30 = .ok (.iload_n 1, 1) := by decide +kernel
theorem dX3_doesLastStep_31 : decode cX3_doesLastStep 31 = .ok (.iconst 2, 1) := by decide +kernel
theorem dX3_doesLastStep_32 : decode cX3_doesLastStep 32 = .ok (.iastore, 1) := by decide +kernel
theorem dX3_doesLastStep_33 : decode cX3_doesLastStep 33 = .ok (.aload_n 0, 1) := by decide +kernel
theorem dX3_doesLastStep_34 : decode cX3_doesLastStep 34 = .ok (.getfield 50, 3) := by decide +kernel
theorem dX3_doesLastStep_37 : decode cX3_doesLastStep 37 = .ok (.iload_n 1, 1) := by decide +kernel
theorem dX3_doesLastStep_38 : decode cX3_doesLastStep 38 = .ok (.iload_n 2, 1) := by decide +kernel
theorem dX3_doesLastStep_39 : decode cX3_doesLastStep 39 = .ok (.iastore, 1) := by decide +kernel
theorem dX3_doesLastStep_40 : decode cX3_doesLastStep 40 = .ok (.iconst 1, 1) := by decide +kernel
theorem dX3_doesLastStep_41 : decode cX3_doesLastStep 41 = .ok (.ireturn, 1) := by decide +kernel
theorem dX3_waitsToBeKept_0 : decode cX3_waitsToBeKept 0 = .ok (.iload_n 1, 1) := by decide +kernel
theorem dX3_waitsToBeKept_1 : decode cX3_waitsToBeKept 1 = .ok (.iconst 0, 1) := by decide +kernel
theorem dX3_waitsToBeKept_2 : decode cX3_waitsToBeKept 2 = .ok (.bipush 39, 2) := by decide +kernel
theorem dX3_waitsToBeKept_4 : decode cX3_waitsToBeKept 4 = .ok (.invokestatic 89, 3) := by decide +kernel
theorem dX3_waitsToBeKept_7 : decode cX3_waitsToBeKept 7 = .ok (.ifCond .eq 17, 3) := by decide +kernel
theorem dX3_waitsToBeKept_10 : decode cX3_waitsToBeKept 10 = .ok (.aload_n 0, 1) := by decide +kernel
theorem dX3_waitsToBeKept_11 : decode cX3_waitsToBeKept 11 = .ok (.getfield 9, 3) := by decide +kernel
theorem dX3_waitsToBeKept_14 : decode cX3_waitsToBeKept 14 = .ok (.iload_n 1, 1) := by decide +kernel
theorem dX3_waitsToBeKept_15 : decode cX3_waitsToBeKept 15 = .ok (.iaload, 1) := by decide +kernel
theorem dX3_waitsToBeKept_16 : decode cX3_waitsToBeKept 16 = .ok (.iconst 2, 1) := by decide +kernel
theorem dX3_waitsToBeKept_17 : decode cX3_waitsToBeKept 17 = .ok (.if_icmp .ne 7, 3) := by decide +kernel
theorem dX3_waitsToBeKept_20 : decode cX3_waitsToBeKept 20 = .ok (.iconst 1, 1) := by decide +kernel
theorem dX3_waitsToBeKept_21 : decode cX3_waitsToBeKept 21 = .ok (.goto 4, 3) := by decide +kernel
theorem dX3_waitsToBeKept_24 : decode cX3_waitsToBeKept 24 = .ok (.iconst 0, 1) := by decide +kernel
theorem dX3_waitsToBeKept_25 : decode cX3_waitsToBeKept 25 = .ok (.ireturn, 1) := by decide +kernel
theorem dX3_settle_0 : decode cX3_settle 0 = .ok (.aload_n 0, 1) := by decide +kernel
theorem dX3_settle_1 : decode cX3_settle 1 = .ok (.getfield 18, 3) := by decide +kernel
theorem dX3_settle_4 : decode cX3_settle 4 = .ok (.iload_n 1, 1) := by decide +kernel
theorem dX3_settle_5 : decode cX3_settle 5 = .ok (.laload, 1) := by decide +kernel
theorem dX3_settle_6 : decode cX3_settle 6 = .ok (.aload_n 0, 1) := by decide +kernel
theorem dX3_settle_7 : decode cX3_settle 7 = .ok (.iload_n 1, 1) := by decide +kernel
theorem dX3_settle_8 : decode cX3_settle 8 = .ok (.aload_n 0, 1) := by decide +kernel
theorem dX3_settle_9 : decode cX3_settle 9 = .ok (.getfield 53, 3) := by decide +kernel
theorem dX3_settle_12 : decode cX3_settle 12 = .ok (.getfield 67, 3) := by decide +kernel
theorem dX3_settle_15 : decode cX3_settle 15 = .ok (.iload_n 1, 1) := by decide +kernel
theorem dX3_settle_16 : decode cX3_settle 16 = .ok (.iaload, 1) := by decide +kernel
theorem dX3_settle_17 : decode cX3_settle 17 = .ok (.invokevirtual 81, 3) := by decide +kernel
theorem dX3_settle_20 : decode cX3_settle 20 = .ok (.lcmp, 1) := by decide +kernel
theorem dX3_settle_21 : decode cX3_settle 21 = .ok (.ifCond .ne 31, 3) := by decide +kernel
theorem dX3_settle_24 : decode cX3_settle 24 = .ok (.aload_n 0, 1) := by decide +kernel
theorem dX3_settle_25 : decode cX3_settle 25 = .ok (.getfield 22, 3) := by decide +kernel
theorem dX3_settle_28 : decode cX3_settle 28 = .ok (.iload_n 1, 1) := by decide +kernel
theorem dX3_settle_29 : decode cX3_settle 29 = .ok (.laload, 1) := by decide +kernel
theorem dX3_settle_30 : decode cX3_settle 30 = .ok (.aload_n 0, 1) := by decide +kernel
theorem dX3_settle_31 : decode cX3_settle 31 = .ok (.iload_n 1, 1) := by decide +kernel
theorem dX3_settle_32 : decode cX3_settle 32 = .ok (.aload_n 0, 1) := by decide +kernel
theorem dX3_settle_33 : decode cX3_settle 33 = .ok (.getfield 53, 3) := by decide +kernel
theorem dX3_settle_36 : decode cX3_settle 36 = .ok (.getfield 72, 3) := by decide +kernel
theorem dX3_settle_39 : decode cX3_settle 39 = .ok (.iload_n 1, 1) := by decide +kernel
theorem dX3_settle_40 : decode cX3_settle 40 = .ok (.iaload, 1) := by decide +kernel
theorem dX3_settle_41 : decode cX3_settle 41 = .ok (.invokevirtual 81, 3) := by decide +kernel
theorem dX3_settle_44 : decode cX3_settle 44 = .ok (.lcmp, 1) := by decide +kernel
theorem dX3_settle_45 : decode cX3_settle 45 = .ok (.ifCond .ne 7, 3) := by decide +kernel
theorem dX3_settle_48 : decode cX3_settle 48 = .ok (.iconst 1, 1) := by decide +kernel
theorem dX3_settle_49 : decode cX3_settle 49 = .ok (.goto 4, 3) := by decide +kernel
theorem dX3_settle_52 : decode cX3_settle 52 = .ok (.iconst 0, 1) := by decide +kernel
theorem dX3_settle_53 : decode cX3_settle 53 = .ok (.istore_n 3, 1) := by decide +kernel
theorem dX3_settle_54 : decode cX3_settle 54 = .ok (.aload_n 0, 1) := by decide +kernel
theorem dX3_settle_55 : decode cX3_settle 55 = .ok (.getfield 9, 3) := by decide +kernel
theorem dX3_settle_58 : decode cX3_settle 58 = .ok (.iload_n 1, 1) := by decide +kernel
theorem dX3_settle_59 : decode cX3_settle 59 = .ok (.iload_n 3, 1) := by decide +kernel
theorem dX3_settle_60 : decode cX3_settle 60 = .ok (.ifCond .eq 7, 3) := by decide +kernel
theorem dX3_settle_63 : decode cX3_settle 63 = .ok (.iconst 3, 1) := by decide +kernel
theorem dX3_settle_64 : decode cX3_settle 64 = .ok (.goto 4, 3) := by decide +kernel
theorem dX3_settle_67 : decode cX3_settle 67 = .ok (.iconst 0, 1) := by decide +kernel
theorem dX3_settle_68 : decode cX3_settle 68 = .ok (.iastore, 1) := by decide +kernel
theorem dX3_settle_69 : decode cX3_settle 69 = .ok (.iload_n 3, 1) := by decide +kernel
theorem dX3_settle_70 : decode cX3_settle 70 = .ok (.ifCond .eq 10, 3) := by decide +kernel
theorem dX3_settle_73 : decode cX3_settle 73 = .ok (.aload_n 0, 1) := by decide +kernel
theorem dX3_settle_74 : decode cX3_settle 74 = .ok (.getfield 47, 3) := by decide +kernel
theorem dX3_settle_77 : decode cX3_settle 77 = .ok (.iload_n 1, 1) := by decide +kernel
theorem dX3_settle_78 : decode cX3_settle 78 = .ok (.iload_n 2, 1) := by decide +kernel
theorem dX3_settle_79 : decode cX3_settle 79 = .ok (.iastore, 1) := by decide +kernel
theorem dX3_settle_80 : decode cX3_settle 80 = .ok (.iload_n 3, 1) := by decide +kernel
theorem dX3_settle_81 : decode cX3_settle 81 = .ok (.ireturn, 1) := by decide +kernel
theorem dX3_work_0 : decode cX3_work 0 = .ok (.aload_n 0, 1) := by decide +kernel
theorem dX3_work_1 : decode cX3_work 1 = .ok (.getfield 18, 3) := by decide +kernel
theorem dX3_work_4 : decode cX3_work 4 = .ok (.iload_n 1, 1) := by decide +kernel
theorem dX3_work_5 : decode cX3_work 5 = .ok (.laload, 1) := by decide +kernel
theorem dX3_work_6 : decode cX3_work 6 = .ok (.lstore_n 2, 1) := by decide +kernel
theorem dX3_work_7 : decode cX3_work 7 = .ok (.aload_n 0, 1) := by decide +kernel
theorem dX3_work_8 : decode cX3_work 8 = .ok (.getfield 22, 3) := by decide +kernel
theorem dX3_work_11 : decode cX3_work 11 = .ok (.iload_n 1, 1) := by decide +kernel
theorem dX3_work_12 : decode cX3_work 12 = .ok (.laload, 1) := by decide +kernel
theorem dX3_work_13 : decode cX3_work 13 = .ok (.lstore 4, 2) := by decide +kernel
theorem dX3_work_15 : decode cX3_work 15 = .ok (.aload_n 0, 1) := by decide +kernel
theorem dX3_work_16 : decode cX3_work 16 = .ok (.getfield 53, 3) := by decide +kernel
theorem dX3_work_19 : decode cX3_work 19 = .ok (.getfield 93, 3) := by decide +kernel
theorem dX3_work_22 : decode cX3_work 22 = .ok (.iload_n 1, 1) := by decide +kernel
theorem dX3_work_23 : decode cX3_work 23 = .ok (.iaload, 1) := by decide +kernel
theorem dX3_work_24 : decode cX3_work 24 = .ok (.i2l, 1) := by decide +kernel
theorem dX3_work_25 : decode cX3_work 25 = .ok (.lstore 6, 2) := by decide +kernel
theorem dX3_work_27 : decode cX3_work 27 = .ok (.aload_n 0, 1) := by decide +kernel
theorem dX3_work_28 : decode cX3_work 28 = .ok (.getfield 38, 3) := by decide +kernel
theorem dX3_work_31 : decode cX3_work 31 = .ok (.iload_n 1, 1) := by decide +kernel
theorem dX3_work_32 : decode cX3_work 32 = .ok (.iconst 1, 1) := by decide +kernel
theorem dX3_work_33 : decode cX3_work 33 = .ok (.iastore, 1) := by decide +kernel
theorem dX3_work_34 : decode cX3_work 34 = .ok (.aload_n 0, 1) := by decide +kernel
theorem dX3_work_35 : decode cX3_work 35 = .ok (.getfield 25, 3) := by decide +kernel
theorem dX3_work_38 : decode cX3_work 38 = .ok (.iload_n 1, 1) := by decide +kernel
theorem dX3_work_39 : decode cX3_work 39 = .ok (.iconst 0, 1) := by decide +kernel
theorem dX3_work_40 : decode cX3_work 40 = .ok (.bastore, 1) := by decide +kernel
theorem dX3_work_41 : decode cX3_work 41 = .ok (.aload_n 0, 1) := by decide +kernel
theorem dX3_work_42 : decode cX3_work 42 = .ok (.getfield 29, 3) := by decide +kernel
theorem dX3_work_45 : decode cX3_work 45 = .ok (.iload_n 1, 1) := by decide +kernel
theorem dX3_work_46 : decode cX3_work 46 = .ok (.iconst 0, 1) := by decide +kernel
theorem dX3_work_47 : decode cX3_work 47 = .ok (.bastore, 1) := by decide +kernel
theorem dX3_work_48 : decode cX3_work 48 = .ok (.aload_n 0, 1) := by decide +kernel
theorem dX3_work_49 : decode cX3_work 49 = .ok (.getfield 53, 3) := by decide +kernel
theorem dX3_work_52 : decode cX3_work 52 = .ok (.getfield 96, 3) := by decide +kernel
theorem dX3_work_55 : decode cX3_work 55 = .ok (.iload_n 1, 1) := by decide +kernel
theorem dX3_work_56 : decode cX3_work 56 = .ok (.iaload, 1) := by decide +kernel
theorem dX3_work_57 : decode cX3_work 57 = .ok (.tableswitch 109 0 4 #[35, 45, 60, 73, 93], 35) := by decide +kernel
theorem dX3_work_92 : decode cX3_work 92 = .ok (.aload_n 0, 1) := by decide +kernel
theorem dX3_work_93 : decode cX3_work 93 = .ok (.iload_n 1, 1) := by decide +kernel
theorem dX3_work_94 : decode cX3_work 94 = .ok (.lload 6, 2) := by decide +kernel
theorem dX3_work_96 : decode cX3_work 96 = .ok (.invokevirtual 99, 3) := by decide +kernel
theorem dX3_work_99 : decode cX3_work 99 = .ok (.goto 86, 3) := by decide +kernel
theorem dX3_work_102 : decode cX3_work 102 = .ok (.aload_n 0, 1) := by decide +kernel
theorem dX3_work_103 : decode cX3_work 103 = .ok (.iload_n 1, 1) := by decide +kernel
theorem dX3_work_104 : decode cX3_work 104 = .ok (.lload 4, 2) := by decide +kernel
theorem dX3_work_106 : decode cX3_work 106 = .ok (.lload_n 2, 1) := by decide +kernel
theorem dX3_work_107 : decode cX3_work 107 = .ok (.ladd, 1) := by decide +kernel
theorem dX3_work_108 : decode cX3_work 108 = .ok (.lload 6, 2) := by decide +kernel
theorem dX3_work_110 : decode cX3_work 110 = .ok (.ladd, 1) := by decide +kernel
theorem dX3_work_111 : decode cX3_work 111 = .ok (.invokevirtual 99, 3) := by decide +kernel
theorem dX3_work_114 : decode cX3_work 114 = .ok (.goto 71, 3) := by decide +kernel
theorem dX3_work_117 : decode cX3_work 117 = .ok (.aload_n 0, 1) := by decide +kernel
theorem dX3_work_118 : decode cX3_work 118 = .ok (.iload_n 1, 1) := by decide +kernel
theorem dX3_work_119 : decode cX3_work 119 = .ok (.lload_n 2, 1) := by decide +kernel
theorem dX3_work_120 : decode cX3_work 120 = .ok (.lload 4, 2) := by decide +kernel
theorem dX3_work_122 : decode cX3_work 122 = .ok (.lload 6, 2) := by decide +kernel
theorem dX3_work_124 : decode cX3_work 124 = .ok (.invokevirtual 103, 3) := by decide +kernel
theorem dX3_work_127 : decode cX3_work 127 = .ok (.goto 58, 3) := by decide +kernel
theorem dX3_work_130 : decode cX3_work 130 = .ok (.aload_n 0, 1) := by decide +kernel
theorem dX3_work_131 : decode cX3_work 131 = .ok (.iload_n 1, 1) := by decide +kernel
theorem dX3_work_132 : decode cX3_work 132 = .ok (.lload_n 2, 1) := by decide +kernel
theorem dX3_work_133 : decode cX3_work 133 = .ok (.lload 6, 2) := by decide +kernel
theorem dX3_work_135 : decode cX3_work 135 = .ok (.lcmp, 1) := by decide +kernel
theorem dX3_work_136 : decode cX3_work 136 = .ok (.ifCond .lt 7, 3) := by decide +kernel
theorem dX3_work_139 : decode cX3_work 139 = .ok (.iconst 1, 1) := by decide +kernel
theorem dX3_work_140 : decode cX3_work 140 = .ok (.goto 4, 3) := by decide +kernel
theorem dX3_work_143 : decode cX3_work 143 = .ok (.iconst 0, 1) := by decide +kernel
theorem dX3_work_144 : decode cX3_work 144 = .ok (.invokevirtual 107, 3) := by decide +kernel
theorem dX3_work_147 : decode cX3_work 147 = .ok (.goto 38, 3) := by decide +kernel
theorem dX3_work_150 : decode cX3_work 150 = .ok (.aload_n 0, 1) := by decide +kernel
theorem dX3_work_151 : decode cX3_work 151 = .ok (.iload_n 1, 1) := by decide +kernel
theorem dX3_work_152 : decode cX3_work 152 = .ok (.lload 4, 2) := by decide +kernel
theorem dX3_work_154 : decode cX3_work 154 = .ok (.invokevirtual 111, 3) := by decide +kernel
theorem dX3_work_157 : decode cX3_work 157 = .ok (.aload_n 0, 1) := by decide +kernel
theorem dX3_work_158 : decode cX3_work 158 = .ok (.iload_n 1, 1) := by decide +kernel
theorem dX3_work_159 : decode cX3_work 159 = .ok (.lload_n 2, 1) := by decide +kernel
theorem dX3_work_160 : decode cX3_work 160 = .ok (.invokevirtual 99, 3) := by decide +kernel
theorem dX3_work_163 : decode cX3_work 163 = .ok (.goto 22, 3) := by decide +kernel
theorem dX3_work_166 : decode cX3_work 166 = .ok (.aload_n 0, 1) := by decide +kernel
theorem dX3_work_167 : decode cX3_work 167 = .ok (.iload_n 1, 1) := by decide +kernel
theorem dX3_work_168 : decode cX3_work 168 = .ok (.lload_n 2, 1) := by decide +kernel
theorem dX3_work_169 : decode cX3_work 169 = .ok (.lload 4, 2) := by decide +kernel
theorem dX3_work_171 : decode cX3_work 171 = .ok (.lcmp, 1) := by decide +kernel
theorem dX3_work_172 : decode cX3_work 172 = .ok (.ifCond .ne 7, 3) := by decide +kernel
theorem dX3_work_175 : decode cX3_work 175 = .ok (.iconst 1, 1) := by decide +kernel
theorem dX3_work_176 : decode cX3_work 176 = .ok (.goto 4, 3) := by decide +kernel
theorem dX3_work_179 : decode cX3_work 179 = .ok (.iconst 0, 1) := by decide +kernel
theorem dX3_work_180 : decode cX3_work 180 = .ok (.lload 6, 2) := by decide +kernel
theorem dX3_work_182 : decode cX3_work 182 = .ok (.invokevirtual 114, 3) := by decide +kernel
theorem dX3_work_185 : decode cX3_work 185 = .ok (.return_, 1) := by decide +kernel
theorem dX3_pay_0 : decode cX3_pay 0 = .ok (.aload_n 0, 1) := by decide +kernel
theorem dX3_pay_1 : decode cX3_pay 1 = .ok (.iload_n 1, 1) := by decide +kernel
theorem dX3_pay_2 : decode cX3_pay 2 = .ok (.lload_n 2, 1) := by decide +kernel
theorem dX3_pay_3 : decode cX3_pay 3 = .ok (.lload 6, 2) := by decide +kernel
theorem dX3_pay_5 : decode cX3_pay 5 = .ok (.lcmp, 1) := by decide +kernel
theorem dX3_pay_6 : decode cX3_pay 6 = .ok (.ifCond .lt 14, 3) := by decide +kernel
theorem dX3_pay_9 : decode cX3_pay 9 = .ok (.lload 6, 2) := by decide +kernel
theorem dX3_pay_11 : decode cX3_pay 11 = .ok (.lconst 0, 1) := by decide +kernel
theorem dX3_pay_12 : decode cX3_pay 12 = .ok (.lcmp, 1) := by decide +kernel
theorem dX3_pay_13 : decode cX3_pay 13 = .ok (.ifCond .lt 7, 3) := by decide +kernel
theorem dX3_pay_16 : decode cX3_pay 16 = .ok (.iconst 1, 1) := by decide +kernel
theorem dX3_pay_17 : decode cX3_pay 17 = .ok (.goto 4, 3) := by decide +kernel
theorem dX3_pay_20 : decode cX3_pay 20 = .ok (.iconst 0, 1) := by decide +kernel
theorem dX3_pay_21 : decode cX3_pay 21 = .ok (.invokevirtual 107, 3) := by decide +kernel
theorem dX3_pay_24 : decode cX3_pay 24 = .ok (.aload_n 0, 1) := by decide +kernel
theorem dX3_pay_25 : decode cX3_pay 25 = .ok (.getfield 38, 3) := by decide +kernel
theorem dX3_pay_28 : decode cX3_pay 28 = .ok (.iload_n 1, 1) := by decide +kernel
theorem dX3_pay_29 : decode cX3_pay 29 = .ok (.iaload, 1) := by decide +kernel
theorem dX3_pay_30 : decode cX3_pay 30 = .ok (.iconst 1, 1) := by decide +kernel
theorem dX3_pay_31 : decode cX3_pay 31 = .ok (.if_icmp .ne 43, 3) := by decide +kernel
theorem dX3_pay_34 : decode cX3_pay 34 = .ok (.aload_n 0, 1) := by decide +kernel
theorem dX3_pay_35 : decode cX3_pay 35 = .ok (.getfield 53, 3) := by decide +kernel
theorem dX3_pay_38 : decode cX3_pay 38 = .ok (.getfield 67, 3) := by decide +kernel
theorem dX3_pay_41 : decode cX3_pay 41 = .ok (.iload_n 1, 1) := by decide +kernel
theorem dX3_pay_42 : decode cX3_pay 42 = .ok (.iaload, 1) := by decide +kernel
theorem dX3_pay_43 : decode cX3_pay 43 = .ok (.aload_n 0, 1) := by decide +kernel
theorem dX3_pay_44 : decode cX3_pay 44 = .ok (.getfield 53, 3) := by decide +kernel
theorem dX3_pay_47 : decode cX3_pay 47 = .ok (.getfield 72, 3) := by decide +kernel
theorem dX3_pay_50 : decode cX3_pay 50 = .ok (.iload_n 1, 1) := by decide +kernel
theorem dX3_pay_51 : decode cX3_pay 51 = .ok (.iaload, 1) := by decide +kernel
theorem dX3_pay_52 : decode cX3_pay 52 = .ok (.if_icmp .eq 22, 3) := by decide +kernel
theorem dX3_pay_55 : decode cX3_pay 55 = .ok (.aload_n 0, 1) := by decide +kernel
theorem dX3_pay_56 : decode cX3_pay 56 = .ok (.iload_n 1, 1) := by decide +kernel
theorem dX3_pay_57 : decode cX3_pay 57 = .ok (.lload_n 2, 1) := by decide +kernel
theorem dX3_pay_58 : decode cX3_pay 58 = .ok (.lload 6, 2) := by decide +kernel
theorem dX3_pay_60 : decode cX3_pay 60 = .ok (.lsub, 1) := by decide +kernel
theorem dX3_pay_61 : decode cX3_pay 61 = .ok (.invokevirtual 111, 3) := by decide +kernel
theorem dX3_pay_64 : decode cX3_pay 64 = .ok (.aload_n 0, 1) := by decide +kernel
theorem dX3_pay_65 : decode cX3_pay 65 = .ok (.iload_n 1, 1) := by decide +kernel
theorem dX3_pay_66 : decode cX3_pay 66 = .ok (.lload 4, 2) := by decide +kernel
theorem dX3_pay_68 : decode cX3_pay 68 = .ok (.lload 6, 2) := by decide +kernel
theorem dX3_pay_70 : decode cX3_pay 70 = .ok (.ladd, 1) := by decide +kernel
theorem dX3_pay_71 : decode cX3_pay 71 = .ok (.invokevirtual 99, 3) := by decide +kernel
theorem dX3_pay_74 : decode cX3_pay 74 = .ok (.return_, 1) := by decide +kernel
theorem dX3_meet_0 : decode cX3_meet 0 = .ok (.aload_n 0, 1) := by decide +kernel
theorem dX3_meet_1 : decode cX3_meet 1 = .ok (.iload_n 1, 1) := by decide +kernel
theorem dX3_meet_2 : decode cX3_meet 2 = .ok (.iload_n 2, 1) := by decide +kernel
theorem dX3_meet_3 : decode cX3_meet 3 = .ok (.invokevirtual 107, 3) := by decide +kernel
theorem dX3_meet_6 : decode cX3_meet 6 = .ok (.iload_n 2, 1) := by decide +kernel
theorem dX3_meet_7 : decode cX3_meet 7 = .ok (.ifCond .eq 9, 3) := by decide +kernel
theorem dX3_meet_10 : decode cX3_meet 10 = .ok (.aload_n 0, 1) := by decide +kernel
theorem dX3_meet_11 : decode cX3_meet 11 = .ok (.iload_n 1, 1) := by decide +kernel
theorem dX3_meet_12 : decode cX3_meet 12 = .ok (.lload_n 3, 1) := by decide +kernel
theorem dX3_meet_13 : decode cX3_meet 13 = .ok (.invokevirtual 99, 3) := by decide +kernel
theorem dX3_meet_16 : decode cX3_meet 16 = .ok (.return_, 1) := by decide +kernel
theorem dX3_failUnless_0 : decode cX3_failUnless 0 = .ok (.iload_n 2, 1) := by decide +kernel
theorem dX3_failUnless_1 : decode cX3_failUnless 1 = .ok (.ifCond .ne 10, 3) := by decide +kernel
theorem dX3_failUnless_4 : decode cX3_failUnless 4 = .ok (.aload_n 0, 1) := by decide +kernel
theorem dX3_failUnless_5 : decode cX3_failUnless 5 = .ok (.getfield 38, 3) := by decide +kernel
theorem dX3_failUnless_8 : decode cX3_failUnless 8 = .ok (.iload_n 1, 1) := by decide +kernel
theorem dX3_failUnless_9 : decode cX3_failUnless 9 = .ok (.iconst 2, 1) := by decide +kernel
theorem dX3_failUnless_10 : decode cX3_failUnless 10 = .ok (.iastore, 1) := by decide +kernel
theorem dX3_failUnless_11 : decode cX3_failUnless 11 = .ok (.return_, 1) := by decide +kernel
theorem dX3_giveA_0 : decode cX3_giveA 0 = .ok (.aload_n 0, 1) := by decide +kernel
theorem dX3_giveA_1 : decode cX3_giveA 1 = .ok (.getfield 25, 3) := by decide +kernel
theorem dX3_giveA_4 : decode cX3_giveA 4 = .ok (.iload_n 1, 1) := by decide +kernel
theorem dX3_giveA_5 : decode cX3_giveA 5 = .ok (.iconst 1, 1) := by decide +kernel
theorem dX3_giveA_6 : decode cX3_giveA 6 = .ok (.bastore, 1) := by decide +kernel
theorem dX3_giveA_7 : decode cX3_giveA 7 = .ok (.aload_n 0, 1) := by decide +kernel
theorem dX3_giveA_8 : decode cX3_giveA 8 = .ok (.getfield 32, 3) := by decide +kernel
theorem dX3_giveA_11 : decode cX3_giveA 11 = .ok (.iload_n 1, 1) := by decide +kernel
theorem dX3_giveA_12 : decode cX3_giveA 12 = .ok (.lload_n 2, 1) := by decide +kernel
theorem dX3_giveA_13 : decode cX3_giveA 13 = .ok (.lastore, 1) := by decide +kernel
theorem dX3_giveA_14 : decode cX3_giveA 14 = .ok (.return_, 1) := by decide +kernel
theorem dX3_giveB_0 : decode cX3_giveB 0 = .ok (.aload_n 0, 1) := by decide +kernel
theorem dX3_giveB_1 : decode cX3_giveB 1 = .ok (.getfield 29, 3) := by decide +kernel
theorem dX3_giveB_4 : decode cX3_giveB 4 = .ok (.iload_n 1, 1) := by decide +kernel
theorem dX3_giveB_5 : decode cX3_giveB 5 = .ok (.iconst 1, 1) := by decide +kernel
theorem dX3_giveB_6 : decode cX3_giveB 6 = .ok (.bastore, 1) := by decide +kernel
theorem dX3_giveB_7 : decode cX3_giveB 7 = .ok (.aload_n 0, 1) := by decide +kernel
theorem dX3_giveB_8 : decode cX3_giveB 8 = .ok (.getfield 35, 3) := by decide +kernel
theorem dX3_giveB_11 : decode cX3_giveB 11 = .ok (.iload_n 1, 1) := by decide +kernel
theorem dX3_giveB_12 : decode cX3_giveB 12 = .ok (.lload_n 2, 1) := by decide +kernel
theorem dX3_giveB_13 : decode cX3_giveB 13 = .ok (.lastore, 1) := by decide +kernel
theorem dX3_giveB_14 : decode cX3_giveB 14 = .ok (.return_, 1) := by decide +kernel
theorem dX3_figure_0 : decode cX3_figure 0 = .ok (.iload_n 2, 1) := by decide +kernel
theorem dX3_figure_1 : decode cX3_figure 1 = .ok (.tableswitch 48 0 2 #[27, 34, 41], 27) := by decide +kernel
theorem dX3_figure_28 : decode cX3_figure 28 = .ok (.aload_n 0, 1) := by decide +kernel
theorem dX3_figure_29 : decode cX3_figure 29 = .ok (.getfield 41, 3) := by decide +kernel
theorem dX3_figure_32 : decode cX3_figure 32 = .ok (.iload_n 1, 1) := by decide +kernel
theorem dX3_figure_33 : decode cX3_figure 33 = .ok (.iaload, 1) := by decide +kernel
theorem dX3_figure_34 : decode cX3_figure 34 = .ok (.ireturn, 1) := by decide +kernel
theorem dX3_figure_35 : decode cX3_figure 35 = .ok (.aload_n 0, 1) := by decide +kernel
theorem dX3_figure_36 : decode cX3_figure 36 = .ok (.getfield 44, 3) := by decide +kernel
theorem dX3_figure_39 : decode cX3_figure 39 = .ok (.iload_n 1, 1) := by decide +kernel
theorem dX3_figure_40 : decode cX3_figure 40 = .ok (.iaload, 1) := by decide +kernel
theorem dX3_figure_41 : decode cX3_figure 41 = .ok (.ireturn, 1) := by decide +kernel
theorem dX3_figure_42 : decode cX3_figure 42 = .ok (.aload_n 0, 1) := by decide +kernel
theorem dX3_figure_43 : decode cX3_figure 43 = .ok (.getfield 47, 3) := by decide +kernel
theorem dX3_figure_46 : decode cX3_figure 46 = .ok (.iload_n 1, 1) := by decide +kernel
theorem dX3_figure_47 : decode cX3_figure 47 = .ok (.iaload, 1) := by decide +kernel
theorem dX3_figure_48 : decode cX3_figure 48 = .ok (.ireturn, 1) := by decide +kernel
theorem dX3_figure_49 : decode cX3_figure 49 = .ok (.aload_n 0, 1) := by decide +kernel
theorem dX3_figure_50 : decode cX3_figure 50 = .ok (.getfield 50, 3) := by decide +kernel
theorem dX3_figure_53 : decode cX3_figure 53 = .ok (.iload_n 1, 1) := by decide +kernel
theorem dX3_figure_54 : decode cX3_figure 54 = .ok (.iaload, 1) := by decide +kernel
theorem dX3_figure_55 : decode cX3_figure 55 = .ok (.ireturn, 1) := by decide +kernel
theorem dX3_failures_0 : decode cX3_failures 0 = .ok (.iconst 0, 1) := by decide +kernel
theorem dX3_failures_1 : decode cX3_failures 1 = .ok (.istore_n 2, 1) := by decide +kernel
theorem dX3_failures_2 : decode cX3_failures 2 = .ok (.iconst 0, 1) := by decide +kernel
theorem dX3_failures_3 : decode cX3_failures 3 = .ok (.istore_n 3, 1) := by decide +kernel
theorem dX3_failures_4 : decode cX3_failures 4 = .ok (.iload_n 3, 1) := by decide +kernel
theorem dX3_failures_5 : decode cX3_failures 5 = .ok (.iload_n 1, 1) := by decide +kernel
theorem dX3_failures_6 : decode cX3_failures 6 = .ok (.if_icmp .ge 28, 3) := by decide +kernel
theorem dX3_failures_9 : decode cX3_failures 9 = .ok (.iload_n 3, 1) := by decide +kernel
theorem dX3_failures_10 : decode cX3_failures 10 = .ok (.bipush 40, 2) := by decide +kernel
theorem dX3_failures_12 : decode cX3_failures 12 = .ok (.if_icmp .ge 22, 3) := by decide +kernel
theorem dX3_failures_15 : decode cX3_failures 15 = .ok (.aload_n 0, 1) := by decide +kernel
theorem dX3_failures_16 : decode cX3_failures 16 = .ok (.getfield 38, 3) := by decide +kernel
theorem dX3_failures_19 : decode cX3_failures 19 = .ok (.iload_n 3, 1) := by decide +kernel
theorem dX3_failures_20 : decode cX3_failures 20 = .ok (.iaload, 1) := by decide +kernel
theorem dX3_failures_21 : decode cX3_failures 21 = .ok (.iconst 2, 1) := by decide +kernel
theorem dX3_failures_22 : decode cX3_failures 22 = .ok (.if_icmp .ne 6, 3) := by decide +kernel
theorem dX3_failures_25 : decode cX3_failures 25 = .ok (.iinc 2 1, 3) := by decide +kernel
theorem dX3_failures_28 : decode cX3_failures 28 = .ok (.iinc 3 1, 3) := by decide +kernel
theorem dX3_failures_31 : decode cX3_failures 31 = .ok (.goto (-27), 3) := by decide +kernel
theorem dX3_failures_34 : decode cX3_failures 34 = .ok (.iload_n 2, 1) := by decide +kernel
theorem dX3_failures_35 : decode cX3_failures 35 = .ok (.ireturn, 1) := by decide +kernel
end
section
theorem dX4_init_0 : decode cX4_init 0 = .ok (.aload_n 0, 1) := by decide +kernel
theorem dX4_init_1 : decode cX4_init 1 = .ok (.invokespecial 1, 3) := by decide +kernel
theorem dX4_init_4 : decode cX4_init 4 = .ok (.new 7, 3) := by decide +kernel
theorem dX4_init_7 : decode cX4_init 7 = .ok (.dup, 1) := by decide +kernel
theorem dX4_init_8 : decode cX4_init 8 = .ok (.invokespecial 9, 3) := by decide +kernel
theorem dX4_init_11 : decode cX4_init 11 = .ok (.astore_n 1, 1) := by decide +kernel
theorem dX4_init_12 : decode cX4_init 12 = .ok (.aload_n 0, 1) := by decide +kernel
theorem dX4_init_13 : decode cX4_init 13 = .ok (.aload_n 1, 1) := by decide +kernel
theorem dX4_init_14 : decode cX4_init 14 = .ok (.putfield 10, 3) := by decide +kernel
theorem dX4_init_17 : decode cX4_init 17 = .ok (.aload_n 0, 1) := by decide +kernel
theorem dX4_init_18 : decode cX4_init 18 = .ok (.new 16, 3) := by decide +kernel
theorem dX4_init_21 : decode cX4_init 21 = .ok (.dup, 1) := by decide +kernel
theorem dX4_init_22 : decode cX4_init 22 = .ok (.aload_n 1, 1) := by decide +kernel
theorem dX4_init_23 : decode cX4_init 23 = .ok (.invokespecial 18, 3) := by decide +kernel
theorem dX4_init_26 : decode cX4_init 26 = .ok (.putfield 21, 3) := by decide +kernel
theorem dX4_init_29 : decode cX4_init 29 = .ok (.aload_n 0, 1) := by decide +kernel
theorem dX4_init_30 : decode cX4_init 30 = .ok (.new 16, 3) := by decide +kernel
theorem dX4_init_33 : decode cX4_init 33 = .ok (.dup, 1) := by decide +kernel
theorem dX4_init_34 : decode cX4_init 34 = .ok (.aload_n 1, 1) := by decide +kernel
theorem dX4_init_35 : decode cX4_init 35 = .ok (.invokespecial 18, 3) := by decide +kernel
theorem dX4_init_38 : decode cX4_init 38 = .ok (.putfield 25, 3) := by decide +kernel
theorem dX4_init_41 : decode cX4_init 41 = .ok (.aload_n 0, 1) := by decide +kernel
theorem dX4_init_42 : decode cX4_init 42 = .ok (.new 16, 3) := by decide +kernel
theorem dX4_init_45 : decode cX4_init 45 = .ok (.dup, 1) := by decide +kernel
theorem dX4_init_46 : decode cX4_init 46 = .ok (.aload_n 1, 1) := by decide +kernel
theorem dX4_init_47 : decode cX4_init 47 = .ok (.invokespecial 18, 3) := by decide +kernel
theorem dX4_init_50 : decode cX4_init 50 = .ok (.putfield 28, 3) := by decide +kernel
theorem dX4_init_53 : decode cX4_init 53 = .ok (.return_, 1) := by decide +kernel
theorem dX4_call_0 : decode cX4_call 0 = .ok (.iload_n 1, 1) := by decide +kernel
theorem dX4_call_1 : decode cX4_call 1 = .ok (.iconst 0, 1) := by decide +kernel
theorem dX4_call_2 : decode cX4_call 2 = .ok (.iconst 5, 1) := by decide +kernel
theorem dX4_call_3 : decode cX4_call 3 = .ok (.invokestatic 31, 3) := by decide +kernel
theorem dX4_call_6 : decode cX4_call 6 = .ok (.ifCond .eq 23, 3) := by decide +kernel
theorem dX4_call_9 : decode cX4_call 9 = .ok (.iload_n 2, 1) := by decide +kernel
theorem dX4_call_10 : decode cX4_call 10 = .ok (.iconst 0, 1) := by decide +kernel
theorem dX4_call_11 : decode cX4_call 11 = .ok (.bipush 7, 2) := by decide +kernel
theorem dX4_call_13 : decode cX4_call 13 = .ok (.invokestatic 31, 3) := by decide +kernel
theorem dX4_call_16 : decode cX4_call 16 = .ok (.ifCond .eq 13, 3) := by decide +kernel
theorem dX4_call_19 : decode cX4_call 19 = .ok (.iload_n 3, 1) := by decide +kernel
theorem dX4_call_20 : decode cX4_call 20 = .ok (.iconst 0, 1) := by decide +kernel
theorem dX4_call_21 : decode cX4_call 21 = .ok (.bipush 7, 2) := by decide +kernel
theorem dX4_call_23 : decode cX4_call 23 = .ok (.invokestatic 31, 3) := by decide +kernel
theorem dX4_call_26 : decode cX4_call 26 = .ok (.ifCond .ne 6, 3) := by decide +kernel
theorem dX4_call_29 : decode cX4_call 29 = .ok (.bipush (-2), 2) := by decide +kernel
theorem dX4_call_31 : decode cX4_call 31 = .ok (.ireturn, 1) := by decide +kernel
theorem dX4_call_32 : decode cX4_call 32 = .ok (.iload 4, 2) := by decide +kernel
theorem dX4_call_34 : decode cX4_call 34 = .ok (.ldc 35, 2) := by decide +kernel
theorem dX4_call_36 : decode cX4_call 36 = .ok (.ldc 36, 2) := by decide +kernel
theorem dX4_call_38 : decode cX4_call 38 = .ok (.invokestatic 31, 3) := by decide +kernel
theorem dX4_call_41 : decode cX4_call 41 = .ok (.ifCond .eq 14, 3) := by decide +kernel
theorem dX4_call_44 : decode cX4_call 44 = .ok (.iload 5, 2) := by decide +kernel
theorem dX4_call_46 : decode cX4_call 46 = .ok (.iconst 1, 1) := by decide +kernel
theorem dX4_call_47 : decode cX4_call 47 = .ok (.bipush 9, 2) := by decide +kernel
theorem dX4_call_49 : decode cX4_call 49 = .ok (.invokestatic 31, 3) := by decide +kernel
theorem dX4_call_52 : decode cX4_call 52 = .ok (.ifCond .ne 6, 3) := by decide +kernel
theorem dX4_call_55 : decode cX4_call 55 = .ok (.bipush (-2), 2) := by decide +kernel
theorem dX4_call_57 : decode cX4_call 57 = .ok (.ireturn, 1) := by decide +kernel
theorem dX4_call_58 : decode cX4_call 58 = .ok (.aload_n 0, 1) := by decide +kernel
theorem dX4_call_59 : decode cX4_call 59 = .ok (.getfield 10, 3) := by decide +kernel
theorem dX4_call_62 : decode cX4_call 62 = .ok (.iload_n 1, 1) := by decide +kernel
theorem dX4_call_63 : decode cX4_call 63 = .ok (.iload_n 2, 1) := by decide +kernel
theorem dX4_call_64 : decode cX4_call 64 = .ok (.iload_n 3, 1) := by decide +kernel
theorem dX4_call_65 : decode cX4_call 65 = .ok (.iload 4, 2) := by decide +kernel
theorem dX4_call_67 : decode cX4_call 67 = .ok (.iload 5, 2) := by decide +kernel
theorem dX4_call_69 : decode cX4_call 69 = .ok (.invokevirtual 37, 3) := by decide +kernel
theorem dX4_call_72 : decode cX4_call 72 = .ok (.ireturn, 1) := by decide +kernel
theorem dX4_clear_0 : decode cX4_clear 0 = .ok (.aload_n 0, 1) := by decide +kernel
theorem dX4_clear_1 : decode cX4_clear 1 = .ok (.getfield 10, 3) := by decide +kernel
theorem dX4_clear_4 : decode cX4_clear 4 = .ok (.getfield 41, 3) := by decide +kernel
theorem dX4_clear_7 : decode cX4_clear 7 = .ok (.istore_n 1, 1) := by decide +kernel
theorem dX4_clear_8 : decode cX4_clear 8 = .ok (.aload_n 0, 1) := by decide +kernel
theorem dX4_clear_9 : decode cX4_clear 9 = .ok (.getfield 10, 3) := by decide +kernel
theorem dX4_clear_12 : decode cX4_clear 12 = .ok (.iconst 0, 1) := by decide +kernel
theorem dX4_clear_13 : decode cX4_clear 13 = .ok (.putfield 41, 3) := by decide +kernel
theorem dX4_clear_16 : decode cX4_clear 16 = .ok (.aload_n 0, 1) := by decide +kernel
theorem dX4_clear_17 : decode cX4_clear 17 = .ok (.iconst 0, 1) := by decide +kernel
theorem dX4_clear_18 : decode cX4_clear 18 = .ok (.putfield 45, 3) := by decide +kernel
theorem dX4_clear_21 : decode cX4_clear 21 = .ok (.aload_n 0, 1) := by decide +kernel
theorem dX4_clear_22 : decode cX4_clear 22 = .ok (.iconst 0, 1) := by decide +kernel
theorem dX4_clear_23 : decode cX4_clear 23 = .ok (.putfield 49, 3) := by decide +kernel
theorem dX4_clear_26 : decode cX4_clear 26 = .ok (.aload_n 0, 1) := by decide +kernel
theorem dX4_clear_27 : decode cX4_clear 27 = .ok (.iconst 0, 1) := by decide +kernel
theorem dX4_clear_28 : decode cX4_clear 28 = .ok (.putfield 52, 3) := by decide +kernel
theorem dX4_clear_31 : decode cX4_clear 31 = .ok (.iload_n 1, 1) := by decide +kernel
theorem dX4_clear_32 : decode cX4_clear 32 = .ok (.ireturn, 1) := by decide +kernel
theorem dX4_gone_0 : decode cX4_gone 0 = .ok (.iload_n 1, 1) := by decide +kernel
theorem dX4_gone_1 : decode cX4_gone 1 = .ok (.iconst 0, 1) := by decide +kernel
theorem dX4_gone_2 : decode cX4_gone 2 = .ok (.bipush 15, 2) := by decide +kernel
theorem dX4_gone_4 : decode cX4_gone 4 = .ok (.invokestatic 31, 3) := by decide +kernel
theorem dX4_gone_7 : decode cX4_gone 7 = .ok (.ifCond .eq 13, 3) := by decide +kernel
theorem dX4_gone_10 : decode cX4_gone 10 = .ok (.iload_n 2, 1) := by decide +kernel
theorem dX4_gone_11 : decode cX4_gone 11 = .ok (.iconst 0, 1) := by decide +kernel
theorem dX4_gone_12 : decode cX4_gone 12 = .ok (.bipush 99, 2) := by decide +kernel
theorem dX4_gone_14 : decode cX4_gone 14 = .ok (.invokestatic 31, 3) := by decide +kernel
theorem dX4_gone_17 : decode cX4_gone 17 = .ok (.ifCond .ne 6, 3) := by decide +kernel
theorem dX4_gone_20 : decode cX4_gone 20 = .ok (.bipush (-2), 2) := by decide +kernel
theorem dX4_gone_22 : decode cX4_gone 22 = .ok (.ireturn, 1) := by decide +kernel
theorem dX4_gone_23 : decode cX4_gone 23 = .ok (.aload_n 0, 1) := by decide +kernel
theorem dX4_gone_24 : decode cX4_gone 24 = .ok (.getfield 10, 3) := by decide +kernel
theorem dX4_gone_27 : decode cX4_gone 27 = .ok (.getfield 55, 3) := by decide +kernel
theorem dX4_gone_30 : decode cX4_gone 30 = .ok (.iload_n 1, 1) := by decide +kernel
theorem dX4_gone_31 : decode cX4_gone 31 = .ok (.iaload, 1) := by decide +kernel
theorem dX4_gone_32 : decode cX4_gone 32 = .ok (.istore_n 3, 1) := by decide +kernel
theorem dX4_gone_33 : decode cX4_gone 33 = .ok (.aload_n 0, 1) := by decide +kernel
theorem dX4_gone_34 : decode cX4_gone 34 = .ok (.getfield 10, 3) := by decide +kernel
theorem dX4_gone_37 : decode cX4_gone 37 = .ok (.getfield 55, 3) := by decide +kernel
theorem dX4_gone_40 : decode cX4_gone 40 = .ok (.iload_n 1, 1) := by decide +kernel
theorem dX4_gone_41 : decode cX4_gone 41 = .ok (.iload_n 2, 1) := by decide +kernel
theorem dX4_gone_42 : decode cX4_gone 42 = .ok (.iastore, 1) := by decide +kernel
theorem dX4_gone_43 : decode cX4_gone 43 = .ok (.iload_n 3, 1) := by decide +kernel
theorem dX4_gone_44 : decode cX4_gone 44 = .ok (.ireturn, 1) := by decide +kernel
theorem dX4_run_0 : decode cX4_run 0 = .ok (.iload_n 1, 1) := by decide +kernel
theorem dX4_run_1 : decode cX4_run 1 = .ok (.iconst 0, 1) := by decide +kernel
theorem dX4_run_2 : decode cX4_run 2 = .ok (.aload_n 0, 1) := by decide +kernel
theorem dX4_run_3 : decode cX4_run 3 = .ok (.getfield 10, 3) := by decide +kernel
theorem dX4_run_6 : decode cX4_run 6 = .ok (.getfield 41, 3) := by decide +kernel
theorem dX4_run_9 : decode cX4_run 9 = .ok (.invokestatic 31, 3) := by decide +kernel
theorem dX4_run_12 : decode cX4_run 12 = .ok (.ifCond .eq 21, 3) := by decide +kernel
theorem dX4_run_15 : decode cX4_run 15 = .ok (.iload_n 2, 1) := by decide +kernel
theorem dX4_run_16 : decode cX4_run 16 = .ok (.invokestatic 59, 3) := by decide +kernel
theorem dX4_run_19 : decode cX4_run 19 = .ok (.ifCond .eq 14, 3) := by decide +kernel
theorem dX4_run_22 : decode cX4_run 22 = .ok (.iload 4, 2) := by decide +kernel
theorem dX4_run_24 : decode cX4_run 24 = .ok (.iconst 1, 1) := by decide +kernel
theorem dX4_run_25 : decode cX4_run 25 = .ok (.bipush 40, 2) := by decide +kernel
theorem dX4_run_27 : decode cX4_run 27 = .ok (.invokestatic 31, 3) := by decide +kernel
theorem dX4_run_30 : decode cX4_run 30 = .ok (.ifCond .ne 6, 3) := by decide +kernel
theorem dX4_run_33 : decode cX4_run 33 = .ok (.bipush (-2), 2) := by decide +kernel
theorem dX4_run_35 : decode cX4_run 35 = .ok (.ireturn, 1) := by decide +kernel
theorem dX4_run_36 : decode cX4_run 36 = .ok (.aload_n 0, 1) := by decide +kernel
theorem dX4_run_37 : decode cX4_run 37 = .ok (.getfield 25, 3) := by decide +kernel
theorem dX4_run_40 : decode cX4_run 40 = .ok (.iload_n 1, 1) := by decide +kernel
theorem dX4_run_41 : decode cX4_run 41 = .ok (.iload_n 2, 1) := by decide +kernel
theorem dX4_run_42 : decode cX4_run 42 = .ok (.iload_n 3, 1) := by decide +kernel
theorem dX4_run_43 : decode cX4_run 43 = .ok (.iload 4, 2) := by decide +kernel
theorem dX4_run_45 : decode cX4_run 45 = .ok (.invokevirtual 63, 3) := by decide +kernel
theorem dX4_run_48 : decode cX4_run 48 = .ok (.ifCond .ne 16, 3) := by decide +kernel
theorem dX4_run_51 : decode cX4_run 51 = .ok (.aload_n 0, 1) := by decide +kernel
theorem dX4_run_52 : decode cX4_run 52 = .ok (.dup, 1) := by decide +kernel
theorem dX4_run_53 : decode cX4_run 53 = .ok (.getfield 52, 3) := by decide +kernel
theorem dX4_run_56 : decode cX4_run 56 = .ok (.iconst 1, 1) := by decide +kernel
theorem dX4_run_57 : decode cX4_run 57 = .ok (.iadd, 1) := by decide +kernel
theorem dX4_run_58 : decode cX4_run 58 = .ok (.putfield 52, 3) := by decide +kernel
theorem dX4_run_61 : decode cX4_run 61 = .ok (.bipush (-5), 2) := by decide +kernel
theorem dX4_run_63 : decode cX4_run 63 = .ok (.ireturn, 1) := by decide +kernel
theorem dX4_run_64 : decode cX4_run 64 = .ok (.aload_n 0, 1) := by decide +kernel
theorem dX4_run_65 : decode cX4_run 65 = .ok (.getfield 25, 3) := by decide +kernel
theorem dX4_run_68 : decode cX4_run 68 = .ok (.astore 5, 2) := by decide +kernel
theorem dX4_run_70 : decode cX4_run 70 = .ok (.aload_n 0, 1) := by decide +kernel
theorem dX4_run_71 : decode cX4_run 71 = .ok (.aload_n 0, 1) := by decide +kernel
theorem dX4_run_72 : decode cX4_run 72 = .ok (.getfield 21, 3) := by decide +kernel
theorem dX4_run_75 : decode cX4_run 75 = .ok (.putfield 25, 3) := by decide +kernel
theorem dX4_run_78 : decode cX4_run 78 = .ok (.aload_n 0, 1) := by decide +kernel
theorem dX4_run_79 : decode cX4_run 79 = .ok (.aload 5, 2) := by decide +kernel
theorem dX4_run_81 : decode cX4_run 81 = .ok (.putfield 21, 3) := by decide +kernel
theorem dX4_run_84 : decode cX4_run 84 = .ok (.aload_n 0, 1) := by decide +kernel
theorem dX4_run_85 : decode cX4_run 85 = .ok (.iconst 1, 1) := by decide +kernel
theorem dX4_run_86 : decode cX4_run 86 = .ok (.putfield 45, 3) := by decide +kernel
theorem dX4_run_89 : decode cX4_run 89 = .ok (.aload_n 0, 1) := by decide +kernel
theorem dX4_run_90 : decode cX4_run 90 = .ok (.dup, 1) := by decide +kernel
theorem dX4_run_91 : decode cX4_run 91 = .ok (.getfield 49, 3) := by decide +kernel
theorem dX4_run_94 : decode cX4_run 94 = .ok (.iconst 1, 1) := by decide +kernel
theorem dX4_run_95 : decode cX4_run 95 = .ok (.iadd, 1) := by decide +kernel
theorem dX4_run_96 : decode cX4_run 96 = .ok (.putfield 49, 3) := by decide +kernel
theorem dX4_run_99 : decode cX4_run 99 = .ok (.aload 5, 2) := by decide +kernel
theorem dX4_run_101 : decode cX4_run 101 = .ok (.getfield 67, 3) := by decide +kernel
theorem dX4_run_104 : decode cX4_run 104 = .ok (.ireturn, 1) := by decide +kernel
theorem dX4_amount_0 : decode cX4_amount 0 = .ok (.aload_n 0, 1) := by decide +kernel
theorem dX4_amount_1 : decode cX4_amount 1 = .ok (.getfield 45, 3) := by decide +kernel
theorem dX4_amount_4 : decode cX4_amount 4 = .ok (.ifCond .eq 13, 3) := by decide +kernel
theorem dX4_amount_7 : decode cX4_amount 7 = .ok (.iload_n 1, 1) := by decide +kernel
theorem dX4_amount_8 : decode cX4_amount 8 = .ok (.iconst 0, 1) := by decide +kernel
theorem dX4_amount_9 : decode cX4_amount 9 = .ok (.bipush 7, 2) := by decide +kernel
theorem dX4_amount_11 : decode cX4_amount 11 = .ok (.invokestatic 31, 3) := by decide +kernel
theorem dX4_amount_14 : decode cX4_amount 14 = .ok (.ifCond .ne 5, 3) := by decide +kernel
theorem dX4_amount_17 : decode cX4_amount 17 = .ok (.lconst 0, 1) := by decide +kernel
theorem dX4_amount_18 : decode cX4_amount 18 = .ok (.lreturn, 1) := by decide +kernel
theorem dX4_amount_19 : decode cX4_amount 19 = .ok (.aload_n 0, 1) := by decide +kernel
theorem dX4_amount_20 : decode cX4_amount 20 = .ok (.getfield 21, 3) := by decide +kernel
theorem dX4_amount_23 : decode cX4_amount 23 = .ok (.getfield 70, 3) := by decide +kernel
theorem dX4_amount_26 : decode cX4_amount 26 = .ok (.aload_n 0, 1) := by decide +kernel
theorem dX4_amount_27 : decode cX4_amount 27 = .ok (.getfield 21, 3) := by decide +kernel
theorem dX4_amount_30 : decode cX4_amount 30 = .ok (.getfield 74, 3) := by decide +kernel
theorem dX4_amount_33 : decode cX4_amount 33 = .ok (.iload_n 1, 1) := by decide +kernel
theorem dX4_amount_34 : decode cX4_amount 34 = .ok (.invokevirtual 77, 3) := by decide +kernel
theorem dX4_amount_37 : decode cX4_amount 37 = .ok (.lreturn, 1) := by decide +kernel
theorem dX4_behind_0 : decode cX4_behind 0 = .ok (.aload_n 0, 1) := by decide +kernel
theorem dX4_behind_1 : decode cX4_behind 1 = .ok (.getfield 45, 3) := by decide +kernel
theorem dX4_behind_4 : decode cX4_behind 4 = .ok (.ifCond .eq 13, 3) := by decide +kernel
theorem dX4_behind_7 : decode cX4_behind 7 = .ok (.aload_n 0, 1) := by decide +kernel
theorem dX4_behind_8 : decode cX4_behind 8 = .ok (.getfield 21, 3) := by decide +kernel
theorem dX4_behind_11 : decode cX4_behind 11 = .ok (.getfield 74, 3) := by decide +kernel
theorem dX4_behind_14 : decode cX4_behind 14 = .ok (.goto 5, 3) := by decide +kernel
theorem dX4_behind_17 : decode cX4_behind 17 = .ok (.bipush 40, 2) := by decide +kernel
theorem dX4_behind_19 : decode cX4_behind 19 = .ok (.istore_n 3, 1) := by decide +kernel
theorem dX4_behind_20 : decode cX4_behind 20 = .ok (.iload_n 1, 1) := by decide +kernel
theorem dX4_behind_21 : decode cX4_behind 21 = .ok (.iconst 0, 1) := by decide +kernel
theorem dX4_behind_22 : decode cX4_behind 22 = .ok (.iload_n 3, 1) := by decide +kernel
theorem dX4_behind_23 : decode cX4_behind 23 = .ok (.invokestatic 31, 3) := by decide +kernel
theorem dX4_behind_26 : decode cX4_behind 26 = .ok (.ifCond .eq 13, 3) := by decide +kernel
theorem dX4_behind_29 : decode cX4_behind 29 = .ok (.iload_n 2, 1) := by decide +kernel
theorem dX4_behind_30 : decode cX4_behind 30 = .ok (.iconst 0, 1) := by decide +kernel
theorem dX4_behind_31 : decode cX4_behind 31 = .ok (.bipush 7, 2) := by decide +kernel
theorem dX4_behind_33 : decode cX4_behind 33 = .ok (.invokestatic 31, 3) := by decide +kernel
theorem dX4_behind_36 : decode cX4_behind 36 = .ok (.ifCond .ne 7, 3) := by decide +kernel
theorem dX4_behind_39 : decode cX4_behind 39 = .ok (.ldc2_w 83, 3) := by decide +kernel
theorem dX4_behind_42 : decode cX4_behind 42 = .ok (.lreturn, 1) := by decide +kernel
theorem dX4_behind_43 : decode cX4_behind 43 = .ok (.aload_n 0, 1) := by decide +kernel
theorem dX4_behind_44 : decode cX4_behind 44 = .ok (.getfield 45, 3) := by decide +kernel
theorem dX4_behind_47 : decode cX4_behind 47 = .ok (.ifCond .ne 7, 3) := by decide +kernel
theorem dX4_behind_50 : decode cX4_behind 50 = .ok (.ldc2_w 85, 3) := by decide +kernel
theorem dX4_behind_53 : decode cX4_behind 53 = .ok (.lreturn, 1) := by decide +kernel
theorem dX4_behind_54 : decode cX4_behind 54 = .ok (.aload_n 0, 1) := by decide +kernel
theorem dX4_behind_55 : decode cX4_behind 55 = .ok (.getfield 21, 3) := by decide +kernel
theorem dX4_behind_58 : decode cX4_behind 58 = .ok (.getfield 70, 3) := by decide +kernel
theorem dX4_behind_61 : decode cX4_behind 61 = .ok (.iload_n 1, 1) := by decide +kernel
theorem dX4_behind_62 : decode cX4_behind 62 = .ok (.iload_n 2, 1) := by decide +kernel
theorem dX4_behind_63 : decode cX4_behind 63 = .ok (.invokevirtual 77, 3) := by decide +kernel
theorem dX4_behind_66 : decode cX4_behind 66 = .ok (.lreturn, 1) := by decide +kernel
theorem dX4_outcome_0 : decode cX4_outcome 0 = .ok (.aload_n 0, 1) := by decide +kernel
theorem dX4_outcome_1 : decode cX4_outcome 1 = .ok (.iload_n 1, 1) := by decide +kernel
theorem dX4_outcome_2 : decode cX4_outcome 2 = .ok (.invokevirtual 87, 3) := by decide +kernel
theorem dX4_outcome_5 : decode cX4_outcome 5 = .ok (.ifCond .ne 6, 3) := by decide +kernel
theorem dX4_outcome_8 : decode cX4_outcome 8 = .ok (.bipush (-2), 2) := by decide +kernel
theorem dX4_outcome_10 : decode cX4_outcome 10 = .ok (.ireturn, 1) := by decide +kernel
theorem dX4_outcome_11 : decode cX4_outcome 11 = .ok (.aload_n 0, 1) := by decide +kernel
theorem dX4_outcome_12 : decode cX4_outcome 12 = .ok (.iload_n 1, 1) := by decide +kernel
theorem dX4_outcome_13 : decode cX4_outcome 13 = .ok (.invokevirtual 90, 3) := by decide +kernel
theorem dX4_outcome_16 : decode cX4_outcome 16 = .ok (.ifCond .eq 18, 3) := by decide +kernel
theorem dX4_outcome_19 : decode cX4_outcome 19 = .ok (.aload_n 0, 1) := by decide +kernel
theorem dX4_outcome_20 : decode cX4_outcome 20 = .ok (.getfield 21, 3) := by decide +kernel
theorem dX4_outcome_23 : decode cX4_outcome 23 = .ok (.getfield 70, 3) := by decide +kernel
theorem dX4_outcome_26 : decode cX4_outcome 26 = .ok (.getfield 93, 3) := by decide +kernel
theorem dX4_outcome_29 : decode cX4_outcome 29 = .ok (.iload_n 1, 1) := by decide +kernel
theorem dX4_outcome_30 : decode cX4_outcome 30 = .ok (.iaload, 1) := by decide +kernel
theorem dX4_outcome_31 : decode cX4_outcome 31 = .ok (.goto 4, 3) := by decide +kernel
theorem dX4_outcome_34 : decode cX4_outcome 34 = .ok (.iconst 0, 1) := by decide +kernel
theorem dX4_outcome_35 : decode cX4_outcome 35 = .ok (.ireturn, 1) := by decide +kernel
theorem dX4_of_0 : decode cX4_of 0 = .ok (.aload_n 0, 1) := by decide +kernel
theorem dX4_of_1 : decode cX4_of 1 = .ok (.iload_n 1, 1) := by decide +kernel
theorem dX4_of_2 : decode cX4_of 2 = .ok (.invokevirtual 87, 3) := by decide +kernel
theorem dX4_of_5 : decode cX4_of 5 = .ok (.ifCond .eq 12, 3) := by decide +kernel
theorem dX4_of_8 : decode cX4_of 8 = .ok (.iload_n 2, 1) := by decide +kernel
theorem dX4_of_9 : decode cX4_of 9 = .ok (.iconst 0, 1) := by decide +kernel
theorem dX4_of_10 : decode cX4_of 10 = .ok (.iconst 3, 1) := by decide +kernel
theorem dX4_of_11 : decode cX4_of 11 = .ok (.invokestatic 31, 3) := by decide +kernel
theorem dX4_of_14 : decode cX4_of 14 = .ok (.ifCond .ne 6, 3) := by decide +kernel
theorem dX4_of_17 : decode cX4_of 17 = .ok (.bipush (-2), 2) := by decide +kernel
theorem dX4_of_19 : decode cX4_of 19 = .ok (.ireturn, 1) := by decide +kernel
theorem dX4_of_20 : decode cX4_of 20 = .ok (.aload_n 0, 1) := by decide +kernel
theorem dX4_of_21 : decode cX4_of 21 = .ok (.iload_n 1, 1) := by decide +kernel
theorem dX4_of_22 : decode cX4_of 22 = .ok (.invokevirtual 90, 3) := by decide +kernel
theorem dX4_of_25 : decode cX4_of 25 = .ok (.ifCond .eq 18, 3) := by decide +kernel
theorem dX4_of_28 : decode cX4_of 28 = .ok (.aload_n 0, 1) := by decide +kernel
theorem dX4_of_29 : decode cX4_of 29 = .ok (.getfield 21, 3) := by decide +kernel
theorem dX4_of_32 : decode cX4_of 32 = .ok (.getfield 70, 3) := by decide +kernel
theorem dX4_of_35 : decode cX4_of 35 = .ok (.iload_n 1, 1) := by decide +kernel
theorem dX4_of_36 : decode cX4_of 36 = .ok (.iload_n 2, 1) := by decide +kernel
theorem dX4_of_37 : decode cX4_of 37 = .ok (.invokevirtual 96, 3) := by decide +kernel
theorem dX4_of_40 : decode cX4_of 40 = .ok (.goto 4, 3) := by decide +kernel
theorem dX4_of_43 : decode cX4_of 43 = .ok (.iconst (-1), 1) := by decide +kernel
theorem dX4_of_44 : decode cX4_of 44 = .ok (.ireturn, 1) := by decide +kernel
theorem dX4_told_0 : decode cX4_told 0 = .ok (.iload_n 1, 1) := by decide +kernel
theorem dX4_told_1 : decode cX4_told 1 = .ok (.iconst 0, 1) := by decide +kernel
theorem dX4_told_2 : decode cX4_told 2 = .ok (.bipush 7, 2) := by decide +kernel
theorem dX4_told_4 : decode cX4_told 4 = .ok (.invokestatic 31, 3) := by decide +kernel
theorem dX4_told_7 : decode cX4_told 7 = .ok (.ifCond .ne 6, 3) := by decide +kernel
theorem dX4_told_10 : decode cX4_told 10 = .ok (.bipush (-2), 2) := by decide +kernel
theorem dX4_told_12 : decode cX4_told 12 = .ok (.ireturn, 1) := by decide +kernel
theorem dX4_told_13 : decode cX4_told 13 = .ok (.aload_n 0, 1) := by decide +kernel
theorem dX4_told_14 : decode cX4_told 14 = .ok (.getfield 45, 3) := by decide +kernel
theorem dX4_told_17 : decode cX4_told 17 = .ok (.ifCond .eq 14, 3) := by decide +kernel
theorem dX4_told_20 : decode cX4_told 20 = .ok (.aload_n 0, 1) := by decide +kernel
theorem dX4_told_21 : decode cX4_told 21 = .ok (.getfield 21, 3) := by decide +kernel
theorem dX4_told_24 : decode cX4_told 24 = .ok (.iload_n 1, 1) := by decide +kernel
theorem dX4_told_25 : decode cX4_told 25 = .ok (.invokevirtual 100, 3) := by decide +kernel
theorem dX4_told_28 : decode cX4_told 28 = .ok (.goto 5, 3) := by decide +kernel
theorem dX4_told_31 : decode cX4_told 31 = .ok (.bipush (-3), 2) := by decide +kernel
theorem dX4_told_33 : decode cX4_told 33 = .ok (.ireturn, 1) := by decide +kernel
theorem dX4_same_0 : decode cX4_same 0 = .ok (.iload_n 1, 1) := by decide +kernel
theorem dX4_same_1 : decode cX4_same 1 = .ok (.invokestatic 59, 3) := by decide +kernel
theorem dX4_same_4 : decode cX4_same 4 = .ok (.ifCond .eq 10, 3) := by decide +kernel
theorem dX4_same_7 : decode cX4_same 7 = .ok (.iload_n 3, 1) := by decide +kernel
theorem dX4_same_8 : decode cX4_same 8 = .ok (.invokestatic 59, 3) := by decide +kernel
theorem dX4_same_11 : decode cX4_same 11 = .ok (.ifCond .ne 5, 3) := by decide +kernel
theorem dX4_same_14 : decode cX4_same 14 = .ok (.iconst 0, 1) := by decide +kernel
theorem dX4_same_15 : decode cX4_same 15 = .ok (.ireturn, 1) := by decide +kernel
theorem dX4_same_16 : decode cX4_same 16 = .ok (.aload_n 0, 1) := by decide +kernel
theorem dX4_same_17 : decode cX4_same 17 = .ok (.getfield 25, 3) := by decide +kernel
theorem dX4_same_20 : decode cX4_same 20 = .ok (.aload_n 0, 1) := by decide +kernel
theorem dX4_same_21 : decode cX4_same 21 = .ok (.getfield 10, 3) := by decide +kernel
theorem dX4_same_24 : decode cX4_same 24 = .ok (.getfield 41, 3) := by decide +kernel
theorem dX4_same_27 : decode cX4_same 27 = .ok (.iload_n 1, 1) := by decide +kernel
theorem dX4_same_28 : decode cX4_same 28 = .ok (.iload_n 2, 1) := by decide +kernel
theorem dX4_same_29 : decode cX4_same 29 = .ok (.bipush 40, 2) := by decide +kernel
theorem dX4_same_31 : decode cX4_same 31 = .ok (.invokevirtual 63, 3) := by decide +kernel
theorem dX4_same_34 : decode cX4_same 34 = .ok (.ifCond .eq 43, 3) := by decide +kernel
theorem dX4_same_37 : decode cX4_same 37 = .ok (.aload_n 0, 1) := by decide +kernel
theorem dX4_same_38 : decode cX4_same 38 = .ok (.getfield 28, 3) := by decide +kernel
theorem dX4_same_41 : decode cX4_same 41 = .ok (.aload_n 0, 1) := by decide +kernel
theorem dX4_same_42 : decode cX4_same 42 = .ok (.getfield 10, 3) := by decide +kernel
theorem dX4_same_45 : decode cX4_same 45 = .ok (.getfield 41, 3) := by decide +kernel
theorem dX4_same_48 : decode cX4_same 48 = .ok (.iload_n 3, 1) := by decide +kernel
theorem dX4_same_49 : decode cX4_same 49 = .ok (.iload 4, 2) := by decide +kernel
theorem dX4_same_51 : decode cX4_same 51 = .ok (.bipush 40, 2) := by decide +kernel
theorem dX4_same_53 : decode cX4_same 53 = .ok (.invokevirtual 63, 3) := by decide +kernel
theorem dX4_same_56 : decode cX4_same 56 = .ok (.ifCond .eq 21, 3) := by decide +kernel
theorem dX4_same_59 : decode cX4_same 59 = .ok (.aload_n 0, 1) := by decide +kernel
theorem dX4_same_60 : decode cX4_same 60 = .ok (.getfield 25, 3) := by decide +kernel
theorem dX4_same_63 : decode cX4_same 63 = .ok (.aload_n 0, 1) := by decide +kernel
theorem dX4_same_64 : decode cX4_same 64 = .ok (.getfield 28, 3) := by decide +kernel
theorem dX4_same_67 : decode cX4_same 67 = .ok (.invokevirtual 104, 3) := by decide +kernel
theorem dX4_same_70 : decode cX4_same 70 = .ok (.ifCond .eq 7, 3) := by decide +kernel
theorem dX4_same_73 : decode cX4_same 73 = .ok (.iconst 1, 1) := by decide +kernel
theorem dX4_same_74 : decode cX4_same 74 = .ok (.goto 4, 3) := by decide +kernel
theorem dX4_same_77 : decode cX4_same 77 = .ok (.iconst 0, 1) := by decide +kernel
theorem dX4_same_78 : decode cX4_same 78 = .ok (.ireturn, 1) := by decide +kernel
theorem dX4_count_0 : decode cX4_count 0 = .ok (.iload_n 1, 1) := by decide +kernel
theorem dX4_count_1 : decode cX4_count 1 = .ok (.tableswitch 45 0 2 #[27, 35, 40], 27) := by decide +kernel
theorem dX4_count_28 : decode cX4_count 28 = .ok (.aload_n 0, 1) := by decide +kernel
theorem dX4_count_29 : decode cX4_count 29 = .ok (.getfield 10, 3) := by decide +kernel
theorem dX4_count_32 : decode cX4_count 32 = .ok (.getfield 41, 3) := by decide +kernel
theorem dX4_count_35 : decode cX4_count 35 = .ok (.ireturn, 1) := by decide +kernel
theorem dX4_count_36 : decode cX4_count 36 = .ok (.aload_n 0, 1) := by decide +kernel
theorem dX4_count_37 : decode cX4_count 37 = .ok (.getfield 49, 3) := by decide +kernel
theorem dX4_count_40 : decode cX4_count 40 = .ok (.ireturn, 1) := by decide +kernel
theorem dX4_count_41 : decode cX4_count 41 = .ok (.aload_n 0, 1) := by decide +kernel
theorem dX4_count_42 : decode cX4_count 42 = .ok (.getfield 52, 3) := by decide +kernel
theorem dX4_count_45 : decode cX4_count 45 = .ok (.ireturn, 1) := by decide +kernel
theorem dX4_count_46 : decode cX4_count 46 = .ok (.bipush (-2), 2) := by decide +kernel
theorem dX4_count_48 : decode cX4_count 48 = .ok (.ireturn, 1) := by decide +kernel
theorem dX4_isCall_0 : decode cX4_isCall 0 = .ok (.iload_n 1, 1) := by decide +kernel
theorem dX4_isCall_1 : decode cX4_isCall 1 = .ok (.iconst 0, 1) := by decide +kernel
theorem dX4_isCall_2 : decode cX4_isCall 2 = .ok (.aload_n 0, 1) := by decide +kernel
theorem dX4_isCall_3 : decode cX4_isCall 3 = .ok (.getfield 10, 3) := by decide +kernel
theorem dX4_isCall_6 : decode cX4_isCall 6 = .ok (.getfield 41, 3) := by decide +kernel
theorem dX4_isCall_9 : decode cX4_isCall 9 = .ok (.iconst 1, 1) := by decide +kernel
theorem dX4_isCall_10 : decode cX4_isCall 10 = .ok (.isub, 1) := by decide +kernel
theorem dX4_isCall_11 : decode cX4_isCall 11 = .ok (.invokestatic 31, 3) := by decide +kernel
theorem dX4_isCall_14 : decode cX4_isCall 14 = .ok (.ireturn, 1) := by decide +kernel
theorem dX4_wasInLatest_0 : decode cX4_wasInLatest 0 = .ok (.aload_n 0, 1) := by decide +kernel
theorem dX4_wasInLatest_1 : decode cX4_wasInLatest 1 = .ok (.getfield 45, 3) := by decide +kernel
theorem dX4_wasInLatest_4 : decode cX4_wasInLatest 4 = .ok (.ifCond .eq 24, 3) := by decide +kernel
theorem dX4_wasInLatest_7 : decode cX4_wasInLatest 7 = .ok (.iload_n 1, 1) := by decide +kernel
theorem dX4_wasInLatest_8 : decode cX4_wasInLatest 8 = .ok (.iconst 0, 1) := by decide +kernel
theorem dX4_wasInLatest_9 : decode cX4_wasInLatest 9 = .ok (.aload_n 0, 1) := by decide +kernel
theorem dX4_wasInLatest_10 : decode cX4_wasInLatest 10 = .ok (.getfield 21, 3) := by decide +kernel
theorem dX4_wasInLatest_13 : decode cX4_wasInLatest 13 = .ok (.getfield 74, 3) := by decide +kernel
theorem dX4_wasInLatest_16 : decode cX4_wasInLatest 16 = .ok (.iconst 1, 1) := by decide +kernel
theorem dX4_wasInLatest_17 : decode cX4_wasInLatest 17 = .ok (.isub, 1) := by decide +kernel
theorem dX4_wasInLatest_18 : decode cX4_wasInLatest 18 = .ok (.invokestatic 31, 3) := by decide +kernel
theorem dX4_wasInLatest_21 : decode cX4_wasInLatest 21 = .ok (.ifCond .eq 7, 3) := by decide +kernel
theorem dX4_wasInLatest_24 : decode cX4_wasInLatest 24 = .ok (.iconst 1, 1) := by decide +kernel
theorem dX4_wasInLatest_25 : decode cX4_wasInLatest 25 = .ok (.goto 4, 3) := by decide +kernel
theorem dX4_wasInLatest_28 : decode cX4_wasInLatest 28 = .ok (.iconst 0, 1) := by decide +kernel
theorem dX4_wasInLatest_29 : decode cX4_wasInLatest 29 = .ok (.ireturn, 1) := by decide +kernel
theorem dX4_isCrew_0 : decode cX4_isCrew 0 = .ok (.iload_n 0, 1) := by decide +kernel
theorem dX4_isCrew_1 : decode cX4_isCrew 1 = .ok (.iconst 1, 1) := by decide +kernel
theorem dX4_isCrew_2 : decode cX4_isCrew 2 = .ok (.bipush 16, 2) := by decide +kernel
theorem dX4_isCrew_4 : decode cX4_isCrew 4 = .ok (.invokestatic 31, 3) := by decide +kernel
theorem dX4_isCrew_7 : decode cX4_isCrew 7 = .ok (.ireturn, 1) := by decide +kernel
theorem dX4_within_0 : decode cX4_within 0 = .ok (.iload_n 0, 1) := by decide +kernel
theorem dX4_within_1 : decode cX4_within 1 = .ok (.iload_n 1, 1) := by decide +kernel
theorem dX4_within_2 : decode cX4_within 2 = .ok (.if_icmp .lt 12, 3) := by decide +kernel
theorem dX4_within_5 : decode cX4_within 5 = .ok (.iload_n 0, 1) := by decide +kernel
theorem dX4_within_6 : decode cX4_within 6 = .ok (.iload_n 2, 1) := by decide +kernel
theorem dX4_within_7 : decode cX4_within 7 = .ok (.if_icmp .gt 7, 3) := by decide +kernel
theorem dX4_within_10 : decode cX4_within 10 = .ok (.iconst 1, 1) := by decide +kernel
theorem dX4_within_11 : decode cX4_within 11 = .ok (.goto 4, 3) := by decide +kernel
theorem dX4_within_14 : decode cX4_within 14 = .ok (.iconst 0, 1) := by decide +kernel
theorem dX4_within_15 : decode cX4_within 15 = .ok (.ireturn, 1) := by decide +kernel
end
section
theorem dX5_init_0 : decode cX5_init 0 = .ok (.aload_n 0, 1) := by decide +kernel
theorem dX5_init_1 : decode cX5_init 1 = .ok (.invokespecial 1, 3) := by decide +kernel
theorem dX5_init_4 : decode cX5_init 4 = .ok (.aload_n 0, 1) := by decide +kernel
theorem dX5_init_5 : decode cX5_init 5 = .ok (.bipush 40, 2) := by decide +kernel
theorem dX5_init_7 : decode cX5_init 7 = .ok (.newarray .int, 2) := by decide +kernel
theorem dX5_init_9 : decode cX5_init 9 = .ok (.putfield 7, 3) := by decide +kernel
theorem dX5_init_12 : decode cX5_init 12 = .ok (.aload_n 0, 1) := by decide +kernel
theorem dX5_init_13 : decode cX5_init 13 = .ok (.bipush 40, 2) := by decide +kernel
theorem dX5_init_15 : decode cX5_init 15 = .ok (.newarray .int, 2) := by decide +kernel
theorem dX5_init_17 : decode cX5_init 17 = .ok (.putfield 13, 3) := by decide +kernel
theorem dX5_init_20 : decode cX5_init 20 = .ok (.aload_n 0, 1) := by decide +kernel
theorem dX5_init_21 : decode cX5_init 21 = .ok (.bipush 40, 2) := by decide +kernel
theorem dX5_init_23 : decode cX5_init 23 = .ok (.newarray .int, 2) := by decide +kernel
theorem dX5_init_25 : decode cX5_init 25 = .ok (.putfield 16, 3) := by decide +kernel
theorem dX5_init_28 : decode cX5_init 28 = .ok (.aload_n 0, 1) := by decide +kernel
theorem dX5_init_29 : decode cX5_init 29 = .ok (.bipush 40, 2) := by decide +kernel
theorem dX5_init_31 : decode cX5_init 31 = .ok (.newarray .int, 2) := by decide +kernel
theorem dX5_init_33 : decode cX5_init 33 = .ok (.putfield 19, 3) := by decide +kernel
theorem dX5_init_36 : decode cX5_init 36 = .ok (.aload_n 0, 1) := by decide +kernel
theorem dX5_init_37 : decode cX5_init 37 = .ok (.bipush 40, 2) := by decide +kernel
theorem dX5_init_39 : decode cX5_init 39 = .ok (.newarray .int, 2) := by decide +kernel
theorem dX5_init_41 : decode cX5_init 41 = .ok (.putfield 22, 3) := by decide +kernel
theorem dX5_init_44 : decode cX5_init 44 = .ok (.aload_n 0, 1) := by decide +kernel
theorem dX5_init_45 : decode cX5_init 45 = .ok (.bipush 16, 2) := by decide +kernel
theorem dX5_init_47 : decode cX5_init 47 = .ok (.newarray .int, 2) := by decide +kernel
theorem dX5_init_49 : decode cX5_init 49 = .ok (.putfield 25, 3) := by decide +kernel
theorem dX5_init_52 : decode cX5_init 52 = .ok (.aload_n 0, 1) := by decide +kernel
theorem dX5_init_53 : decode cX5_init 53 = .ok (.bipush 8, 2) := by decide +kernel
theorem dX5_init_55 : decode cX5_init 55 = .ok (.newarray .int, 2) := by decide +kernel
theorem dX5_init_57 : decode cX5_init 57 = .ok (.putfield 28, 3) := by decide +kernel
theorem dX5_init_60 : decode cX5_init 60 = .ok (.aload_n 0, 1) := by decide +kernel
theorem dX5_init_61 : decode cX5_init 61 = .ok (.bipush 40, 2) := by decide +kernel
theorem dX5_init_63 : decode cX5_init 63 = .ok (.newarray .int, 2) := by decide +kernel
theorem dX5_init_65 : decode cX5_init 65 = .ok (.putfield 31, 3) := by decide +kernel
theorem dX5_init_68 : decode cX5_init 68 = .ok (.aload_n 0, 1) := by decide +kernel
theorem dX5_init_69 : decode cX5_init 69 = .ok (.bipush 40, 2) := by decide +kernel
theorem dX5_init_71 : decode cX5_init 71 = .ok (.newarray .int, 2) := by decide +kernel
theorem dX5_init_73 : decode cX5_init 73 = .ok (.putfield 34, 3) := by decide +kernel
theorem dX5_init_76 : decode cX5_init 76 = .ok (.aload_n 0, 1) := by decide +kernel
theorem dX5_init_77 : decode cX5_init 77 = .ok (.bipush 40, 2) := by decide +kernel
theorem dX5_init_79 : decode cX5_init 79 = .ok (.newarray .int, 2) := by decide +kernel
theorem dX5_init_81 : decode cX5_init 81 = .ok (.putfield 37, 3) := by decide +kernel
theorem dX5_init_84 : decode cX5_init 84 = .ok (.aload_n 0, 1) := by decide +kernel
theorem dX5_init_85 : decode cX5_init 85 = .ok (.bipush 40, 2) := by decide +kernel
theorem dX5_init_87 : decode cX5_init 87 = .ok (.newarray .int, 2) := by decide +kernel
theorem dX5_init_89 : decode cX5_init 89 = .ok (.putfield 40, 3) := by decide +kernel
theorem dX5_init_92 : decode cX5_init 92 = .ok (.aload_n 0, 1) := by decide +kernel
theorem dX5_init_93 : decode cX5_init 93 = .ok (.bipush 40, 2) := by decide +kernel
theorem dX5_init_95 : decode cX5_init 95 = .ok (.newarray .int, 2) := by decide +kernel
theorem dX5_init_97 : decode cX5_init 97 = .ok (.putfield 43, 3) := by decide +kernel
theorem dX5_init_100 : decode cX5_init 100 = .ok (.aload_n 0, 1) := by decide +kernel
theorem dX5_init_101 : decode cX5_init 101 = .ok (.sipush 328, 3) := by decide +kernel
theorem dX5_init_104 : decode cX5_init 104 = .ok (.newarray .long, 2) := by decide +kernel
theorem dX5_init_106 : decode cX5_init 106 = .ok (.putfield 46, 3) := by decide +kernel
theorem dX5_init_109 : decode cX5_init 109 = .ok (.aload_n 0, 1) := by decide +kernel
theorem dX5_init_110 : decode cX5_init 110 = .ok (.bipush 8, 2) := by decide +kernel
theorem dX5_init_112 : decode cX5_init 112 = .ok (.newarray .int, 2) := by decide +kernel
theorem dX5_init_114 : decode cX5_init 114 = .ok (.putfield 50, 3) := by decide +kernel
theorem dX5_init_117 : decode cX5_init 117 = .ok (.aload_n 0, 1) := by decide +kernel
theorem dX5_init_118 : decode cX5_init 118 = .ok (.bipush 40, 2) := by decide +kernel
theorem dX5_init_120 : decode cX5_init 120 = .ok (.newarray .int, 2) := by decide +kernel
theorem dX5_init_122 : decode cX5_init 122 = .ok (.putfield 53, 3) := by decide +kernel
theorem dX5_init_125 : decode cX5_init 125 = .ok (.aload_n 0, 1) := by decide +kernel
theorem dX5_init_126 : decode cX5_init 126 = .ok (.bipush 40, 2) := by decide +kernel
theorem dX5_init_128 : decode cX5_init 128 = .ok (.newarray .int, 2) := by decide +kernel
theorem dX5_init_130 : decode cX5_init 130 = .ok (.putfield 56, 3) := by decide +kernel
theorem dX5_init_133 : decode cX5_init 133 = .ok (.aload_n 0, 1) := by decide +kernel
theorem dX5_init_134 : decode cX5_init 134 = .ok (.bipush 40, 2) := by decide +kernel
theorem dX5_init_136 : decode cX5_init 136 = .ok (.newarray .int, 2) := by decide +kernel
theorem dX5_init_138 : decode cX5_init 138 = .ok (.putfield 59, 3) := by decide +kernel
theorem dX5_init_141 : decode cX5_init 141 = .ok (.aload_n 0, 1) := by decide +kernel
theorem dX5_init_142 : decode cX5_init 142 = .ok (.bipush 40, 2) := by decide +kernel
theorem dX5_init_144 : decode cX5_init 144 = .ok (.newarray .int, 2) := by decide +kernel
theorem dX5_init_146 : decode cX5_init 146 = .ok (.putfield 62, 3) := by decide +kernel
theorem dX5_init_149 : decode cX5_init 149 = .ok (.aload_n 0, 1) := by decide +kernel
theorem dX5_init_150 : decode cX5_init 150 = .ok (.bipush 40, 2) := by decide +kernel
theorem dX5_init_152 : decode cX5_init 152 = .ok (.newarray .int, 2) := by decide +kernel
theorem dX5_init_154 : decode cX5_init 154 = .ok (.putfield 65, 3) := by decide +kernel
theorem dX5_init_157 : decode cX5_init 157 = .ok (.aload_n 0, 1) := by decide +kernel
theorem dX5_init_158 : decode cX5_init 158 = .ok (.bipush 40, 2) := by decide +kernel
theorem dX5_init_160 : decode cX5_init 160 = .ok (.newarray .int, 2) := by decide +kernel
theorem dX5_init_162 : decode cX5_init 162 = .ok (.putfield 68, 3) := by decide +kernel
theorem dX5_init_165 : decode cX5_init 165 = .ok (.aload_n 0, 1) := by decide +kernel
theorem dX5_init_166 : decode cX5_init 166 = .ok (.bipush 40, 2) := by decide +kernel
theorem dX5_init_168 : decode cX5_init 168 = .ok (.newarray .long, 2) := by decide +kernel
theorem dX5_init_170 : decode cX5_init 170 = .ok (.putfield 71, 3) := by decide +kernel
theorem dX5_init_173 : decode cX5_init 173 = .ok (.aload_n 0, 1) := by decide +kernel
theorem dX5_init_174 : decode cX5_init 174 = .ok (.bipush 40, 2) := by decide +kernel
theorem dX5_init_176 : decode cX5_init 176 = .ok (.newarray .long, 2) := by decide +kernel
theorem dX5_init_178 : decode cX5_init 178 = .ok (.putfield 74, 3) := by decide +kernel
theorem dX5_init_181 : decode cX5_init 181 = .ok (.aload_n 0, 1) := by decide +kernel
theorem dX5_init_182 : decode cX5_init 182 = .ok (.bipush 40, 2) := by decide +kernel
theorem dX5_init_184 : decode cX5_init 184 = .ok (.newarray .boolean, 2) := by decide +kernel
theorem dX5_init_186 : decode cX5_init 186 = .ok (.putfield 77, 3) := by decide +kernel
theorem dX5_init_189 : decode cX5_init 189 = .ok (.aload_n 0, 1) := by decide +kernel
theorem dX5_init_190 : decode cX5_init 190 = .ok (.bipush 40, 2) := by decide +kernel
theorem dX5_init_192 : decode cX5_init 192 = .ok (.newarray .boolean, 2) := by decide +kernel
theorem dX5_init_194 : decode cX5_init 194 = .ok (.putfield 81, 3) := by decide +kernel
theorem dX5_init_197 : decode cX5_init 197 = .ok (.aload_n 0, 1) := by decide +kernel
theorem dX5_init_198 : decode cX5_init 198 = .ok (.bipush 40, 2) := by decide +kernel
theorem dX5_init_200 : decode cX5_init 200 = .ok (.newarray .long, 2) := by decide +kernel
theorem dX5_init_202 : decode cX5_init 202 = .ok (.putfield 84, 3) := by decide +kernel
theorem dX5_init_205 : decode cX5_init 205 = .ok (.aload_n 0, 1) := by decide +kernel
theorem dX5_init_206 : decode cX5_init 206 = .ok (.bipush 40, 2) := by decide +kernel
theorem dX5_init_208 : decode cX5_init 208 = .ok (.newarray .long, 2) := by decide +kernel
theorem dX5_init_210 : decode cX5_init 210 = .ok (.putfield 87, 3) := by decide +kernel
theorem dX5_init_213 : decode cX5_init 213 = .ok (.aload_n 0, 1) := by decide +kernel
theorem dX5_init_214 : decode cX5_init 214 = .ok (.sipush 328, 3) := by decide +kernel
theorem dX5_init_217 : decode cX5_init 217 = .ok (.newarray .long, 2) := by decide +kernel
theorem dX5_init_219 : decode cX5_init 219 = .ok (.putfield 90, 3) := by decide +kernel
theorem dX5_init_222 : decode cX5_init 222 = .ok (.aload_n 0, 1) := by decide +kernel
theorem dX5_init_223 : decode cX5_init 223 = .ok (.bipush 16, 2) := by decide +kernel
theorem dX5_init_225 : decode cX5_init 225 = .ok (.newarray .int, 2) := by decide +kernel
theorem dX5_init_227 : decode cX5_init 227 = .ok (.putfield 93, 3) := by decide +kernel
theorem dX5_init_230 : decode cX5_init 230 = .ok (.aload_n 0, 1) := by decide +kernel
theorem dX5_init_231 : decode cX5_init 231 = .ok (.bipush 16, 2) := by decide +kernel
theorem dX5_init_233 : decode cX5_init 233 = .ok (.newarray .int, 2) := by decide +kernel
theorem dX5_init_235 : decode cX5_init 235 = .ok (.putfield 96, 3) := by decide +kernel
theorem dX5_init_238 : decode cX5_init 238 = .ok (.aload_n 0, 1) := by decide +kernel
theorem dX5_init_239 : decode cX5_init 239 = .ok (.bipush 16, 2) := by decide +kernel
theorem dX5_init_241 : decode cX5_init 241 = .ok (.newarray .int, 2) := by decide +kernel
theorem dX5_init_243 : decode cX5_init 243 = .ok (.putfield 99, 3) := by decide +kernel
theorem dX5_init_246 : decode cX5_init 246 = .ok (.aload_n 0, 1) := by decide +kernel
theorem dX5_init_247 : decode cX5_init 247 = .ok (.bipush 16, 2) := by decide +kernel
theorem dX5_init_249 : decode cX5_init 249 = .ok (.newarray .boolean, 2) := by decide +kernel
theorem dX5_init_251 : decode cX5_init 251 = .ok (.putfield 102, 3) := by decide +kernel
theorem dX5_init_254 : decode cX5_init 254 = .ok (.aload_n 0, 1) := by decide +kernel
theorem dX5_init_255 : decode cX5_init 255 = .ok (.bipush 8, 2) := by decide +kernel
theorem dX5_init_257 : decode cX5_init 257 = .ok (.newarray .long, 2) := by decide +kernel
theorem dX5_init_259 : decode cX5_init 259 = .ok (.putfield 105, 3) := by decide +kernel
theorem dX5_init_262 : decode cX5_init 262 = .ok (.aload_n 0, 1) := by decide +kernel
theorem dX5_init_263 : decode cX5_init 263 = .ok (.bipush 40, 2) := by decide +kernel
theorem dX5_init_265 : decode cX5_init 265 = .ok (.newarray .int, 2) := by decide +kernel
theorem dX5_init_267 : decode cX5_init 267 = .ok (.putfield 108, 3) := by decide +kernel
theorem dX5_init_270 : decode cX5_init 270 = .ok (.aload_n 0, 1) := by decide +kernel
theorem dX5_init_271 : decode cX5_init 271 = .ok (.iconst 0, 1) := by decide +kernel
theorem dX5_init_272 : decode cX5_init 272 = .ok (.putfield 111, 3) := by decide +kernel
theorem dX5_init_275 : decode cX5_init 275 = .ok (.return_, 1) := by decide +kernel
theorem dX5_in_0 : decode cX5_in 0 = .ok (.iload_n 0, 1) := by decide +kernel
theorem dX5_in_1 : decode cX5_in 1 = .ok (.iload_n 1, 1) := by decide +kernel
theorem dX5_in_2 : decode cX5_in 2 = .ok (.if_icmp .lt 12, 3) := by decide +kernel
theorem dX5_in_5 : decode cX5_in 5 = .ok (.iload_n 0, 1) := by decide +kernel
theorem dX5_in_6 : decode cX5_in 6 = .ok (.iload_n 2, 1) := by decide +kernel
theorem dX5_in_7 : decode cX5_in 7 = .ok (.if_icmp .gt 7, 3) := by decide +kernel
theorem dX5_in_10 : decode cX5_in 10 = .ok (.iconst 1, 1) := by decide +kernel
theorem dX5_in_11 : decode cX5_in 11 = .ok (.goto 4, 3) := by decide +kernel
theorem dX5_in_14 : decode cX5_in 14 = .ok (.iconst 0, 1) := by decide +kernel
theorem dX5_in_15 : decode cX5_in 15 = .ok (.ireturn, 1) := by decide +kernel
theorem dX5_call_0 : decode cX5_call 0 = .ok (.aload_n 0, 1) := by decide +kernel
theorem dX5_call_1 : decode cX5_call 1 = .ok (.iconst 0, 1) := by decide +kernel
theorem dX5_call_2 : decode cX5_call 2 = .ok (.putfield 115, 3) := by decide +kernel
theorem dX5_call_5 : decode cX5_call 5 = .ok (.iload_n 1, 1) := by decide +kernel
theorem dX5_call_6 : decode cX5_call 6 = .ok (.iconst 0, 1) := by decide +kernel
theorem dX5_call_7 : decode cX5_call 7 = .ok (.iconst 5, 1) := by decide +kernel
theorem dX5_call_8 : decode cX5_call 8 = .ok (.invokestatic 119, 3) := by decide +kernel
theorem dX5_call_11 : decode cX5_call 11 = .ok (.ifCond .eq 46, 3) := by decide +kernel
theorem dX5_call_14 : decode cX5_call 14 = .ok (.iload_n 2, 1) := by decide +kernel
theorem dX5_call_15 : decode cX5_call 15 = .ok (.iconst 0, 1) := by decide +kernel
theorem dX5_call_16 : decode cX5_call 16 = .ok (.bipush 7, 2) := by decide +kernel
theorem dX5_call_18 : decode cX5_call 18 = .ok (.invokestatic 119, 3) := by decide +kernel
theorem dX5_call_21 : decode cX5_call 21 = .ok (.ifCond .eq 36, 3) := by decide +kernel
theorem dX5_call_24 : decode cX5_call 24 = .ok (.iload_n 3, 1) := by decide +kernel
theorem dX5_call_25 : decode cX5_call 25 = .ok (.iconst 0, 1) := by decide +kernel
theorem dX5_call_26 : decode cX5_call 26 = .ok (.bipush 7, 2) := by decide +kernel
theorem dX5_call_28 : decode cX5_call 28 = .ok (.invokestatic 119, 3) := by decide +kernel
theorem dX5_call_31 : decode cX5_call 31 = .ok (.ifCond .eq 26, 3) := by decide +kernel
theorem dX5_call_34 : decode cX5_call 34 = .ok (.iload 4, 2) := by decide +kernel
theorem dX5_call_36 : decode cX5_call 36 = .ok (.ldc 123, 2) := by decide +kernel
theorem dX5_call_38 : decode cX5_call 38 = .ok (.ldc 124, 2) := by decide +kernel
theorem dX5_call_40 : decode cX5_call 40 = .ok (.invokestatic 119, 3) := by decide +kernel
theorem dX5_call_43 : decode cX5_call 43 = .ok (.ifCond .eq 14, 3) := by decide +kernel
theorem dX5_call_46 : decode cX5_call 46 = .ok (.iload 5, 2) := by decide +kernel
theorem dX5_call_48 : decode cX5_call 48 = .ok (.iconst 1, 1) := by decide +kernel
theorem dX5_call_49 : decode cX5_call 49 = .ok (.bipush 9, 2) := by decide +kernel
theorem dX5_call_51 : decode cX5_call 51 = .ok (.invokestatic 119, 3) := by decide +kernel
theorem dX5_call_54 : decode cX5_call 54 = .ok (.ifCond .ne 6, 3) := by decide +kernel
theorem dX5_call_57 : decode cX5_call 57 = .ok (.bipush (-2), 2) := by decide +kernel
theorem dX5_call_59 : decode cX5_call 59 = .ok (.ireturn, 1) := by decide +kernel
theorem dX5_call_60 : decode cX5_call 60 = .ok (.aload_n 0, 1) := by decide +kernel
theorem dX5_call_61 : decode cX5_call 61 = .ok (.getfield 125, 3) := by decide +kernel
theorem dX5_call_64 : decode cX5_call 64 = .ok (.bipush 40, 2) := by decide +kernel
theorem dX5_call_66 : decode cX5_call 66 = .ok (.if_icmp .ne 6, 3) := by decide +kernel
theorem dX5_call_69 : decode cX5_call 69 = .ok (.bipush (-4), 2) := by decide +kernel
theorem dX5_call_71 : decode cX5_call 71 = .ok (.ireturn, 1) := by decide +kernel
theorem dX5_call_72 : decode cX5_call 72 = .ok (.aload_n 0, 1) := by decide +kernel
theorem dX5_call_73 : decode cX5_call 73 = .ok (.getfield 7, 3) := by decide +kernel
theorem dX5_call_76 : decode cX5_call 76 = .ok (.aload_n 0, 1) := by decide +kernel
theorem dX5_call_77 : decode cX5_call 77 = .ok (.getfield 125, 3) := by decide +kernel
theorem dX5_call_80 : decode cX5_call 80 = .ok (.iload_n 1, 1) := by decide +kernel
theorem dX5_call_81 : decode cX5_call 81 = .ok (.iastore, 1) := by decide +kernel
theorem dX5_call_82 : decode cX5_call 82 = .ok (.aload_n 0, 1) := by decide +kernel
theorem dX5_call_83 : decode cX5_call 83 = .ok (.getfield 13, 3) := by decide +kernel
theorem dX5_call_86 : decode cX5_call 86 = .ok (.aload_n 0, 1) := by decide +kernel
theorem dX5_call_87 : decode cX5_call 87 = .ok (.getfield 125, 3) := by decide +kernel
theorem dX5_call_90 : decode cX5_call 90 = .ok (.iload_n 2, 1) := by decide +kernel
theorem dX5_call_91 : decode cX5_call 91 = .ok (.iastore, 1) := by decide +kernel
theorem dX5_call_92 : decode cX5_call 92 = .ok (.aload_n 0, 1) := by decide +kernel
theorem dX5_call_93 : decode cX5_call 93 = .ok (.getfield 16, 3) := by decide +kernel
theorem dX5_call_96 : decode cX5_call 96 = .ok (.aload_n 0, 1) := by decide +kernel
theorem dX5_call_97 : decode cX5_call 97 = .ok (.getfield 125, 3) := by decide +kernel
theorem dX5_call_100 : decode cX5_call 100 = .ok (.iload_n 3, 1) := by decide +kernel
theorem dX5_call_101 : decode cX5_call 101 = .ok (.iastore, 1) := by decide +kernel
theorem dX5_call_102 : decode cX5_call 102 = .ok (.aload_n 0, 1) := by decide +kernel
theorem dX5_call_103 : decode cX5_call 103 = .ok (.getfield 19, 3) := by decide +kernel
theorem dX5_call_106 : decode cX5_call 106 = .ok (.aload_n 0, 1) := by decide +kernel
theorem dX5_call_107 : decode cX5_call 107 = .ok (.getfield 125, 3) := by decide +kernel
theorem dX5_call_110 : decode cX5_call 110 = .ok (.iload 4, 2) := by decide +kernel
theorem dX5_call_112 : decode cX5_call 112 = .ok (.iastore, 1) := by decide +kernel
theorem dX5_call_113 : decode cX5_call 113 = .ok (.aload_n 0, 1) := by decide +kernel
theorem dX5_call_114 : decode cX5_call 114 = .ok (.getfield 22, 3) := by decide +kernel
theorem dX5_call_117 : decode cX5_call 117 = .ok (.aload_n 0, 1) := by decide +kernel
theorem dX5_call_118 : decode cX5_call 118 = .ok (.getfield 125, 3) := by decide +kernel
theorem dX5_call_121 : decode cX5_call 121 = .ok (.iload 5, 2) := by decide +kernel
theorem dX5_call_123 : decode cX5_call 123 = .ok (.iastore, 1) := by decide +kernel
theorem dX5_call_124 : decode cX5_call 124 = .ok (.aload_n 0, 1) := by decide +kernel
theorem dX5_call_125 : decode cX5_call 125 = .ok (.dup, 1) := by decide +kernel
theorem dX5_call_126 : decode cX5_call 126 = .ok (.getfield 125, 3) := by decide +kernel
theorem dX5_call_129 : decode cX5_call 129 = .ok (.iconst 1, 1) := by decide +kernel
theorem dX5_call_130 : decode cX5_call 130 = .ok (.iadd, 1) := by decide +kernel
theorem dX5_call_131 : decode cX5_call 131 = .ok (.putfield 125, 3) := by decide +kernel
theorem dX5_call_134 : decode cX5_call 134 = .ok (.aload_n 0, 1) := by decide +kernel
theorem dX5_call_135 : decode cX5_call 135 = .ok (.getfield 125, 3) := by decide +kernel
theorem dX5_call_138 : decode cX5_call 138 = .ok (.iconst 1, 1) := by decide +kernel
theorem dX5_call_139 : decode cX5_call 139 = .ok (.isub, 1) := by decide +kernel
theorem dX5_call_140 : decode cX5_call 140 = .ok (.ireturn, 1) := by decide +kernel
theorem dX5_clear_0 : decode cX5_clear 0 = .ok (.aload_n 0, 1) := by decide +kernel
theorem dX5_clear_1 : decode cX5_clear 1 = .ok (.iconst 0, 1) := by decide +kernel
theorem dX5_clear_2 : decode cX5_clear 2 = .ok (.putfield 115, 3) := by decide +kernel
theorem dX5_clear_5 : decode cX5_clear 5 = .ok (.aload_n 0, 1) := by decide +kernel
theorem dX5_clear_6 : decode cX5_clear 6 = .ok (.getfield 125, 3) := by decide +kernel
theorem dX5_clear_9 : decode cX5_clear 9 = .ok (.istore_n 1, 1) := by decide +kernel
theorem dX5_clear_10 : decode cX5_clear 10 = .ok (.aload_n 0, 1) := by decide +kernel
theorem dX5_clear_11 : decode cX5_clear 11 = .ok (.iconst 0, 1) := by decide +kernel
theorem dX5_clear_12 : decode cX5_clear 12 = .ok (.putfield 125, 3) := by decide +kernel
theorem dX5_clear_15 : decode cX5_clear 15 = .ok (.aload_n 0, 1) := by decide +kernel
theorem dX5_clear_16 : decode cX5_clear 16 = .ok (.iconst 0, 1) := by decide +kernel
theorem dX5_clear_17 : decode cX5_clear 17 = .ok (.putfield 111, 3) := by decide +kernel
theorem dX5_clear_20 : decode cX5_clear 20 = .ok (.iload_n 1, 1) := by decide +kernel
theorem dX5_clear_21 : decode cX5_clear 21 = .ok (.ireturn, 1) := by decide +kernel
theorem dX5_gone_0 : decode cX5_gone 0 = .ok (.aload_n 0, 1) := by decide +kernel
theorem dX5_gone_1 : decode cX5_gone 1 = .ok (.iconst 0, 1) := by decide +kernel
theorem dX5_gone_2 : decode cX5_gone 2 = .ok (.putfield 115, 3) := by decide +kernel
theorem dX5_gone_5 : decode cX5_gone 5 = .ok (.iload_n 1, 1) := by decide +kernel
theorem dX5_gone_6 : decode cX5_gone 6 = .ok (.iconst 0, 1) := by decide +kernel
theorem dX5_gone_7 : decode cX5_gone 7 = .ok (.bipush 15, 2) := by decide +kernel
theorem dX5_gone_9 : decode cX5_gone 9 = .ok (.invokestatic 119, 3) := by decide +kernel
theorem dX5_gone_12 : decode cX5_gone 12 = .ok (.ifCond .eq 13, 3) := by decide +kernel
theorem dX5_gone_15 : decode cX5_gone 15 = .ok (.iload_n 2, 1) := by decide +kernel
theorem dX5_gone_16 : decode cX5_gone 16 = .ok (.iconst 0, 1) := by decide +kernel
theorem dX5_gone_17 : decode cX5_gone 17 = .ok (.bipush 99, 2) := by decide +kernel
theorem dX5_gone_19 : decode cX5_gone 19 = .ok (.invokestatic 119, 3) := by decide +kernel
theorem dX5_gone_22 : decode cX5_gone 22 = .ok (.ifCond .ne 6, 3) := by decide +kernel
theorem dX5_gone_25 : decode cX5_gone 25 = .ok (.bipush (-2), 2) := by decide +kernel
theorem dX5_gone_27 : decode cX5_gone 27 = .ok (.ireturn, 1) := by decide +kernel
theorem dX5_gone_28 : decode cX5_gone 28 = .ok (.aload_n 0, 1) := by decide +kernel
theorem dX5_gone_29 : decode cX5_gone 29 = .ok (.getfield 25, 3) := by decide +kernel
theorem dX5_gone_32 : decode cX5_gone 32 = .ok (.iload_n 1, 1) := by decide +kernel
theorem dX5_gone_33 : decode cX5_gone 33 = .ok (.iaload, 1) := by decide +kernel
theorem dX5_gone_34 : decode cX5_gone 34 = .ok (.istore_n 3, 1) := by decide +kernel
theorem dX5_gone_35 : decode cX5_gone 35 = .ok (.aload_n 0, 1) := by decide +kernel
theorem dX5_gone_36 : decode cX5_gone 36 = .ok (.getfield 25, 3) := by decide +kernel
theorem dX5_gone_39 : decode cX5_gone 39 = .ok (.iload_n 1, 1) := by decide +kernel
theorem dX5_gone_40 : decode cX5_gone 40 = .ok (.iload_n 2, 1) := by decide +kernel
theorem dX5_gone_41 : decode cX5_gone 41 = .ok (.iastore, 1) := by decide +kernel
theorem dX5_gone_42 : decode cX5_gone 42 = .ok (.iload_n 3, 1) := by decide +kernel
theorem dX5_gone_43 : decode cX5_gone 43 = .ok (.ireturn, 1) := by decide +kernel
theorem dX5_reads_0 : decode cX5_reads 0 = .ok (.iload_n 1, 1) := by decide +kernel
theorem dX5_reads_1 : decode cX5_reads 1 = .ok (.iconst 1, 1) := by decide +kernel
theorem dX5_reads_2 : decode cX5_reads 2 = .ok (.isub, 1) := by decide +kernel
theorem dX5_reads_3 : decode cX5_reads 3 = .ok (.istore_n 3, 1) := by decide +kernel
theorem dX5_reads_4 : decode cX5_reads 4 = .ok (.iload_n 3, 1) := by decide +kernel
theorem dX5_reads_5 : decode cX5_reads 5 = .ok (.ifCond .lt 71, 3) := by decide +kernel
theorem dX5_reads_8 : decode cX5_reads 8 = .ok (.aload_n 0, 1) := by decide +kernel
theorem dX5_reads_9 : decode cX5_reads 9 = .ok (.getfield 53, 3) := by decide +kernel
theorem dX5_reads_12 : decode cX5_reads 12 = .ok (.iload_n 3, 1) := by decide +kernel
theorem dX5_reads_13 : decode cX5_reads 13 = .ok (.iaload, 1) := by decide +kernel
theorem dX5_reads_14 : decode cX5_reads 14 = .ok (.iconst 2, 1) := by decide +kernel
theorem dX5_reads_15 : decode cX5_reads 15 = .ok (.if_icmp .lt 55, 3) := by decide +kernel
theorem dX5_reads_18 : decode cX5_reads 18 = .ok (.aload_n 0, 1) := by decide +kernel
theorem dX5_reads_19 : decode cX5_reads 19 = .ok (.getfield 81, 3) := by decide +kernel
theorem dX5_reads_22 : decode cX5_reads 22 = .ok (.iload_n 3, 1) := by decide +kernel
theorem dX5_reads_23 : decode cX5_reads 23 = .ok (.baload, 1) := by decide +kernel
theorem dX5_reads_24 : decode cX5_reads 24 = .ok (.ifCond .eq 20, 3) := by decide +kernel
theorem dX5_reads_27 : decode cX5_reads 27 = .ok (.aload_n 0, 1) := by decide +kernel
theorem dX5_reads_28 : decode cX5_reads 28 = .ok (.getfield 16, 3) := by decide +kernel
theorem dX5_reads_31 : decode cX5_reads 31 = .ok (.iload_n 3, 1) := by decide +kernel
theorem dX5_reads_32 : decode cX5_reads 32 = .ok (.iaload, 1) := by decide +kernel
theorem dX5_reads_33 : decode cX5_reads 33 = .ok (.iload_n 2, 1) := by decide +kernel
theorem dX5_reads_34 : decode cX5_reads 34 = .ok (.if_icmp .ne 10, 3) := by decide +kernel
theorem dX5_reads_37 : decode cX5_reads 37 = .ok (.aload_n 0, 1) := by decide +kernel
theorem dX5_reads_38 : decode cX5_reads 38 = .ok (.getfield 87, 3) := by decide +kernel
theorem dX5_reads_41 : decode cX5_reads 41 = .ok (.iload_n 3, 1) := by decide +kernel
theorem dX5_reads_42 : decode cX5_reads 42 = .ok (.laload, 1) := by decide +kernel
theorem dX5_reads_43 : decode cX5_reads 43 = .ok (.lreturn, 1) := by decide +kernel
theorem dX5_reads_44 : decode cX5_reads 44 = .ok (.aload_n 0, 1) := by decide +kernel
theorem dX5_reads_45 : decode cX5_reads 45 = .ok (.getfield 77, 3) := by decide +kernel
theorem dX5_reads_48 : decode cX5_reads 48 = .ok (.iload_n 3, 1) := by decide +kernel
theorem dX5_reads_49 : decode cX5_reads 49 = .ok (.baload, 1) := by decide +kernel
theorem dX5_reads_50 : decode cX5_reads 50 = .ok (.ifCond .eq 20, 3) := by decide +kernel
theorem dX5_reads_53 : decode cX5_reads 53 = .ok (.aload_n 0, 1) := by decide +kernel
theorem dX5_reads_54 : decode cX5_reads 54 = .ok (.getfield 13, 3) := by decide +kernel
theorem dX5_reads_57 : decode cX5_reads 57 = .ok (.iload_n 3, 1) := by decide +kernel
theorem dX5_reads_58 : decode cX5_reads 58 = .ok (.iaload, 1) := by decide +kernel
theorem dX5_reads_59 : decode cX5_reads 59 = .ok (.iload_n 2, 1) := by decide +kernel
theorem dX5_reads_60 : decode cX5_reads 60 = .ok (.if_icmp .ne 10, 3) := by decide +kernel
theorem dX5_reads_63 : decode cX5_reads 63 = .ok (.aload_n 0, 1) := by decide +kernel
theorem dX5_reads_64 : decode cX5_reads 64 = .ok (.getfield 84, 3) := by decide +kernel
theorem dX5_reads_67 : decode cX5_reads 67 = .ok (.iload_n 3, 1) := by decide +kernel
theorem dX5_reads_68 : decode cX5_reads 68 = .ok (.laload, 1) := by decide +kernel
theorem dX5_reads_69 : decode cX5_reads 69 = .ok (.lreturn, 1) := by decide +kernel
theorem dX5_reads_70 : decode cX5_reads 70 = .ok (.iinc 3 (-1), 3) := by decide +kernel
theorem dX5_reads_73 : decode cX5_reads 73 = .ok (.goto (-69), 3) := by decide +kernel
theorem dX5_reads_76 : decode cX5_reads 76 = .ok (.lconst 0, 1) := by decide +kernel
theorem dX5_reads_77 : decode cX5_reads 77 = .ok (.lreturn, 1) := by decide +kernel
theorem dX5_work_0 : decode cX5_work 0 = .ok (.aload_n 0, 1) := by decide +kernel
theorem dX5_work_1 : decode cX5_work 1 = .ok (.getfield 71, 3) := by decide +kernel
theorem dX5_work_4 : decode cX5_work 4 = .ok (.iload_n 1, 1) := by decide +kernel
theorem dX5_work_5 : decode cX5_work 5 = .ok (.laload, 1) := by decide +kernel
theorem dX5_work_6 : decode cX5_work 6 = .ok (.lstore_n 2, 1) := by decide +kernel
theorem dX5_work_7 : decode cX5_work 7 = .ok (.aload_n 0, 1) := by decide +kernel
theorem dX5_work_8 : decode cX5_work 8 = .ok (.getfield 74, 3) := by decide +kernel
theorem dX5_work_11 : decode cX5_work 11 = .ok (.iload_n 1, 1) := by decide +kernel
theorem dX5_work_12 : decode cX5_work 12 = .ok (.laload, 1) := by decide +kernel
theorem dX5_work_13 : decode cX5_work 13 = .ok (.lstore 4, 2) := by decide +kernel
theorem dX5_work_15 : decode cX5_work 15 = .ok (.aload_n 0, 1) := by decide +kernel
theorem dX5_work_16 : decode cX5_work 16 = .ok (.getfield 19, 3) := by decide +kernel
theorem dX5_work_19 : decode cX5_work 19 = .ok (.iload_n 1, 1) := by decide +kernel
theorem dX5_work_20 : decode cX5_work 20 = .ok (.iaload, 1) := by decide +kernel
theorem dX5_work_21 : decode cX5_work 21 = .ok (.i2l, 1) := by decide +kernel
theorem dX5_work_22 : decode cX5_work 22 = .ok (.lstore 6, 2) := by decide +kernel
theorem dX5_work_24 : decode cX5_work 24 = .ok (.aload_n 0, 1) := by decide +kernel
theorem dX5_work_25 : decode cX5_work 25 = .ok (.getfield 77, 3) := by decide +kernel
theorem dX5_work_28 : decode cX5_work 28 = .ok (.iload_n 1, 1) := by decide +kernel
theorem dX5_work_29 : decode cX5_work 29 = .ok (.iconst 0, 1) := by decide +kernel
theorem dX5_work_30 : decode cX5_work 30 = .ok (.bastore, 1) := by decide +kernel
theorem dX5_work_31 : decode cX5_work 31 = .ok (.aload_n 0, 1) := by decide +kernel
theorem dX5_work_32 : decode cX5_work 32 = .ok (.getfield 81, 3) := by decide +kernel
theorem dX5_work_35 : decode cX5_work 35 = .ok (.iload_n 1, 1) := by decide +kernel
theorem dX5_work_36 : decode cX5_work 36 = .ok (.iconst 0, 1) := by decide +kernel
theorem dX5_work_37 : decode cX5_work 37 = .ok (.bastore, 1) := by decide +kernel
theorem dX5_work_38 : decode cX5_work 38 = .ok (.iconst 0, 1) := by decide +kernel
theorem dX5_work_39 : decode cX5_work 39 = .ok (.istore 8, 2) := by decide +kernel
theorem dX5_work_41 : decode cX5_work 41 = .ok (.aload_n 0, 1) := by decide +kernel
theorem dX5_work_42 : decode cX5_work 42 = .ok (.getfield 7, 3) := by decide +kernel
theorem dX5_work_45 : decode cX5_work 45 = .ok (.iload_n 1, 1) := by decide +kernel
theorem dX5_work_46 : decode cX5_work 46 = .ok (.iaload, 1) := by decide +kernel
theorem dX5_work_47 : decode cX5_work 47 = .ok (.tableswitch 211 0 4 #[33, 51, 74, 162, 179], 33) := by decide +kernel
theorem dX5_work_80 : decode cX5_work 80 = .ok (.aload_n 0, 1) := by decide +kernel
theorem dX5_work_81 : decode cX5_work 81 = .ok (.getfield 81, 3) := by decide +kernel
theorem dX5_work_84 : decode cX5_work 84 = .ok (.iload_n 1, 1) := by decide +kernel
theorem dX5_work_85 : decode cX5_work 85 = .ok (.iconst 1, 1) := by decide +kernel
theorem dX5_work_86 : decode cX5_work 86 = .ok (.bastore, 1) := by decide +kernel
theorem dX5_work_87 : decode cX5_work 87 = .ok (.aload_n 0, 1) := by decide +kernel
theorem dX5_work_88 : decode cX5_work 88 = .ok (.getfield 87, 3) := by decide +kernel
theorem dX5_work_91 : decode cX5_work 91 = .ok (.iload_n 1, 1) := by decide +kernel
theorem dX5_work_92 : decode cX5_work 92 = .ok (.lload 6, 2) := by decide +kernel
theorem dX5_work_94 : decode cX5_work 94 = .ok (.lastore, 1) := by decide +kernel
theorem dX5_work_95 : decode cX5_work 95 = .ok (.goto 201, 3) := by decide +kernel
theorem dX5_work_98 : decode cX5_work 98 = .ok (.aload_n 0, 1) := by decide +kernel
theorem dX5_work_99 : decode cX5_work 99 = .ok (.getfield 81, 3) := by decide +kernel
theorem dX5_work_102 : decode cX5_work 102 = .ok (.iload_n 1, 1) := by decide +kernel
theorem dX5_work_103 : decode cX5_work 103 = .ok (.iconst 1, 1) := by decide +kernel
theorem dX5_work_104 : decode cX5_work 104 = .ok (.bastore, 1) := by decide +kernel
theorem dX5_work_105 : decode cX5_work 105 = .ok (.aload_n 0, 1) := by decide +kernel
theorem dX5_work_106 : decode cX5_work 106 = .ok (.getfield 87, 3) := by decide +kernel
theorem dX5_work_109 : decode cX5_work 109 = .ok (.iload_n 1, 1) := by decide +kernel
theorem dX5_work_110 : decode cX5_work 110 = .ok (.lload 4, 2) := by decide +kernel
theorem dX5_work_112 : decode cX5_work 112 = .ok (.lload_n 2, 1) := by decide +kernel
theorem dX5_work_113 : decode cX5_work 113 = .ok (.ladd, 1) := by decide +kernel
theorem dX5_work_114 : decode cX5_work 114 = .ok (.lload 6, 2) := by decide +kernel
theorem dX5_work_116 : decode cX5_work 116 = .ok (.ladd, 1) := by decide +kernel
theorem dX5_work_117 : decode cX5_work 117 = .ok (.lastore, 1) := by decide +kernel
theorem dX5_work_118 : decode cX5_work 118 = .ok (.goto 178, 3) := by decide +kernel
theorem dX5_work_121 : decode cX5_work 121 = .ok (.lload_n 2, 1) := by decide +kernel
theorem dX5_work_122 : decode cX5_work 122 = .ok (.lload 6, 2) := by decide +kernel
theorem dX5_work_124 : decode cX5_work 124 = .ok (.lcmp, 1) := by decide +kernel
theorem dX5_work_125 : decode cX5_work 125 = .ok (.ifCond .lt 10, 3) := by decide +kernel
theorem dX5_work_128 : decode cX5_work 128 = .ok (.lload 6, 2) := by decide +kernel
theorem dX5_work_130 : decode cX5_work 130 = .ok (.lconst 0, 1) := by decide +kernel
theorem dX5_work_131 : decode cX5_work 131 = .ok (.lcmp, 1) := by decide +kernel
theorem dX5_work_132 : decode cX5_work 132 = .ok (.ifCond .ge 7, 3) := by decide +kernel
theorem dX5_work_135 : decode cX5_work 135 = .ok (.iconst 1, 1) := by decide +kernel
theorem dX5_work_136 : decode cX5_work 136 = .ok (.goto 4, 3) := by decide +kernel
theorem dX5_work_139 : decode cX5_work 139 = .ok (.iconst 0, 1) := by decide +kernel
theorem dX5_work_140 : decode cX5_work 140 = .ok (.istore 8, 2) := by decide +kernel
theorem dX5_work_142 : decode cX5_work 142 = .ok (.aload_n 0, 1) := by decide +kernel
theorem dX5_work_143 : decode cX5_work 143 = .ok (.getfield 77, 3) := by decide +kernel
theorem dX5_work_146 : decode cX5_work 146 = .ok (.iload_n 1, 1) := by decide +kernel
theorem dX5_work_147 : decode cX5_work 147 = .ok (.iload 8, 2) := by decide +kernel
theorem dX5_work_149 : decode cX5_work 149 = .ok (.ifCond .ne 22, 3) := by decide +kernel
theorem dX5_work_152 : decode cX5_work 152 = .ok (.aload_n 0, 1) := by decide +kernel
theorem dX5_work_153 : decode cX5_work 153 = .ok (.getfield 13, 3) := by decide +kernel
theorem dX5_work_156 : decode cX5_work 156 = .ok (.iload_n 1, 1) := by decide +kernel
theorem dX5_work_157 : decode cX5_work 157 = .ok (.iaload, 1) := by decide +kernel
theorem dX5_work_158 : decode cX5_work 158 = .ok (.aload_n 0, 1) := by decide +kernel
theorem dX5_work_159 : decode cX5_work 159 = .ok (.getfield 16, 3) := by decide +kernel
theorem dX5_work_162 : decode cX5_work 162 = .ok (.iload_n 1, 1) := by decide +kernel
theorem dX5_work_163 : decode cX5_work 163 = .ok (.iaload, 1) := by decide +kernel
theorem dX5_work_164 : decode cX5_work 164 = .ok (.if_icmp .eq 7, 3) := by decide +kernel
theorem dX5_work_167 : decode cX5_work 167 = .ok (.iconst 1, 1) := by decide +kernel
theorem dX5_work_168 : decode cX5_work 168 = .ok (.goto 4, 3) := by decide +kernel
theorem dX5_work_171 : decode cX5_work 171 = .ok (.iconst 0, 1) := by decide +kernel
theorem dX5_work_172 : decode cX5_work 172 = .ok (.bastore, 1) := by decide +kernel
theorem dX5_work_173 : decode cX5_work 173 = .ok (.aload_n 0, 1) := by decide +kernel
theorem dX5_work_174 : decode cX5_work 174 = .ok (.getfield 81, 3) := by decide +kernel
theorem dX5_work_177 : decode cX5_work 177 = .ok (.iload_n 1, 1) := by decide +kernel
theorem dX5_work_178 : decode cX5_work 178 = .ok (.aload_n 0, 1) := by decide +kernel
theorem dX5_work_179 : decode cX5_work 179 = .ok (.getfield 77, 3) := by decide +kernel
theorem dX5_work_182 : decode cX5_work 182 = .ok (.iload_n 1, 1) := by decide +kernel
theorem dX5_work_183 : decode cX5_work 183 = .ok (.baload, 1) := by decide +kernel
theorem dX5_work_184 : decode cX5_work 184 = .ok (.bastore, 1) := by decide +kernel
theorem dX5_work_185 : decode cX5_work 185 = .ok (.aload_n 0, 1) := by decide +kernel
theorem dX5_work_186 : decode cX5_work 186 = .ok (.getfield 84, 3) := by decide +kernel
theorem dX5_work_189 : decode cX5_work 189 = .ok (.iload_n 1, 1) := by decide +kernel
theorem dX5_work_190 : decode cX5_work 190 = .ok (.lload_n 2, 1) := by decide +kernel
theorem dX5_work_191 : decode cX5_work 191 = .ok (.lload 6, 2) := by decide +kernel
theorem dX5_work_193 : decode cX5_work 193 = .ok (.lsub, 1) := by decide +kernel
theorem dX5_work_194 : decode cX5_work 194 = .ok (.lastore, 1) := by decide +kernel
theorem dX5_work_195 : decode cX5_work 195 = .ok (.aload_n 0, 1) := by decide +kernel
theorem dX5_work_196 : decode cX5_work 196 = .ok (.getfield 87, 3) := by decide +kernel
theorem dX5_work_199 : decode cX5_work 199 = .ok (.iload_n 1, 1) := by decide +kernel
theorem dX5_work_200 : decode cX5_work 200 = .ok (.lload 4, 2) := by decide +kernel
theorem dX5_work_202 : decode cX5_work 202 = .ok (.lload 6, 2) := by decide +kernel
theorem dX5_work_204 : decode cX5_work 204 = .ok (.ladd, 1) := by decide +kernel
theorem dX5_work_205 : decode cX5_work 205 = .ok (.lastore, 1) := by decide +kernel
theorem dX5_work_206 : decode cX5_work 206 = .ok (.goto 90, 3) := by decide +kernel
theorem dX5_work_209 : decode cX5_work 209 = .ok (.lload_n 2, 1) := by decide +kernel
theorem dX5_work_210 : decode cX5_work 210 = .ok (.lload 6, 2) := by decide +kernel
theorem dX5_work_212 : decode cX5_work 212 = .ok (.lcmp, 1) := by decide +kernel
theorem dX5_work_213 : decode cX5_work 213 = .ok (.ifCond .ge 7, 3) := by decide +kernel
theorem dX5_work_216 : decode cX5_work 216 = .ok (.iconst 1, 1) := by decide +kernel
theorem dX5_work_217 : decode cX5_work 217 = .ok (.goto 4, 3) := by decide +kernel
theorem dX5_work_220 : decode cX5_work 220 = .ok (.iconst 0, 1) := by decide +kernel
theorem dX5_work_221 : decode cX5_work 221 = .ok (.istore 8, 2) := by decide +kernel
theorem dX5_work_223 : decode cX5_work 223 = .ok (.goto 73, 3) := by decide +kernel
theorem dX5_work_226 : decode cX5_work 226 = .ok (.aload_n 0, 1) := by decide +kernel
theorem dX5_work_227 : decode cX5_work 227 = .ok (.getfield 77, 3) := by decide +kernel
theorem dX5_work_230 : decode cX5_work 230 = .ok (.iload_n 1, 1) := by decide +kernel
theorem dX5_work_231 : decode cX5_work 231 = .ok (.iconst 1, 1) := by decide +kernel
theorem dX5_work_232 : decode cX5_work 232 = .ok (.bastore, 1) := by decide +kernel
theorem dX5_work_233 : decode cX5_work 233 = .ok (.aload_n 0, 1) := by decide +kernel
theorem dX5_work_234 : decode cX5_work 234 = .ok (.getfield 81, 3) := by decide +kernel
theorem dX5_work_237 : decode cX5_work 237 = .ok (.iload_n 1, 1) := by decide +kernel
theorem dX5_work_238 : decode cX5_work 238 = .ok (.iconst 1, 1) := by decide +kernel
theorem dX5_work_239 : decode cX5_work 239 = .ok (.bastore, 1) := by decide +kernel
theorem dX5_work_240 : decode cX5_work 240 = .ok (.aload_n 0, 1) := by decide +kernel
theorem dX5_work_241 : decode cX5_work 241 = .ok (.getfield 84, 3) := by decide +kernel
theorem dX5_work_244 : decode cX5_work 244 = .ok (.iload_n 1, 1) := by decide +kernel
theorem dX5_work_245 : decode cX5_work 245 = .ok (.lload 4, 2) := by decide +kernel
theorem dX5_work_247 : decode cX5_work 247 = .ok (.lastore, 1) := by decide +kernel
theorem dX5_work_248 : decode cX5_work 248 = .ok (.aload_n 0, 1) := by decide +kernel
theorem dX5_work_249 : decode cX5_work 249 = .ok (.getfield 87, 3) := by decide +kernel
theorem dX5_work_252 : decode cX5_work 252 = .ok (.iload_n 1, 1) := by decide +kernel
theorem dX5_work_253 : decode cX5_work 253 = .ok (.lload_n 2, 1) := by decide +kernel
theorem dX5_work_254 : decode cX5_work 254 = .ok (.lastore, 1) := by decide +kernel
theorem dX5_work_255 : decode cX5_work 255 = .ok (.goto 41, 3) := by decide +kernel
theorem dX5_work_258 : decode cX5_work 258 = .ok (.lload_n 2, 1) := by decide +kernel
theorem dX5_work_259 : decode cX5_work 259 = .ok (.lload 4, 2) := by decide +kernel
theorem dX5_work_261 : decode cX5_work 261 = .ok (.lcmp, 1) := by decide +kernel
theorem dX5_work_262 : decode cX5_work 262 = .ok (.ifCond .eq 7, 3) := by decide +kernel
theorem dX5_work_265 : decode cX5_work 265 = .ok (.iconst 1, 1) := by decide +kernel
theorem dX5_work_266 : decode cX5_work 266 = .ok (.goto 4, 3) := by decide +kernel
theorem dX5_work_269 : decode cX5_work 269 = .ok (.iconst 0, 1) := by decide +kernel
theorem dX5_work_270 : decode cX5_work 270 = .ok (.istore 8, 2) := by decide +kernel
theorem dX5_work_272 : decode cX5_work 272 = .ok (.aload_n 0, 1) := by decide +kernel
theorem dX5_work_273 : decode cX5_work 273 = .ok (.getfield 81, 3) := by decide +kernel
theorem dX5_work_276 : decode cX5_work 276 = .ok (.iload_n 1, 1) := by decide +kernel
theorem dX5_work_277 : decode cX5_work 277 = .ok (.iload 8, 2) := by decide +kernel
theorem dX5_work_279 : decode cX5_work 279 = .ok (.ifCond .ne 7, 3) := by decide +kernel
theorem dX5_work_282 : decode cX5_work 282 = .ok (.iconst 1, 1) := by decide +kernel
theorem dX5_work_283 : decode cX5_work 283 = .ok (.goto 4, 3) := by decide +kernel
theorem dX5_work_286 : decode cX5_work 286 = .ok (.iconst 0, 1) := by decide +kernel
theorem dX5_work_287 : decode cX5_work 287 = .ok (.bastore, 1) := by decide +kernel
theorem dX5_work_288 : decode cX5_work 288 = .ok (.aload_n 0, 1) := by decide +kernel
theorem dX5_work_289 : decode cX5_work 289 = .ok (.getfield 87, 3) := by decide +kernel
theorem dX5_work_292 : decode cX5_work 292 = .ok (.iload_n 1, 1) := by decide +kernel
theorem dX5_work_293 : decode cX5_work 293 = .ok (.lload 6, 2) := by decide +kernel
theorem dX5_work_295 : decode cX5_work 295 = .ok (.lastore, 1) := by decide +kernel
theorem dX5_work_296 : decode cX5_work 296 = .ok (.aload_n 0, 1) := by decide +kernel
theorem dX5_work_297 : decode cX5_work 297 = .ok (.getfield 68, 3) := by decide +kernel
theorem dX5_work_300 : decode cX5_work 300 = .ok (.iload_n 1, 1) := by decide +kernel
theorem dX5_work_301 : decode cX5_work 301 = .ok (.iload 8, 2) := by decide +kernel
theorem dX5_work_303 : decode cX5_work 303 = .ok (.ifCond .eq 7, 3) := by decide +kernel
theorem dX5_work_306 : decode cX5_work 306 = .ok (.iconst 2, 1) := by decide +kernel
theorem dX5_work_307 : decode cX5_work 307 = .ok (.goto 4, 3) := by decide +kernel
theorem dX5_work_310 : decode cX5_work 310 = .ok (.iconst 1, 1) := by decide +kernel
theorem dX5_work_311 : decode cX5_work 311 = .ok (.iastore, 1) := by decide +kernel
theorem dX5_work_312 : decode cX5_work 312 = .ok (.return_, 1) := by decide +kernel
theorem dX5_turnOf_0 : decode cX5_turnOf 0 = .ok (.iload_n 1, 1) := by decide +kernel
theorem dX5_turnOf_1 : decode cX5_turnOf 1 = .ok (.istore_n 3, 1) := by decide +kernel
theorem dX5_turnOf_2 : decode cX5_turnOf 2 = .ok (.iconst 0, 1) := by decide +kernel
theorem dX5_turnOf_3 : decode cX5_turnOf 3 = .ok (.istore 4, 2) := by decide +kernel
theorem dX5_turnOf_5 : decode cX5_turnOf 5 = .ok (.iload 4, 2) := by decide +kernel
theorem dX5_turnOf_7 : decode cX5_turnOf 7 = .ok (.iload_n 2, 1) := by decide +kernel
theorem dX5_turnOf_8 : decode cX5_turnOf 8 = .ok (.if_icmp .ge 29, 3) := by decide +kernel
theorem dX5_turnOf_11 : decode cX5_turnOf 11 = .ok (.aload_n 0, 1) := by decide +kernel
theorem dX5_turnOf_12 : decode cX5_turnOf 12 = .ok (.getfield 102, 3) := by decide +kernel
theorem dX5_turnOf_15 : decode cX5_turnOf 15 = .ok (.iload 4, 2) := by decide +kernel
theorem dX5_turnOf_17 : decode cX5_turnOf 17 = .ok (.baload, 1) := by decide +kernel
theorem dX5_turnOf_18 : decode cX5_turnOf 18 = .ok (.ifCond .ne 13, 3) := by decide +kernel
theorem dX5_turnOf_21 : decode cX5_turnOf 21 = .ok (.iload_n 3, 1) := by decide +kernel
theorem dX5_turnOf_22 : decode cX5_turnOf 22 = .ok (.ifCond .ne 6, 3) := by decide +kernel
theorem dX5_turnOf_25 : decode cX5_turnOf 25 = .ok (.iload 4, 2) := by decide +kernel
theorem dX5_turnOf_27 : decode cX5_turnOf 27 = .ok (.ireturn, 1) := by decide +kernel
theorem dX5_turnOf_28 : decode cX5_turnOf 28 = .ok (.iinc 3 (-1), 3) := by decide +kernel
theorem dX5_turnOf_31 : decode cX5_turnOf 31 = .ok (.iinc 4 1, 3) := by decide +kernel
theorem dX5_turnOf_34 : decode cX5_turnOf 34 = .ok (.goto (-29), 3) := by decide +kernel
theorem dX5_turnOf_37 : decode cX5_turnOf 37 = .ok (.iconst (-1), 1) := by decide +kernel
theorem dX5_turnOf_38 : decode cX5_turnOf 38 = .ok (.ireturn, 1) := by decide +kernel
theorem dX5_openOne_0 : decode cX5_openOne 0 = .ok (.iload_n 1, 1) := by decide +kernel
theorem dX5_openOne_1 : decode cX5_openOne 1 = .ok (.istore_n 3, 1) := by decide +kernel
theorem dX5_openOne_2 : decode cX5_openOne 2 = .ok (.iload_n 3, 1) := by decide +kernel
theorem dX5_openOne_3 : decode cX5_openOne 3 = .ok (.iload_n 2, 1) := by decide +kernel
theorem dX5_openOne_4 : decode cX5_openOne 4 = .ok (.if_icmp .ge 20, 3) := by decide +kernel
theorem dX5_openOne_7 : decode cX5_openOne 7 = .ok (.aload_n 0, 1) := by decide +kernel
theorem dX5_openOne_8 : decode cX5_openOne 8 = .ok (.getfield 53, 3) := by decide +kernel
theorem dX5_openOne_11 : decode cX5_openOne 11 = .ok (.iload_n 3, 1) := by decide +kernel
theorem dX5_openOne_12 : decode cX5_openOne 12 = .ok (.iaload, 1) := by decide +kernel
theorem dX5_openOne_13 : decode cX5_openOne 13 = .ok (.ifCond .ne 5, 3) := by decide +kernel
theorem dX5_openOne_16 : decode cX5_openOne 16 = .ok (.iload_n 3, 1) := by decide +kernel
theorem dX5_openOne_17 : decode cX5_openOne 17 = .ok (.ireturn, 1) := by decide +kernel
theorem dX5_openOne_18 : decode cX5_openOne 18 = .ok (.iinc 3 1, 3) := by decide +kernel
theorem dX5_openOne_21 : decode cX5_openOne 21 = .ok (.goto (-19), 3) := by decide +kernel
theorem dX5_openOne_24 : decode cX5_openOne 24 = .ok (.iconst (-1), 1) := by decide +kernel
theorem dX5_openOne_25 : decode cX5_openOne 25 = .ok (.ireturn, 1) := by decide +kernel
theorem dX5_take_0 : decode cX5_take 0 = .ok (.aload_n 0, 1) := by decide +kernel
theorem dX5_take_1 : decode cX5_take 1 = .ok (.getfield 56, 3) := by decide +kernel
theorem dX5_take_4 : decode cX5_take 4 = .ok (.iload_n 2, 1) := by decide +kernel
theorem dX5_take_5 : decode cX5_take 5 = .ok (.dup2, 1) := by decide +kernel
theorem dX5_take_6 : decode cX5_take 6 = .ok (.iaload, 1) := by decide +kernel
theorem dX5_take_7 : decode cX5_take 7 = .ok (.iconst 1, 1) := by decide +kernel
theorem dX5_take_8 : decode cX5_take 8 = .ok (.iadd, 1) := by decide +kernel
theorem dX5_take_9 : decode cX5_take 9 = .ok (.iastore, 1) := by decide +kernel
theorem dX5_take_10 : decode cX5_take 10 = .ok (.aload_n 0, 1) := by decide +kernel
theorem dX5_take_11 : decode cX5_take 11 = .ok (.getfield 50, 3) := by decide +kernel
theorem dX5_take_14 : decode cX5_take 14 = .ok (.iconst 2, 1) := by decide +kernel
theorem dX5_take_15 : decode cX5_take 15 = .ok (.dup2, 1) := by decide +kernel
theorem dX5_take_16 : decode cX5_take 16 = .ok (.iaload, 1) := by decide +kernel
theorem dX5_take_17 : decode cX5_take 17 = .ok (.iconst 1, 1) := by decide +kernel
theorem dX5_take_18 : decode cX5_take 18 = .ok (.iadd, 1) := by decide +kernel
theorem dX5_take_19 : decode cX5_take 19 = .ok (.iastore, 1) := by decide +kernel
theorem dX5_take_20 : decode cX5_take 20 = .ok (.aload_n 0, 1) := by decide +kernel
theorem dX5_take_21 : decode cX5_take 21 = .ok (.getfield 59, 3) := by decide +kernel
theorem dX5_take_24 : decode cX5_take 24 = .ok (.iload_n 2, 1) := by decide +kernel
theorem dX5_take_25 : decode cX5_take 25 = .ok (.aload_n 0, 1) := by decide +kernel
theorem dX5_take_26 : decode cX5_take 26 = .ok (.getfield 59, 3) := by decide +kernel
theorem dX5_take_29 : decode cX5_take 29 = .ok (.iload_n 2, 1) := by decide +kernel
theorem dX5_take_30 : decode cX5_take 30 = .ok (.iaload, 1) := by decide +kernel
theorem dX5_take_31 : decode cX5_take 31 = .ok (.ifCond .ne 7, 3) := by decide +kernel
theorem dX5_take_34 : decode cX5_take 34 = .ok (.iload_n 3, 1) := by decide +kernel
theorem dX5_take_35 : decode cX5_take 35 = .ok (.goto 9, 3) := by decide +kernel
theorem dX5_take_38 : decode cX5_take 38 = .ok (.aload_n 0, 1) := by decide +kernel
theorem dX5_take_39 : decode cX5_take 39 = .ok (.getfield 59, 3) := by decide +kernel
theorem dX5_take_42 : decode cX5_take 42 = .ok (.iload_n 2, 1) := by decide +kernel
theorem dX5_take_43 : decode cX5_take 43 = .ok (.iaload, 1) := by decide +kernel
theorem dX5_take_44 : decode cX5_take 44 = .ok (.iastore, 1) := by decide +kernel
theorem dX5_take_45 : decode cX5_take 45 = .ok (.aload_n 0, 1) := by decide +kernel
theorem dX5_take_46 : decode cX5_take 46 = .ok (.getfield 99, 3) := by decide +kernel
theorem dX5_take_49 : decode cX5_take 49 = .ok (.iload_n 1, 1) := by decide +kernel
theorem dX5_take_50 : decode cX5_take 50 = .ok (.dup2, 1) := by decide +kernel
theorem dX5_take_51 : decode cX5_take 51 = .ok (.iaload, 1) := by decide +kernel
theorem dX5_take_52 : decode cX5_take 52 = .ok (.iconst 1, 1) := by decide +kernel
theorem dX5_take_53 : decode cX5_take 53 = .ok (.iadd, 1) := by decide +kernel
theorem dX5_take_54 : decode cX5_take 54 = .ok (.iastore, 1) := by decide +kernel
theorem dX5_take_55 : decode cX5_take 55 = .ok (.aload_n 0, 1) := by decide +kernel
theorem dX5_take_56 : decode cX5_take 56 = .ok (.getfield 99, 3) := by decide +kernel
theorem dX5_take_59 : decode cX5_take 59 = .ok (.iload_n 1, 1) := by decide +kernel
theorem dX5_take_60 : decode cX5_take 60 = .ok (.iaload, 1) := by decide +kernel
theorem dX5_take_61 : decode cX5_take 61 = .ok (.aload_n 0, 1) := by decide +kernel
theorem dX5_take_62 : decode cX5_take 62 = .ok (.getfield 25, 3) := by decide +kernel
theorem dX5_take_65 : decode cX5_take 65 = .ok (.iload_n 1, 1) := by decide +kernel
theorem dX5_take_66 : decode cX5_take 66 = .ok (.iaload, 1) := by decide +kernel
theorem dX5_take_67 : decode cX5_take 67 = .ok (.if_icmp .ne 21, 3) := by decide +kernel
theorem dX5_take_70 : decode cX5_take 70 = .ok (.aload_n 0, 1) := by decide +kernel
theorem dX5_take_71 : decode cX5_take 71 = .ok (.getfield 102, 3) := by decide +kernel
theorem dX5_take_74 : decode cX5_take 74 = .ok (.iload_n 1, 1) := by decide +kernel
theorem dX5_take_75 : decode cX5_take 75 = .ok (.iconst 1, 1) := by decide +kernel
theorem dX5_take_76 : decode cX5_take 76 = .ok (.bastore, 1) := by decide +kernel
theorem dX5_take_77 : decode cX5_take 77 = .ok (.aload_n 0, 1) := by decide +kernel
theorem dX5_take_78 : decode cX5_take 78 = .ok (.getfield 50, 3) := by decide +kernel
theorem dX5_take_81 : decode cX5_take 81 = .ok (.iconst 4, 1) := by decide +kernel
theorem dX5_take_82 : decode cX5_take 82 = .ok (.dup2, 1) := by decide +kernel
theorem dX5_take_83 : decode cX5_take 83 = .ok (.iaload, 1) := by decide +kernel
theorem dX5_take_84 : decode cX5_take 84 = .ok (.iconst 1, 1) := by decide +kernel
theorem dX5_take_85 : decode cX5_take 85 = .ok (.iadd, 1) := by decide +kernel
theorem dX5_take_86 : decode cX5_take 86 = .ok (.iastore, 1) := by decide +kernel
theorem dX5_take_87 : decode cX5_take 87 = .ok (.return_, 1) := by decide +kernel
theorem dX5_take_88 : decode cX5_take 88 = .ok (.aload_n 0, 1) := by decide +kernel
theorem dX5_take_89 : decode cX5_take 89 = .ok (.getfield 53, 3) := by decide +kernel
theorem dX5_take_92 : decode cX5_take 92 = .ok (.iload_n 2, 1) := by decide +kernel
theorem dX5_take_93 : decode cX5_take 93 = .ok (.iconst 1, 1) := by decide +kernel
theorem dX5_take_94 : decode cX5_take 94 = .ok (.iastore, 1) := by decide +kernel
theorem dX5_take_95 : decode cX5_take 95 = .ok (.aload_n 0, 1) := by decide +kernel
theorem dX5_take_96 : decode cX5_take 96 = .ok (.getfield 71, 3) := by decide +kernel
theorem dX5_take_99 : decode cX5_take 99 = .ok (.iload_n 2, 1) := by decide +kernel
theorem dX5_take_100 : decode cX5_take 100 = .ok (.aload_n 0, 1) := by decide +kernel
theorem dX5_take_101 : decode cX5_take 101 = .ok (.iload_n 2, 1) := by decide +kernel
theorem dX5_take_102 : decode cX5_take 102 = .ok (.aload_n 0, 1) := by decide +kernel
theorem dX5_take_103 : decode cX5_take 103 = .ok (.getfield 13, 3) := by decide +kernel
theorem dX5_take_106 : decode cX5_take 106 = .ok (.iload_n 2, 1) := by decide +kernel
theorem dX5_take_107 : decode cX5_take 107 = .ok (.iaload, 1) := by decide +kernel
theorem dX5_take_108 : decode cX5_take 108 = .ok (.invokevirtual 128, 3) := by decide +kernel
theorem dX5_take_111 : decode cX5_take 111 = .ok (.lastore, 1) := by decide +kernel
theorem dX5_take_112 : decode cX5_take 112 = .ok (.aload_n 0, 1) := by decide +kernel
theorem dX5_take_113 : decode cX5_take 113 = .ok (.getfield 74, 3) := by decide +kernel
theorem dX5_take_116 : decode cX5_take 116 = .ok (.iload_n 2, 1) := by decide +kernel
theorem dX5_take_117 : decode cX5_take 117 = .ok (.aload_n 0, 1) := by decide +kernel
theorem dX5_take_118 : decode cX5_take 118 = .ok (.iload_n 2, 1) := by decide +kernel
theorem dX5_take_119 : decode cX5_take 119 = .ok (.aload_n 0, 1) := by decide +kernel
theorem dX5_take_120 : decode cX5_take 120 = .ok (.getfield 16, 3) := by decide +kernel
theorem dX5_take_123 : decode cX5_take 123 = .ok (.iload_n 2, 1) := by decide +kernel
theorem dX5_take_124 : decode cX5_take 124 = .ok (.iaload, 1) := by decide +kernel
theorem dX5_take_125 : decode cX5_take 125 = .ok (.invokevirtual 128, 3) := by decide +kernel
theorem dX5_take_128 : decode cX5_take 128 = .ok (.lastore, 1) := by decide +kernel
theorem dX5_take_129 : decode cX5_take 129 = .ok (.aload_n 0, 1) := by decide +kernel
theorem dX5_take_130 : decode cX5_take 130 = .ok (.getfield 93, 3) := by decide +kernel
theorem dX5_take_133 : decode cX5_take 133 = .ok (.iload_n 1, 1) := by decide +kernel
theorem dX5_take_134 : decode cX5_take 134 = .ok (.iload_n 2, 1) := by decide +kernel
theorem dX5_take_135 : decode cX5_take 135 = .ok (.iastore, 1) := by decide +kernel
theorem dX5_take_136 : decode cX5_take 136 = .ok (.aload_n 0, 1) := by decide +kernel
theorem dX5_take_137 : decode cX5_take 137 = .ok (.getfield 96, 3) := by decide +kernel
theorem dX5_take_140 : decode cX5_take 140 = .ok (.iload_n 1, 1) := by decide +kernel
theorem dX5_take_141 : decode cX5_take 141 = .ok (.iconst 0, 1) := by decide +kernel
theorem dX5_take_142 : decode cX5_take 142 = .ok (.iastore, 1) := by decide +kernel
theorem dX5_take_143 : decode cX5_take 143 = .ok (.return_, 1) := by decide +kernel
theorem dX5_step_0 : decode cX5_step 0 = .ok (.aload_n 0, 1) := by decide +kernel
theorem dX5_step_1 : decode cX5_step 1 = .ok (.getfield 93, 3) := by decide +kernel
theorem dX5_step_4 : decode cX5_step 4 = .ok (.iload_n 1, 1) := by decide +kernel
theorem dX5_step_5 : decode cX5_step 5 = .ok (.iaload, 1) := by decide +kernel
theorem dX5_step_6 : decode cX5_step 6 = .ok (.istore_n 2, 1) := by decide +kernel
theorem dX5_step_7 : decode cX5_step 7 = .ok (.aload_n 0, 1) := by decide +kernel
theorem dX5_step_8 : decode cX5_step 8 = .ok (.getfield 96, 3) := by decide +kernel
theorem dX5_step_11 : decode cX5_step 11 = .ok (.iload_n 1, 1) := by decide +kernel
theorem dX5_step_12 : decode cX5_step 12 = .ok (.dup2, 1) := by decide +kernel
theorem dX5_step_13 : decode cX5_step 13 = .ok (.iaload, 1) := by decide +kernel
theorem dX5_step_14 : decode cX5_step 14 = .ok (.iconst 1, 1) := by decide +kernel
theorem dX5_step_15 : decode cX5_step 15 = .ok (.iadd, 1) := by decide +kernel
theorem dX5_step_16 : decode cX5_step 16 = .ok (.iastore, 1) := by decide +kernel
theorem dX5_step_17 : decode cX5_step 17 = .ok (.aload_n 0, 1) := by decide +kernel
theorem dX5_step_18 : decode cX5_step 18 = .ok (.getfield 96, 3) := by decide +kernel
theorem dX5_step_21 : decode cX5_step 21 = .ok (.iload_n 1, 1) := by decide +kernel
theorem dX5_step_22 : decode cX5_step 22 = .ok (.iaload, 1) := by decide +kernel
theorem dX5_step_23 : decode cX5_step 23 = .ok (.aload_n 0, 1) := by decide +kernel
theorem dX5_step_24 : decode cX5_step 24 = .ok (.getfield 22, 3) := by decide +kernel
theorem dX5_step_27 : decode cX5_step 27 = .ok (.iload_n 2, 1) := by decide +kernel
theorem dX5_step_28 : decode cX5_step 28 = .ok (.iaload, 1) := by decide +kernel
theorem dX5_step_29 : decode cX5_step 29 = .ok (.if_icmp .ne 29, 3) := by decide +kernel
theorem dX5_step_32 : decode cX5_step 32 = .ok (.aload_n 0, 1) := by decide +kernel
theorem dX5_step_33 : decode cX5_step 33 = .ok (.getfield 53, 3) := by decide +kernel
theorem dX5_step_36 : decode cX5_step 36 = .ok (.iload_n 2, 1) := by decide +kernel
theorem dX5_step_37 : decode cX5_step 37 = .ok (.iconst 2, 1) := by decide +kernel
theorem dX5_step_38 : decode cX5_step 38 = .ok (.iastore, 1) := by decide +kernel
theorem dX5_step_39 : decode cX5_step 39 = .ok (.aload_n 0, 1) := by decide +kernel
theorem dX5_step_40 : decode cX5_step 40 = .ok (.getfield 65, 3) := by decide +kernel
theorem dX5_step_43 : decode cX5_step 43 = .ok (.iload_n 2, 1) := by decide +kernel
theorem dX5_step_44 : decode cX5_step 44 = .ok (.iload_n 1, 1) := by decide +kernel
theorem dX5_step_45 : decode cX5_step 45 = .ok (.iastore, 1) := by decide +kernel
theorem dX5_step_46 : decode cX5_step 46 = .ok (.aload_n 0, 1) := by decide +kernel
theorem dX5_step_47 : decode cX5_step 47 = .ok (.getfield 93, 3) := by decide +kernel
theorem dX5_step_50 : decode cX5_step 50 = .ok (.iload_n 1, 1) := by decide +kernel
theorem dX5_step_51 : decode cX5_step 51 = .ok (.iconst (-1), 1) := by decide +kernel
theorem dX5_step_52 : decode cX5_step 52 = .ok (.iastore, 1) := by decide +kernel
theorem dX5_step_53 : decode cX5_step 53 = .ok (.aload_n 0, 1) := by decide +kernel
theorem dX5_step_54 : decode cX5_step 54 = .ok (.iload_n 2, 1) := by decide +kernel
theorem dX5_step_55 : decode cX5_step 55 = .ok (.invokevirtual 132, 3) := by decide +kernel
theorem dX5_step_58 : decode cX5_step 58 = .ok (.return_, 1) := by decide +kernel
theorem dX5_keep_0 : decode cX5_keep 0 = .ok (.iload_n 1, 1) := by decide +kernel
theorem dX5_keep_1 : decode cX5_keep 1 = .ok (.istore 4, 2) := by decide +kernel
theorem dX5_keep_3 : decode cX5_keep 3 = .ok (.iload 4, 2) := by decide +kernel
theorem dX5_keep_5 : decode cX5_keep 5 = .ok (.iload_n 2, 1) := by decide +kernel
theorem dX5_keep_6 : decode cX5_keep 6 = .ok (.if_icmp .ge 251, 3) := by decide +kernel
theorem dX5_keep_9 : decode cX5_keep 9 = .ok (.aload_n 0, 1) := by decide +kernel
theorem dX5_keep_10 : decode cX5_keep 10 = .ok (.getfield 53, 3) := by decide +kernel
theorem dX5_keep_13 : decode cX5_keep 13 = .ok (.iload 4, 2) := by decide +kernel
theorem dX5_keep_15 : decode cX5_keep 15 = .ok (.iaload, 1) := by decide +kernel
theorem dX5_keep_16 : decode cX5_keep 16 = .ok (.iconst 2, 1) := by decide +kernel
theorem dX5_keep_17 : decode cX5_keep 17 = .ok (.if_icmp .ne 240, 3) := by decide +kernel
theorem dX5_keep_20 : decode cX5_keep 20 = .ok (.bipush 8, 2) := by decide +kernel
theorem dX5_keep_22 : decode cX5_keep 22 = .ok (.iload 4, 2) := by decide +kernel
theorem dX5_keep_24 : decode cX5_keep 24 = .ok (.imul, 1) := by decide +kernel
theorem dX5_keep_25 : decode cX5_keep 25 = .ok (.istore 5, 2) := by decide +kernel
theorem dX5_keep_27 : decode cX5_keep 27 = .ok (.aload_n 0, 1) := by decide +kernel
theorem dX5_keep_28 : decode cX5_keep 28 = .ok (.getfield 71, 3) := by decide +kernel
theorem dX5_keep_31 : decode cX5_keep 31 = .ok (.iload 4, 2) := by decide +kernel
theorem dX5_keep_33 : decode cX5_keep 33 = .ok (.laload, 1) := by decide +kernel
theorem dX5_keep_34 : decode cX5_keep 34 = .ok (.aload_n 0, 1) := by decide +kernel
theorem dX5_keep_35 : decode cX5_keep 35 = .ok (.getfield 90, 3) := by decide +kernel
theorem dX5_keep_38 : decode cX5_keep 38 = .ok (.iload 5, 2) := by decide +kernel
theorem dX5_keep_40 : decode cX5_keep 40 = .ok (.aload_n 0, 1) := by decide +kernel
theorem dX5_keep_41 : decode cX5_keep 41 = .ok (.getfield 13, 3) := by decide +kernel
theorem dX5_keep_44 : decode cX5_keep 44 = .ok (.iload 4, 2) := by decide +kernel
theorem dX5_keep_46 : decode cX5_keep 46 = .ok (.iaload, 1) := by decide +kernel
theorem dX5_keep_47 : decode cX5_keep 47 = .ok (.iadd, 1) := by decide +kernel
theorem dX5_keep_48 : decode cX5_keep 48 = .ok (.laload, 1) := by decide +kernel
theorem dX5_keep_49 : decode cX5_keep 49 = .ok (.lcmp, 1) := by decide +kernel
theorem dX5_keep_50 : decode cX5_keep 50 = .ok (.ifCond .ne 29, 3) := by decide +kernel
theorem dX5_keep_53 : decode cX5_keep 53 = .ok (.aload_n 0, 1) := by decide +kernel
theorem dX5_keep_54 : decode cX5_keep 54 = .ok (.getfield 74, 3) := by decide +kernel
theorem dX5_keep_57 : decode cX5_keep 57 = .ok (.iload 4, 2) := by decide +kernel
theorem dX5_keep_59 : decode cX5_keep 59 = .ok (.laload, 1) := by decide +kernel
theorem dX5_keep_60 : decode cX5_keep 60 = .ok (.aload_n 0, 1) := by decide +kernel
theorem dX5_keep_61 : decode cX5_keep 61 = .ok (.getfield 90, 3) := by decide +kernel
theorem dX5_keep_64 : decode cX5_keep 64 = .ok (.iload 5, 2) := by decide +kernel
theorem dX5_keep_66 : decode cX5_keep 66 = .ok (.aload_n 0, 1) := by decide +kernel
theorem dX5_keep_67 : decode cX5_keep 67 = .ok (.getfield 16, 3) := by decide +kernel
theorem dX5_keep_70 : decode cX5_keep 70 = .ok (.iload 4, 2) := by decide +kernel
theorem dX5_keep_72 : decode cX5_keep 72 = .ok (.iaload, 1) := by decide +kernel
theorem dX5_keep_73 : decode cX5_keep 73 = .ok (.iadd, 1) := by decide +kernel
theorem dX5_keep_74 : decode cX5_keep 74 = .ok (.laload, 1) := by decide +kernel
theorem dX5_keep_75 : decode cX5_keep 75 = .ok (.lcmp, 1) := by decide +kernel
theorem dX5_keep_76 : decode cX5_keep 76 = .ok (.ifCond .eq 24, 3) := by decide +kernel
theorem dX5_keep_79 : decode cX5_keep 79 = .ok (.aload_n 0, 1) := by decide +kernel
theorem dX5_keep_80 : decode cX5_keep 80 = .ok (.getfield 53, 3) := by decide +kernel
theorem dX5_keep_83 : decode cX5_keep 83 = .ok (.iload 4, 2) := by decide +kernel
theorem dX5_keep_85 : decode cX5_keep 85 = .ok (.iconst 0, 1) := by decide +kernel
theorem dX5_keep_86 : decode cX5_keep 86 = .ok (.iastore, 1) := by decide +kernel
theorem dX5_keep_87 : decode cX5_keep 87 = .ok (.aload_n 0, 1) := by decide +kernel
theorem dX5_keep_88 : decode cX5_keep 88 = .ok (.getfield 50, 3) := by decide +kernel
theorem dX5_keep_91 : decode cX5_keep 91 = .ok (.iconst 3, 1) := by decide +kernel
theorem dX5_keep_92 : decode cX5_keep 92 = .ok (.dup2, 1) := by decide +kernel
theorem dX5_keep_93 : decode cX5_keep 93 = .ok (.iaload, 1) := by decide +kernel
theorem dX5_keep_94 : decode cX5_keep 94 = .ok (.iconst 1, 1) := by decide +kernel
theorem dX5_keep_95 : decode cX5_keep 95 = .ok (.iadd, 1) := by decide +kernel
theorem dX5_keep_96 : decode cX5_keep 96 = .ok (.iastore, 1) := by decide +kernel
theorem dX5_keep_97 : decode cX5_keep 97 = .ok (.iload 4, 2) := by decide +kernel
theorem dX5_keep_99 : decode cX5_keep 99 = .ok (.ireturn, 1) := by decide +kernel
theorem dX5_keep_100 : decode cX5_keep 100 = .ok (.iconst 0, 1) := by decide +kernel
theorem dX5_keep_101 : decode cX5_keep 101 = .ok (.istore 6, 2) := by decide +kernel
theorem dX5_keep_103 : decode cX5_keep 103 = .ok (.iload 6, 2) := by decide +kernel
theorem dX5_keep_105 : decode cX5_keep 105 = .ok (.bipush 8, 2) := by decide +kernel
theorem dX5_keep_107 : decode cX5_keep 107 = .ok (.if_icmp .ge 32, 3) := by decide +kernel
theorem dX5_keep_110 : decode cX5_keep 110 = .ok (.aload_n 0, 1) := by decide +kernel
theorem dX5_keep_111 : decode cX5_keep 111 = .ok (.getfield 90, 3) := by decide +kernel
theorem dX5_keep_114 : decode cX5_keep 114 = .ok (.iload 5, 2) := by decide +kernel
theorem dX5_keep_116 : decode cX5_keep 116 = .ok (.bipush 8, 2) := by decide +kernel
theorem dX5_keep_118 : decode cX5_keep 118 = .ok (.iadd, 1) := by decide +kernel
theorem dX5_keep_119 : decode cX5_keep 119 = .ok (.iload 6, 2) := by decide +kernel
theorem dX5_keep_121 : decode cX5_keep 121 = .ok (.iadd, 1) := by decide +kernel
theorem dX5_keep_122 : decode cX5_keep 122 = .ok (.aload_n 0, 1) := by decide +kernel
theorem dX5_keep_123 : decode cX5_keep 123 = .ok (.getfield 90, 3) := by decide +kernel
theorem dX5_keep_126 : decode cX5_keep 126 = .ok (.iload 5, 2) := by decide +kernel
theorem dX5_keep_128 : decode cX5_keep 128 = .ok (.iload 6, 2) := by decide +kernel
theorem dX5_keep_130 : decode cX5_keep 130 = .ok (.iadd, 1) := by decide +kernel
theorem dX5_keep_131 : decode cX5_keep 131 = .ok (.laload, 1) := by decide +kernel
theorem dX5_keep_132 : decode cX5_keep 132 = .ok (.lastore, 1) := by decide +kernel
theorem dX5_keep_133 : decode cX5_keep 133 = .ok (.iinc 6 1, 3) := by decide +kernel
theorem dX5_keep_136 : decode cX5_keep 136 = .ok (.goto (-33), 3) := by decide +kernel
theorem dX5_keep_139 : decode cX5_keep 139 = .ok (.aload_n 0, 1) := by decide +kernel
theorem dX5_keep_140 : decode cX5_keep 140 = .ok (.getfield 77, 3) := by decide +kernel
theorem dX5_keep_143 : decode cX5_keep 143 = .ok (.iload 4, 2) := by decide +kernel
end
section
theorem dX5_keep_145 : decode cX5_keep 145 = .ok (.baload, 1) := by decide +kernel
theorem dX5_keep_146 : decode cX5_keep 146 = .ok (.ifCond .eq 28, 3) := by decide +kernel
theorem dX5_keep_149 : decode cX5_keep 149 = .ok (.aload_n 0, 1) := by decide +kernel
theorem dX5_keep_150 : decode cX5_keep 150 = .ok (.getfield 90, 3) := by decide +kernel
theorem dX5_keep_153 : decode cX5_keep 153 = .ok (.iload 5, 2) := by decide +kernel
theorem dX5_keep_155 : decode cX5_keep 155 = .ok (.bipush 8, 2) := by decide +kernel
theorem dX5_keep_157 : decode cX5_keep 157 = .ok (.iadd, 1) := by decide +kernel
theorem dX5_keep_158 : decode cX5_keep 158 = .ok (.aload_n 0, 1) := by decide +kernel
theorem dX5_keep_159 : decode cX5_keep 159 = .ok (.getfield 13, 3) := by decide +kernel
theorem dX5_keep_162 : decode cX5_keep 162 = .ok (.iload 4, 2) := by decide +kernel
theorem dX5_keep_164 : decode cX5_keep 164 = .ok (.iaload, 1) := by decide +kernel
theorem dX5_keep_165 : decode cX5_keep 165 = .ok (.iadd, 1) := by decide +kernel
theorem dX5_keep_166 : decode cX5_keep 166 = .ok (.aload_n 0, 1) := by decide +kernel
theorem dX5_keep_167 : decode cX5_keep 167 = .ok (.getfield 84, 3) := by decide +kernel
theorem dX5_keep_170 : decode cX5_keep 170 = .ok (.iload 4, 2) := by decide +kernel
theorem dX5_keep_172 : decode cX5_keep 172 = .ok (.laload, 1) := by decide +kernel
theorem dX5_keep_173 : decode cX5_keep 173 = .ok (.lastore, 1) := by decide +kernel
theorem dX5_keep_174 : decode cX5_keep 174 = .ok (.aload_n 0, 1) := by decide +kernel
theorem dX5_keep_175 : decode cX5_keep 175 = .ok (.getfield 81, 3) := by decide +kernel
theorem dX5_keep_178 : decode cX5_keep 178 = .ok (.iload 4, 2) := by decide +kernel
theorem dX5_keep_180 : decode cX5_keep 180 = .ok (.baload, 1) := by decide +kernel
theorem dX5_keep_181 : decode cX5_keep 181 = .ok (.ifCond .eq 28, 3) := by decide +kernel
theorem dX5_keep_184 : decode cX5_keep 184 = .ok (.aload_n 0, 1) := by decide +kernel
theorem dX5_keep_185 : decode cX5_keep 185 = .ok (.getfield 90, 3) := by decide +kernel
theorem dX5_keep_188 : decode cX5_keep 188 = .ok (.iload 5, 2) := by decide +kernel
theorem dX5_keep_190 : decode cX5_keep 190 = .ok (.bipush 8, 2) := by decide +kernel
theorem dX5_keep_192 : decode cX5_keep 192 = .ok (.iadd, 1) := by decide +kernel
theorem dX5_keep_193 : decode cX5_keep 193 = .ok (.aload_n 0, 1) := by decide +kernel
theorem dX5_keep_194 : decode cX5_keep 194 = .ok (.getfield 16, 3) := by decide +kernel
theorem dX5_keep_197 : decode cX5_keep 197 = .ok (.iload 4, 2) := by decide +kernel
theorem dX5_keep_199 : decode cX5_keep 199 = .ok (.iaload, 1) := by decide +kernel
theorem dX5_keep_200 : decode cX5_keep 200 = .ok (.iadd, 1) := by decide +kernel
theorem dX5_keep_201 : decode cX5_keep 201 = .ok (.aload_n 0, 1) := by decide +kernel
theorem dX5_keep_202 : decode cX5_keep 202 = .ok (.getfield 87, 3) := by decide +kernel
theorem dX5_keep_205 : decode cX5_keep 205 = .ok (.iload 4, 2) := by decide +kernel
theorem dX5_keep_207 : decode cX5_keep 207 = .ok (.laload, 1) := by decide +kernel
theorem dX5_keep_208 : decode cX5_keep 208 = .ok (.lastore, 1) := by decide +kernel
theorem dX5_keep_209 : decode cX5_keep 209 = .ok (.aload_n 0, 1) := by decide +kernel
theorem dX5_keep_210 : decode cX5_keep 210 = .ok (.getfield 53, 3) := by decide +kernel
theorem dX5_keep_213 : decode cX5_keep 213 = .ok (.iload 4, 2) := by decide +kernel
theorem dX5_keep_215 : decode cX5_keep 215 = .ok (.iconst 3, 1) := by decide +kernel
theorem dX5_keep_216 : decode cX5_keep 216 = .ok (.iastore, 1) := by decide +kernel
theorem dX5_keep_217 : decode cX5_keep 217 = .ok (.aload_n 0, 1) := by decide +kernel
theorem dX5_keep_218 : decode cX5_keep 218 = .ok (.getfield 62, 3) := by decide +kernel
theorem dX5_keep_221 : decode cX5_keep 221 = .ok (.iload 4, 2) := by decide +kernel
theorem dX5_keep_223 : decode cX5_keep 223 = .ok (.iload_n 3, 1) := by decide +kernel
theorem dX5_keep_224 : decode cX5_keep 224 = .ok (.iastore, 1) := by decide +kernel
theorem dX5_keep_225 : decode cX5_keep 225 = .ok (.aload_n 0, 1) := by decide +kernel
theorem dX5_keep_226 : decode cX5_keep 226 = .ok (.getfield 50, 3) := by decide +kernel
theorem dX5_keep_229 : decode cX5_keep 229 = .ok (.bipush 7, 2) := by decide +kernel
theorem dX5_keep_231 : decode cX5_keep 231 = .ok (.dup2, 1) := by decide +kernel
theorem dX5_keep_232 : decode cX5_keep 232 = .ok (.iaload, 1) := by decide +kernel
theorem dX5_keep_233 : decode cX5_keep 233 = .ok (.aload_n 0, 1) := by decide +kernel
theorem dX5_keep_234 : decode cX5_keep 234 = .ok (.getfield 68, 3) := by decide +kernel
theorem dX5_keep_237 : decode cX5_keep 237 = .ok (.iload 4, 2) := by decide +kernel
theorem dX5_keep_239 : decode cX5_keep 239 = .ok (.iaload, 1) := by decide +kernel
theorem dX5_keep_240 : decode cX5_keep 240 = .ok (.iconst 2, 1) := by decide +kernel
theorem dX5_keep_241 : decode cX5_keep 241 = .ok (.if_icmp .ne 7, 3) := by decide +kernel
theorem dX5_keep_244 : decode cX5_keep 244 = .ok (.iconst 1, 1) := by decide +kernel
theorem dX5_keep_245 : decode cX5_keep 245 = .ok (.goto 4, 3) := by decide +kernel
theorem dX5_keep_248 : decode cX5_keep 248 = .ok (.iconst 0, 1) := by decide +kernel
theorem dX5_keep_249 : decode cX5_keep 249 = .ok (.iadd, 1) := by decide +kernel
theorem dX5_keep_250 : decode cX5_keep 250 = .ok (.iastore, 1) := by decide +kernel
theorem dX5_keep_251 : decode cX5_keep 251 = .ok (.iinc 4 1, 3) := by decide +kernel
theorem dX5_keep_254 : decode cX5_keep 254 = .ok (.goto (-251), 3) := by decide +kernel
theorem dX5_keep_257 : decode cX5_keep 257 = .ok (.iload 4, 2) := by decide +kernel
theorem dX5_keep_259 : decode cX5_keep 259 = .ok (.ireturn, 1) := by decide +kernel
theorem dX5_underWay_0 : decode cX5_underWay 0 = .ok (.iconst 0, 1) := by decide +kernel
theorem dX5_underWay_1 : decode cX5_underWay 1 = .ok (.istore_n 2, 1) := by decide +kernel
theorem dX5_underWay_2 : decode cX5_underWay 2 = .ok (.iconst 0, 1) := by decide +kernel
theorem dX5_underWay_3 : decode cX5_underWay 3 = .ok (.istore_n 3, 1) := by decide +kernel
theorem dX5_underWay_4 : decode cX5_underWay 4 = .ok (.iload_n 3, 1) := by decide +kernel
theorem dX5_underWay_5 : decode cX5_underWay 5 = .ok (.iload_n 1, 1) := by decide +kernel
theorem dX5_underWay_6 : decode cX5_underWay 6 = .ok (.if_icmp .ge 27, 3) := by decide +kernel
theorem dX5_underWay_9 : decode cX5_underWay 9 = .ok (.iload_n 2, 1) := by decide +kernel
theorem dX5_underWay_10 : decode cX5_underWay 10 = .ok (.aload_n 0, 1) := by decide +kernel
theorem dX5_underWay_11 : decode cX5_underWay 11 = .ok (.getfield 53, 3) := by decide +kernel
theorem dX5_underWay_14 : decode cX5_underWay 14 = .ok (.iload_n 3, 1) := by decide +kernel
theorem dX5_underWay_15 : decode cX5_underWay 15 = .ok (.iaload, 1) := by decide +kernel
theorem dX5_underWay_16 : decode cX5_underWay 16 = .ok (.iconst 1, 1) := by decide +kernel
theorem dX5_underWay_17 : decode cX5_underWay 17 = .ok (.if_icmp .ne 7, 3) := by decide +kernel
theorem dX5_underWay_20 : decode cX5_underWay 20 = .ok (.iconst 1, 1) := by decide +kernel
theorem dX5_underWay_21 : decode cX5_underWay 21 = .ok (.goto 4, 3) := by decide +kernel
theorem dX5_underWay_24 : decode cX5_underWay 24 = .ok (.iconst 0, 1) := by decide +kernel
theorem dX5_underWay_25 : decode cX5_underWay 25 = .ok (.iadd, 1) := by decide +kernel
theorem dX5_underWay_26 : decode cX5_underWay 26 = .ok (.istore_n 2, 1) := by decide +kernel
theorem dX5_underWay_27 : decode cX5_underWay 27 = .ok (.iinc 3 1, 3) := by decide +kernel
theorem dX5_underWay_30 : decode cX5_underWay 30 = .ok (.goto (-26), 3) := by decide +kernel
theorem dX5_underWay_33 : decode cX5_underWay 33 = .ok (.iload_n 2, 1) := by decide +kernel
theorem dX5_underWay_34 : decode cX5_underWay 34 = .ok (.ireturn, 1) := by decide +kernel
theorem dX5_begin_0 : decode cX5_begin 0 = .ok (.iconst 0, 1) := by decide +kernel
theorem dX5_begin_1 : decode cX5_begin 1 = .ok (.istore_n 3, 1) := by decide +kernel
theorem dX5_begin_2 : decode cX5_begin 2 = .ok (.iload_n 3, 1) := by decide +kernel
theorem dX5_begin_3 : decode cX5_begin 3 = .ok (.bipush 8, 2) := by decide +kernel
theorem dX5_begin_5 : decode cX5_begin 5 = .ok (.if_icmp .ge 23, 3) := by decide +kernel
theorem dX5_begin_8 : decode cX5_begin 8 = .ok (.aload_n 0, 1) := by decide +kernel
theorem dX5_begin_9 : decode cX5_begin 9 = .ok (.getfield 50, 3) := by decide +kernel
theorem dX5_begin_12 : decode cX5_begin 12 = .ok (.iload_n 3, 1) := by decide +kernel
theorem dX5_begin_13 : decode cX5_begin 13 = .ok (.iconst 0, 1) := by decide +kernel
theorem dX5_begin_14 : decode cX5_begin 14 = .ok (.iastore, 1) := by decide +kernel
theorem dX5_begin_15 : decode cX5_begin 15 = .ok (.aload_n 0, 1) := by decide +kernel
theorem dX5_begin_16 : decode cX5_begin 16 = .ok (.getfield 90, 3) := by decide +kernel
theorem dX5_begin_19 : decode cX5_begin 19 = .ok (.iload_n 3, 1) := by decide +kernel
theorem dX5_begin_20 : decode cX5_begin 20 = .ok (.lconst 0, 1) := by decide +kernel
theorem dX5_begin_21 : decode cX5_begin 21 = .ok (.lastore, 1) := by decide +kernel
theorem dX5_begin_22 : decode cX5_begin 22 = .ok (.iinc 3 1, 3) := by decide +kernel
theorem dX5_begin_25 : decode cX5_begin 25 = .ok (.goto (-23), 3) := by decide +kernel
theorem dX5_begin_28 : decode cX5_begin 28 = .ok (.aload_n 0, 1) := by decide +kernel
theorem dX5_begin_29 : decode cX5_begin 29 = .ok (.getfield 50, 3) := by decide +kernel
theorem dX5_begin_32 : decode cX5_begin 32 = .ok (.iconst 0, 1) := by decide +kernel
theorem dX5_begin_33 : decode cX5_begin 33 = .ok (.iload_n 1, 1) := by decide +kernel
theorem dX5_begin_34 : decode cX5_begin 34 = .ok (.iastore, 1) := by decide +kernel
theorem dX5_begin_35 : decode cX5_begin 35 = .ok (.iconst 0, 1) := by decide +kernel
theorem dX5_begin_36 : decode cX5_begin 36 = .ok (.istore_n 3, 1) := by decide +kernel
theorem dX5_begin_37 : decode cX5_begin 37 = .ok (.iload_n 3, 1) := by decide +kernel
theorem dX5_begin_38 : decode cX5_begin 38 = .ok (.iload_n 1, 1) := by decide +kernel
theorem dX5_begin_39 : decode cX5_begin 39 = .ok (.if_icmp .ge 51, 3) := by decide +kernel
theorem dX5_begin_42 : decode cX5_begin 42 = .ok (.aload_n 0, 1) := by decide +kernel
theorem dX5_begin_43 : decode cX5_begin 43 = .ok (.getfield 53, 3) := by decide +kernel
theorem dX5_begin_46 : decode cX5_begin 46 = .ok (.iload_n 3, 1) := by decide +kernel
theorem dX5_begin_47 : decode cX5_begin 47 = .ok (.iconst 0, 1) := by decide +kernel
theorem dX5_begin_48 : decode cX5_begin 48 = .ok (.iastore, 1) := by decide +kernel
theorem dX5_begin_49 : decode cX5_begin 49 = .ok (.aload_n 0, 1) := by decide +kernel
theorem dX5_begin_50 : decode cX5_begin 50 = .ok (.getfield 56, 3) := by decide +kernel
theorem dX5_begin_53 : decode cX5_begin 53 = .ok (.iload_n 3, 1) := by decide +kernel
theorem dX5_begin_54 : decode cX5_begin 54 = .ok (.iconst 0, 1) := by decide +kernel
theorem dX5_begin_55 : decode cX5_begin 55 = .ok (.iastore, 1) := by decide +kernel
theorem dX5_begin_56 : decode cX5_begin 56 = .ok (.aload_n 0, 1) := by decide +kernel
theorem dX5_begin_57 : decode cX5_begin 57 = .ok (.getfield 59, 3) := by decide +kernel
theorem dX5_begin_60 : decode cX5_begin 60 = .ok (.iload_n 3, 1) := by decide +kernel
theorem dX5_begin_61 : decode cX5_begin 61 = .ok (.iconst 0, 1) := by decide +kernel
theorem dX5_begin_62 : decode cX5_begin 62 = .ok (.iastore, 1) := by decide +kernel
theorem dX5_begin_63 : decode cX5_begin 63 = .ok (.aload_n 0, 1) := by decide +kernel
theorem dX5_begin_64 : decode cX5_begin 64 = .ok (.getfield 62, 3) := by decide +kernel
theorem dX5_begin_67 : decode cX5_begin 67 = .ok (.iload_n 3, 1) := by decide +kernel
theorem dX5_begin_68 : decode cX5_begin 68 = .ok (.iconst 0, 1) := by decide +kernel
theorem dX5_begin_69 : decode cX5_begin 69 = .ok (.iastore, 1) := by decide +kernel
theorem dX5_begin_70 : decode cX5_begin 70 = .ok (.aload_n 0, 1) := by decide +kernel
theorem dX5_begin_71 : decode cX5_begin 71 = .ok (.getfield 65, 3) := by decide +kernel
theorem dX5_begin_74 : decode cX5_begin 74 = .ok (.iload_n 3, 1) := by decide +kernel
theorem dX5_begin_75 : decode cX5_begin 75 = .ok (.iconst (-1), 1) := by decide +kernel
theorem dX5_begin_76 : decode cX5_begin 76 = .ok (.iastore, 1) := by decide +kernel
theorem dX5_begin_77 : decode cX5_begin 77 = .ok (.aload_n 0, 1) := by decide +kernel
theorem dX5_begin_78 : decode cX5_begin 78 = .ok (.getfield 68, 3) := by decide +kernel
theorem dX5_begin_81 : decode cX5_begin 81 = .ok (.iload_n 3, 1) := by decide +kernel
theorem dX5_begin_82 : decode cX5_begin 82 = .ok (.iconst 0, 1) := by decide +kernel
theorem dX5_begin_83 : decode cX5_begin 83 = .ok (.iastore, 1) := by decide +kernel
theorem dX5_begin_84 : decode cX5_begin 84 = .ok (.iinc 3 1, 3) := by decide +kernel
theorem dX5_begin_87 : decode cX5_begin 87 = .ok (.goto (-50), 3) := by decide +kernel
theorem dX5_begin_90 : decode cX5_begin 90 = .ok (.iconst 0, 1) := by decide +kernel
theorem dX5_begin_91 : decode cX5_begin 91 = .ok (.istore_n 3, 1) := by decide +kernel
theorem dX5_begin_92 : decode cX5_begin 92 = .ok (.iload_n 3, 1) := by decide +kernel
theorem dX5_begin_93 : decode cX5_begin 93 = .ok (.iload_n 2, 1) := by decide +kernel
theorem dX5_begin_94 : decode cX5_begin 94 = .ok (.if_icmp .ge 30, 3) := by decide +kernel
theorem dX5_begin_97 : decode cX5_begin 97 = .ok (.aload_n 0, 1) := by decide +kernel
theorem dX5_begin_98 : decode cX5_begin 98 = .ok (.getfield 93, 3) := by decide +kernel
theorem dX5_begin_101 : decode cX5_begin 101 = .ok (.iload_n 3, 1) := by decide +kernel
theorem dX5_begin_102 : decode cX5_begin 102 = .ok (.iconst (-1), 1) := by decide +kernel
theorem dX5_begin_103 : decode cX5_begin 103 = .ok (.iastore, 1) := by decide +kernel
theorem dX5_begin_104 : decode cX5_begin 104 = .ok (.aload_n 0, 1) := by decide +kernel
theorem dX5_begin_105 : decode cX5_begin 105 = .ok (.getfield 99, 3) := by decide +kernel
theorem dX5_begin_108 : decode cX5_begin 108 = .ok (.iload_n 3, 1) := by decide +kernel
theorem dX5_begin_109 : decode cX5_begin 109 = .ok (.iconst 0, 1) := by decide +kernel
theorem dX5_begin_110 : decode cX5_begin 110 = .ok (.iastore, 1) := by decide +kernel
theorem dX5_begin_111 : decode cX5_begin 111 = .ok (.aload_n 0, 1) := by decide +kernel
theorem dX5_begin_112 : decode cX5_begin 112 = .ok (.getfield 102, 3) := by decide +kernel
theorem dX5_begin_115 : decode cX5_begin 115 = .ok (.iload_n 3, 1) := by decide +kernel
theorem dX5_begin_116 : decode cX5_begin 116 = .ok (.iconst 0, 1) := by decide +kernel
theorem dX5_begin_117 : decode cX5_begin 117 = .ok (.bastore, 1) := by decide +kernel
theorem dX5_begin_118 : decode cX5_begin 118 = .ok (.iinc 3 1, 3) := by decide +kernel
theorem dX5_begin_121 : decode cX5_begin 121 = .ok (.goto (-29), 3) := by decide +kernel
theorem dX5_begin_124 : decode cX5_begin 124 = .ok (.return_, 1) := by decide +kernel
theorem dX5_goes_0 : decode cX5_goes 0 = .ok (.aload_n 0, 1) := by decide +kernel
theorem dX5_goes_1 : decode cX5_goes 1 = .ok (.iload_n 1, 1) := by decide +kernel
theorem dX5_goes_2 : decode cX5_goes 2 = .ok (.iload_n 2, 1) := by decide +kernel
theorem dX5_goes_3 : decode cX5_goes 3 = .ok (.invokevirtual 136, 3) := by decide +kernel
theorem dX5_goes_6 : decode cX5_goes 6 = .ok (.iload_n 3, 1) := by decide +kernel
theorem dX5_goes_7 : decode cX5_goes 7 = .ok (.istore 5, 2) := by decide +kernel
theorem dX5_goes_9 : decode cX5_goes 9 = .ok (.iconst 0, 1) := by decide +kernel
theorem dX5_goes_10 : decode cX5_goes 10 = .ok (.istore 6, 2) := by decide +kernel
theorem dX5_goes_12 : decode cX5_goes 12 = .ok (.iload 6, 2) := by decide +kernel
theorem dX5_goes_14 : decode cX5_goes 14 = .ok (.iload_n 1, 1) := by decide +kernel
theorem dX5_goes_15 : decode cX5_goes 15 = .ok (.if_icmp .ge 204, 3) := by decide +kernel
theorem dX5_goes_18 : decode cX5_goes 18 = .ok (.aload_n 0, 1) := by decide +kernel
theorem dX5_goes_19 : decode cX5_goes 19 = .ok (.getfield 50, 3) := by decide +kernel
theorem dX5_goes_22 : decode cX5_goes 22 = .ok (.iconst 1, 1) := by decide +kernel
theorem dX5_goes_23 : decode cX5_goes 23 = .ok (.iaload, 1) := by decide +kernel
theorem dX5_goes_24 : decode cX5_goes 24 = .ok (.sipush 30000, 3) := by decide +kernel
theorem dX5_goes_27 : decode cX5_goes 27 = .ok (.if_icmp .ne 5, 3) := by decide +kernel
theorem dX5_goes_30 : decode cX5_goes 30 = .ok (.iconst 0, 1) := by decide +kernel
theorem dX5_goes_31 : decode cX5_goes 31 = .ok (.ireturn, 1) := by decide +kernel
theorem dX5_goes_32 : decode cX5_goes 32 = .ok (.aload_n 0, 1) := by decide +kernel
theorem dX5_goes_33 : decode cX5_goes 33 = .ok (.getfield 50, 3) := by decide +kernel
theorem dX5_goes_36 : decode cX5_goes 36 = .ok (.iconst 1, 1) := by decide +kernel
theorem dX5_goes_37 : decode cX5_goes 37 = .ok (.dup2, 1) := by decide +kernel
theorem dX5_goes_38 : decode cX5_goes 38 = .ok (.iaload, 1) := by decide +kernel
theorem dX5_goes_39 : decode cX5_goes 39 = .ok (.iconst 1, 1) := by decide +kernel
theorem dX5_goes_40 : decode cX5_goes 40 = .ok (.iadd, 1) := by decide +kernel
theorem dX5_goes_41 : decode cX5_goes 41 = .ok (.iastore, 1) := by decide +kernel
theorem dX5_goes_42 : decode cX5_goes 42 = .ok (.aload_n 0, 1) := by decide +kernel
theorem dX5_goes_43 : decode cX5_goes 43 = .ok (.getfield 50, 3) := by decide +kernel
theorem dX5_goes_46 : decode cX5_goes 46 = .ok (.iconst 1, 1) := by decide +kernel
theorem dX5_goes_47 : decode cX5_goes 47 = .ok (.iaload, 1) := by decide +kernel
theorem dX5_goes_48 : decode cX5_goes 48 = .ok (.istore 7, 2) := by decide +kernel
theorem dX5_goes_50 : decode cX5_goes 50 = .ok (.iload 5, 2) := by decide +kernel
theorem dX5_goes_52 : decode cX5_goes 52 = .ok (.ldc 140, 2) := by decide +kernel
theorem dX5_goes_54 : decode cX5_goes 54 = .ok (.imul, 1) := by decide +kernel
theorem dX5_goes_55 : decode cX5_goes 55 = .ok (.sipush 12345, 3) := by decide +kernel
theorem dX5_goes_58 : decode cX5_goes 58 = .ok (.iadd, 1) := by decide +kernel
theorem dX5_goes_59 : decode cX5_goes 59 = .ok (.istore 5, 2) := by decide +kernel
theorem dX5_goes_61 : decode cX5_goes 61 = .ok (.aload_n 0, 1) := by decide +kernel
theorem dX5_goes_62 : decode cX5_goes 62 = .ok (.iload 5, 2) := by decide +kernel
theorem dX5_goes_64 : decode cX5_goes 64 = .ok (.bipush 16, 2) := by decide +kernel
theorem dX5_goes_66 : decode cX5_goes 66 = .ok (.iushr, 1) := by decide +kernel
theorem dX5_goes_67 : decode cX5_goes 67 = .ok (.iload_n 2, 1) := by decide +kernel
theorem dX5_goes_68 : decode cX5_goes 68 = .ok (.aload_n 0, 1) := by decide +kernel
theorem dX5_goes_69 : decode cX5_goes 69 = .ok (.getfield 50, 3) := by decide +kernel
theorem dX5_goes_72 : decode cX5_goes 72 = .ok (.iconst 4, 1) := by decide +kernel
theorem dX5_goes_73 : decode cX5_goes 73 = .ok (.iaload, 1) := by decide +kernel
theorem dX5_goes_74 : decode cX5_goes 74 = .ok (.isub, 1) := by decide +kernel
theorem dX5_goes_75 : decode cX5_goes 75 = .ok (.irem, 1) := by decide +kernel
theorem dX5_goes_76 : decode cX5_goes 76 = .ok (.iload_n 2, 1) := by decide +kernel
theorem dX5_goes_77 : decode cX5_goes 77 = .ok (.invokevirtual 141, 3) := by decide +kernel
theorem dX5_goes_80 : decode cX5_goes 80 = .ok (.istore 8, 2) := by decide +kernel
theorem dX5_goes_82 : decode cX5_goes 82 = .ok (.aload_n 0, 1) := by decide +kernel
theorem dX5_goes_83 : decode cX5_goes 83 = .ok (.getfield 93, 3) := by decide +kernel
theorem dX5_goes_86 : decode cX5_goes 86 = .ok (.iload 8, 2) := by decide +kernel
theorem dX5_goes_88 : decode cX5_goes 88 = .ok (.iaload, 1) := by decide +kernel
theorem dX5_goes_89 : decode cX5_goes 89 = .ok (.iconst (-1), 1) := by decide +kernel
theorem dX5_goes_90 : decode cX5_goes 90 = .ok (.if_icmp .eq 12, 3) := by decide +kernel
theorem dX5_goes_93 : decode cX5_goes 93 = .ok (.aload_n 0, 1) := by decide +kernel
theorem dX5_goes_94 : decode cX5_goes 94 = .ok (.iload 8, 2) := by decide +kernel
theorem dX5_goes_96 : decode cX5_goes 96 = .ok (.invokevirtual 145, 3) := by decide +kernel
theorem dX5_goes_99 : decode cX5_goes 99 = .ok (.goto 59, 3) := by decide +kernel
theorem dX5_goes_102 : decode cX5_goes 102 = .ok (.aload_n 0, 1) := by decide +kernel
theorem dX5_goes_103 : decode cX5_goes 103 = .ok (.iload 6, 2) := by decide +kernel
theorem dX5_goes_105 : decode cX5_goes 105 = .ok (.iload 6, 2) := by decide +kernel
theorem dX5_goes_107 : decode cX5_goes 107 = .ok (.iload 4, 2) := by decide +kernel
theorem dX5_goes_109 : decode cX5_goes 109 = .ok (.iadd, 1) := by decide +kernel
theorem dX5_goes_110 : decode cX5_goes 110 = .ok (.iload_n 1, 1) := by decide +kernel
theorem dX5_goes_111 : decode cX5_goes 111 = .ok (.if_icmp .ge 11, 3) := by decide +kernel
theorem dX5_goes_114 : decode cX5_goes 114 = .ok (.iload 6, 2) := by decide +kernel
theorem dX5_goes_116 : decode cX5_goes 116 = .ok (.iload 4, 2) := by decide +kernel
theorem dX5_goes_118 : decode cX5_goes 118 = .ok (.iadd, 1) := by decide +kernel
theorem dX5_goes_119 : decode cX5_goes 119 = .ok (.goto 4, 3) := by decide +kernel
theorem dX5_goes_122 : decode cX5_goes 122 = .ok (.iload_n 1, 1) := by decide +kernel
theorem dX5_goes_123 : decode cX5_goes 123 = .ok (.invokevirtual 148, 3) := by decide +kernel
theorem dX5_goes_126 : decode cX5_goes 126 = .ok (.istore 9, 2) := by decide +kernel
theorem dX5_goes_128 : decode cX5_goes 128 = .ok (.iload 9, 2) := by decide +kernel
theorem dX5_goes_130 : decode cX5_goes 130 = .ok (.iconst (-1), 1) := by decide +kernel
theorem dX5_goes_131 : decode cX5_goes 131 = .ok (.if_icmp .ne 17, 3) := by decide +kernel
theorem dX5_goes_134 : decode cX5_goes 134 = .ok (.aload_n 0, 1) := by decide +kernel
theorem dX5_goes_135 : decode cX5_goes 135 = .ok (.getfield 50, 3) := by decide +kernel
theorem dX5_goes_138 : decode cX5_goes 138 = .ok (.bipush 6, 2) := by decide +kernel
theorem dX5_goes_140 : decode cX5_goes 140 = .ok (.dup2, 1) := by decide +kernel
theorem dX5_goes_141 : decode cX5_goes 141 = .ok (.iaload, 1) := by decide +kernel
theorem dX5_goes_142 : decode cX5_goes 142 = .ok (.iconst 1, 1) := by decide +kernel
theorem dX5_goes_143 : decode cX5_goes 143 = .ok (.iadd, 1) := by decide +kernel
theorem dX5_goes_144 : decode cX5_goes 144 = .ok (.iastore, 1) := by decide +kernel
theorem dX5_goes_145 : decode cX5_goes 145 = .ok (.goto 13, 3) := by decide +kernel
theorem dX5_goes_148 : decode cX5_goes 148 = .ok (.aload_n 0, 1) := by decide +kernel
theorem dX5_goes_149 : decode cX5_goes 149 = .ok (.iload 8, 2) := by decide +kernel
theorem dX5_goes_151 : decode cX5_goes 151 = .ok (.iload 9, 2) := by decide +kernel
theorem dX5_goes_153 : decode cX5_goes 153 = .ok (.iload 7, 2) := by decide +kernel
theorem dX5_goes_155 : decode cX5_goes 155 = .ok (.invokevirtual 151, 3) := by decide +kernel
theorem dX5_goes_158 : decode cX5_goes 158 = .ok (.aload_n 0, 1) := by decide +kernel
theorem dX5_goes_159 : decode cX5_goes 159 = .ok (.iload 6, 2) := by decide +kernel
theorem dX5_goes_161 : decode cX5_goes 161 = .ok (.iload_n 1, 1) := by decide +kernel
theorem dX5_goes_162 : decode cX5_goes 162 = .ok (.iload 7, 2) := by decide +kernel
theorem dX5_goes_164 : decode cX5_goes 164 = .ok (.invokevirtual 155, 3) := by decide +kernel
theorem dX5_goes_167 : decode cX5_goes 167 = .ok (.istore 6, 2) := by decide +kernel
theorem dX5_goes_169 : decode cX5_goes 169 = .ok (.aload_n 0, 1) := by decide +kernel
theorem dX5_goes_170 : decode cX5_goes 170 = .ok (.iload_n 1, 1) := by decide +kernel
theorem dX5_goes_171 : decode cX5_goes 171 = .ok (.invokevirtual 159, 3) := by decide +kernel
theorem dX5_goes_174 : decode cX5_goes 174 = .ok (.istore 9, 2) := by decide +kernel
theorem dX5_goes_176 : decode cX5_goes 176 = .ok (.aload_n 0, 1) := by decide +kernel
theorem dX5_goes_177 : decode cX5_goes 177 = .ok (.getfield 50, 3) := by decide +kernel
theorem dX5_goes_180 : decode cX5_goes 180 = .ok (.iconst 5, 1) := by decide +kernel
theorem dX5_goes_181 : decode cX5_goes 181 = .ok (.iload 9, 2) := by decide +kernel
theorem dX5_goes_183 : decode cX5_goes 183 = .ok (.aload_n 0, 1) := by decide +kernel
theorem dX5_goes_184 : decode cX5_goes 184 = .ok (.getfield 50, 3) := by decide +kernel
theorem dX5_goes_187 : decode cX5_goes 187 = .ok (.iconst 5, 1) := by decide +kernel
theorem dX5_goes_188 : decode cX5_goes 188 = .ok (.iaload, 1) := by decide +kernel
theorem dX5_goes_189 : decode cX5_goes 189 = .ok (.if_icmp .le 8, 3) := by decide +kernel
theorem dX5_goes_192 : decode cX5_goes 192 = .ok (.iload 9, 2) := by decide +kernel
theorem dX5_goes_194 : decode cX5_goes 194 = .ok (.goto 9, 3) := by decide +kernel
theorem dX5_goes_197 : decode cX5_goes 197 = .ok (.aload_n 0, 1) := by decide +kernel
theorem dX5_goes_198 : decode cX5_goes 198 = .ok (.getfield 50, 3) := by decide +kernel
theorem dX5_goes_201 : decode cX5_goes 201 = .ok (.iconst 5, 1) := by decide +kernel
theorem dX5_goes_202 : decode cX5_goes 202 = .ok (.iaload, 1) := by decide +kernel
theorem dX5_goes_203 : decode cX5_goes 203 = .ok (.iastore, 1) := by decide +kernel
theorem dX5_goes_204 : decode cX5_goes 204 = .ok (.aload_n 0, 1) := by decide +kernel
theorem dX5_goes_205 : decode cX5_goes 205 = .ok (.getfield 50, 3) := by decide +kernel
theorem dX5_goes_208 : decode cX5_goes 208 = .ok (.iconst 4, 1) := by decide +kernel
theorem dX5_goes_209 : decode cX5_goes 209 = .ok (.iaload, 1) := by decide +kernel
theorem dX5_goes_210 : decode cX5_goes 210 = .ok (.iload_n 2, 1) := by decide +kernel
theorem dX5_goes_211 : decode cX5_goes 211 = .ok (.if_icmp .ne 5, 3) := by decide +kernel
theorem dX5_goes_214 : decode cX5_goes 214 = .ok (.iconst 0, 1) := by decide +kernel
theorem dX5_goes_215 : decode cX5_goes 215 = .ok (.ireturn, 1) := by decide +kernel
theorem dX5_goes_216 : decode cX5_goes 216 = .ok (.goto (-204), 3) := by decide +kernel
theorem dX5_goes_219 : decode cX5_goes 219 = .ok (.iconst 1, 1) := by decide +kernel
theorem dX5_goes_220 : decode cX5_goes 220 = .ok (.ireturn, 1) := by decide +kernel
theorem dX5_run_0 : decode cX5_run 0 = .ok (.aload_n 0, 1) := by decide +kernel
theorem dX5_run_1 : decode cX5_run 1 = .ok (.iconst 0, 1) := by decide +kernel
theorem dX5_run_2 : decode cX5_run 2 = .ok (.putfield 115, 3) := by decide +kernel
theorem dX5_run_5 : decode cX5_run 5 = .ok (.iload_n 1, 1) := by decide +kernel
theorem dX5_run_6 : decode cX5_run 6 = .ok (.iconst 0, 1) := by decide +kernel
theorem dX5_run_7 : decode cX5_run 7 = .ok (.aload_n 0, 1) := by decide +kernel
theorem dX5_run_8 : decode cX5_run 8 = .ok (.getfield 125, 3) := by decide +kernel
theorem dX5_run_11 : decode cX5_run 11 = .ok (.invokestatic 119, 3) := by decide +kernel
theorem dX5_run_14 : decode cX5_run 14 = .ok (.ifCond .eq 24, 3) := by decide +kernel
theorem dX5_run_17 : decode cX5_run 17 = .ok (.iload_n 2, 1) := by decide +kernel
theorem dX5_run_18 : decode cX5_run 18 = .ok (.iconst 1, 1) := by decide +kernel
theorem dX5_run_19 : decode cX5_run 19 = .ok (.bipush 16, 2) := by decide +kernel
theorem dX5_run_21 : decode cX5_run 21 = .ok (.invokestatic 119, 3) := by decide +kernel
theorem dX5_run_24 : decode cX5_run 24 = .ok (.ifCond .eq 14, 3) := by decide +kernel
theorem dX5_run_27 : decode cX5_run 27 = .ok (.iload 4, 2) := by decide +kernel
theorem dX5_run_29 : decode cX5_run 29 = .ok (.iconst 1, 1) := by decide +kernel
theorem dX5_run_30 : decode cX5_run 30 = .ok (.bipush 40, 2) := by decide +kernel
theorem dX5_run_32 : decode cX5_run 32 = .ok (.invokestatic 119, 3) := by decide +kernel
theorem dX5_run_35 : decode cX5_run 35 = .ok (.ifCond .ne 6, 3) := by decide +kernel
theorem dX5_run_38 : decode cX5_run 38 = .ok (.bipush (-2), 2) := by decide +kernel
theorem dX5_run_40 : decode cX5_run 40 = .ok (.ireturn, 1) := by decide +kernel
theorem dX5_run_41 : decode cX5_run 41 = .ok (.aload_n 0, 1) := by decide +kernel
theorem dX5_run_42 : decode cX5_run 42 = .ok (.iload_n 1, 1) := by decide +kernel
theorem dX5_run_43 : decode cX5_run 43 = .ok (.iload_n 2, 1) := by decide +kernel
theorem dX5_run_44 : decode cX5_run 44 = .ok (.iload_n 3, 1) := by decide +kernel
theorem dX5_run_45 : decode cX5_run 45 = .ok (.iload 4, 2) := by decide +kernel
theorem dX5_run_47 : decode cX5_run 47 = .ok (.invokevirtual 163, 3) := by decide +kernel
theorem dX5_run_50 : decode cX5_run 50 = .ok (.ifCond .ne 16, 3) := by decide +kernel
theorem dX5_run_53 : decode cX5_run 53 = .ok (.aload_n 0, 1) := by decide +kernel
theorem dX5_run_54 : decode cX5_run 54 = .ok (.dup, 1) := by decide +kernel
theorem dX5_run_55 : decode cX5_run 55 = .ok (.getfield 167, 3) := by decide +kernel
theorem dX5_run_58 : decode cX5_run 58 = .ok (.iconst 1, 1) := by decide +kernel
theorem dX5_run_59 : decode cX5_run 59 = .ok (.iadd, 1) := by decide +kernel
theorem dX5_run_60 : decode cX5_run 60 = .ok (.putfield 167, 3) := by decide +kernel
theorem dX5_run_63 : decode cX5_run 63 = .ok (.bipush (-5), 2) := by decide +kernel
theorem dX5_run_65 : decode cX5_run 65 = .ok (.ireturn, 1) := by decide +kernel
theorem dX5_run_66 : decode cX5_run 66 = .ok (.aload_n 0, 1) := by decide +kernel
theorem dX5_run_67 : decode cX5_run 67 = .ok (.dup, 1) := by decide +kernel
theorem dX5_run_68 : decode cX5_run 68 = .ok (.getfield 170, 3) := by decide +kernel
theorem dX5_run_71 : decode cX5_run 71 = .ok (.iconst 1, 1) := by decide +kernel
theorem dX5_run_72 : decode cX5_run 72 = .ok (.iadd, 1) := by decide +kernel
theorem dX5_run_73 : decode cX5_run 73 = .ok (.putfield 170, 3) := by decide +kernel
theorem dX5_run_76 : decode cX5_run 76 = .ok (.aload_n 0, 1) := by decide +kernel
theorem dX5_run_77 : decode cX5_run 77 = .ok (.iconst 1, 1) := by decide +kernel
theorem dX5_run_78 : decode cX5_run 78 = .ok (.putfield 111, 3) := by decide +kernel
theorem dX5_run_81 : decode cX5_run 81 = .ok (.iconst 0, 1) := by decide +kernel
theorem dX5_run_82 : decode cX5_run 82 = .ok (.istore 5, 2) := by decide +kernel
theorem dX5_run_84 : decode cX5_run 84 = .ok (.iload 5, 2) := by decide +kernel
theorem dX5_run_86 : decode cX5_run 86 = .ok (.bipush 8, 2) := by decide +kernel
theorem dX5_run_88 : decode cX5_run 88 = .ok (.if_icmp .ge 23, 3) := by decide +kernel
theorem dX5_run_91 : decode cX5_run 91 = .ok (.aload_n 0, 1) := by decide +kernel
theorem dX5_run_92 : decode cX5_run 92 = .ok (.getfield 28, 3) := by decide +kernel
theorem dX5_run_95 : decode cX5_run 95 = .ok (.iload 5, 2) := by decide +kernel
theorem dX5_run_97 : decode cX5_run 97 = .ok (.aload_n 0, 1) := by decide +kernel
theorem dX5_run_98 : decode cX5_run 98 = .ok (.getfield 50, 3) := by decide +kernel
theorem dX5_run_101 : decode cX5_run 101 = .ok (.iload 5, 2) := by decide +kernel
theorem dX5_run_103 : decode cX5_run 103 = .ok (.iaload, 1) := by decide +kernel
theorem dX5_run_104 : decode cX5_run 104 = .ok (.iastore, 1) := by decide +kernel
theorem dX5_run_105 : decode cX5_run 105 = .ok (.iinc 5 1, 3) := by decide +kernel
theorem dX5_run_108 : decode cX5_run 108 = .ok (.goto (-24), 3) := by decide +kernel
theorem dX5_run_111 : decode cX5_run 111 = .ok (.iconst 0, 1) := by decide +kernel
theorem dX5_run_112 : decode cX5_run 112 = .ok (.istore 5, 2) := by decide +kernel
theorem dX5_run_114 : decode cX5_run 114 = .ok (.iload 5, 2) := by decide +kernel
theorem dX5_run_116 : decode cX5_run 116 = .ok (.iload_n 1, 1) := by decide +kernel
theorem dX5_run_117 : decode cX5_run 117 = .ok (.if_icmp .ge 79, 3) := by decide +kernel
theorem dX5_run_120 : decode cX5_run 120 = .ok (.aload_n 0, 1) := by decide +kernel
theorem dX5_run_121 : decode cX5_run 121 = .ok (.getfield 31, 3) := by decide +kernel
theorem dX5_run_124 : decode cX5_run 124 = .ok (.iload 5, 2) := by decide +kernel
theorem dX5_run_126 : decode cX5_run 126 = .ok (.aload_n 0, 1) := by decide +kernel
theorem dX5_run_127 : decode cX5_run 127 = .ok (.getfield 56, 3) := by decide +kernel
theorem dX5_run_130 : decode cX5_run 130 = .ok (.iload 5, 2) := by decide +kernel
theorem dX5_run_132 : decode cX5_run 132 = .ok (.iaload, 1) := by decide +kernel
theorem dX5_run_133 : decode cX5_run 133 = .ok (.iastore, 1) := by decide +kernel
theorem dX5_run_134 : decode cX5_run 134 = .ok (.aload_n 0, 1) := by decide +kernel
theorem dX5_run_135 : decode cX5_run 135 = .ok (.getfield 34, 3) := by decide +kernel
theorem dX5_run_138 : decode cX5_run 138 = .ok (.iload 5, 2) := by decide +kernel
theorem dX5_run_140 : decode cX5_run 140 = .ok (.aload_n 0, 1) := by decide +kernel
theorem dX5_run_141 : decode cX5_run 141 = .ok (.getfield 59, 3) := by decide +kernel
theorem dX5_run_144 : decode cX5_run 144 = .ok (.iload 5, 2) := by decide +kernel
theorem dX5_run_146 : decode cX5_run 146 = .ok (.iaload, 1) := by decide +kernel
theorem dX5_run_147 : decode cX5_run 147 = .ok (.iastore, 1) := by decide +kernel
theorem dX5_run_148 : decode cX5_run 148 = .ok (.aload_n 0, 1) := by decide +kernel
theorem dX5_run_149 : decode cX5_run 149 = .ok (.getfield 37, 3) := by decide +kernel
theorem dX5_run_152 : decode cX5_run 152 = .ok (.iload 5, 2) := by decide +kernel
theorem dX5_run_154 : decode cX5_run 154 = .ok (.aload_n 0, 1) := by decide +kernel
theorem dX5_run_155 : decode cX5_run 155 = .ok (.getfield 62, 3) := by decide +kernel
theorem dX5_run_158 : decode cX5_run 158 = .ok (.iload 5, 2) := by decide +kernel
theorem dX5_run_160 : decode cX5_run 160 = .ok (.iaload, 1) := by decide +kernel
theorem dX5_run_161 : decode cX5_run 161 = .ok (.iastore, 1) := by decide +kernel
theorem dX5_run_162 : decode cX5_run 162 = .ok (.aload_n 0, 1) := by decide +kernel
theorem dX5_run_163 : decode cX5_run 163 = .ok (.getfield 40, 3) := by decide +kernel
theorem dX5_run_166 : decode cX5_run 166 = .ok (.iload 5, 2) := by decide +kernel
theorem dX5_run_168 : decode cX5_run 168 = .ok (.aload_n 0, 1) := by decide +kernel
theorem dX5_run_169 : decode cX5_run 169 = .ok (.getfield 65, 3) := by decide +kernel
theorem dX5_run_172 : decode cX5_run 172 = .ok (.iload 5, 2) := by decide +kernel
theorem dX5_run_174 : decode cX5_run 174 = .ok (.iaload, 1) := by decide +kernel
theorem dX5_run_175 : decode cX5_run 175 = .ok (.iastore, 1) := by decide +kernel
theorem dX5_run_176 : decode cX5_run 176 = .ok (.aload_n 0, 1) := by decide +kernel
theorem dX5_run_177 : decode cX5_run 177 = .ok (.getfield 43, 3) := by decide +kernel
theorem dX5_run_180 : decode cX5_run 180 = .ok (.iload 5, 2) := by decide +kernel
theorem dX5_run_182 : decode cX5_run 182 = .ok (.aload_n 0, 1) := by decide +kernel
theorem dX5_run_183 : decode cX5_run 183 = .ok (.getfield 68, 3) := by decide +kernel
theorem dX5_run_186 : decode cX5_run 186 = .ok (.iload 5, 2) := by decide +kernel
theorem dX5_run_188 : decode cX5_run 188 = .ok (.iaload, 1) := by decide +kernel
theorem dX5_run_189 : decode cX5_run 189 = .ok (.iastore, 1) := by decide +kernel
theorem dX5_run_190 : decode cX5_run 190 = .ok (.iinc 5 1, 3) := by decide +kernel
theorem dX5_run_193 : decode cX5_run 193 = .ok (.goto (-79), 3) := by decide +kernel
theorem dX5_run_196 : decode cX5_run 196 = .ok (.iconst 0, 1) := by decide +kernel
theorem dX5_run_197 : decode cX5_run 197 = .ok (.istore 5, 2) := by decide +kernel
theorem dX5_run_199 : decode cX5_run 199 = .ok (.iload 5, 2) := by decide +kernel
theorem dX5_run_201 : decode cX5_run 201 = .ok (.bipush 8, 2) := by decide +kernel
theorem dX5_run_203 : decode cX5_run 203 = .ok (.iload_n 1, 1) := by decide +kernel
theorem dX5_run_204 : decode cX5_run 204 = .ok (.imul, 1) := by decide +kernel
theorem dX5_run_205 : decode cX5_run 205 = .ok (.bipush 8, 2) := by decide +kernel
theorem dX5_run_207 : decode cX5_run 207 = .ok (.iadd, 1) := by decide +kernel
theorem dX5_run_208 : decode cX5_run 208 = .ok (.if_icmp .ge 23, 3) := by decide +kernel
theorem dX5_run_211 : decode cX5_run 211 = .ok (.aload_n 0, 1) := by decide +kernel
theorem dX5_run_212 : decode cX5_run 212 = .ok (.getfield 46, 3) := by decide +kernel
theorem dX5_run_215 : decode cX5_run 215 = .ok (.iload 5, 2) := by decide +kernel
theorem dX5_run_217 : decode cX5_run 217 = .ok (.aload_n 0, 1) := by decide +kernel
theorem dX5_run_218 : decode cX5_run 218 = .ok (.getfield 90, 3) := by decide +kernel
theorem dX5_run_221 : decode cX5_run 221 = .ok (.iload 5, 2) := by decide +kernel
theorem dX5_run_223 : decode cX5_run 223 = .ok (.laload, 1) := by decide +kernel
theorem dX5_run_224 : decode cX5_run 224 = .ok (.lastore, 1) := by decide +kernel
theorem dX5_run_225 : decode cX5_run 225 = .ok (.iinc 5 1, 3) := by decide +kernel
theorem dX5_run_228 : decode cX5_run 228 = .ok (.goto (-29), 3) := by decide +kernel
theorem dX5_run_231 : decode cX5_run 231 = .ok (.aload_n 0, 1) := by decide +kernel
theorem dX5_run_232 : decode cX5_run 232 = .ok (.getfield 28, 3) := by decide +kernel
theorem dX5_run_235 : decode cX5_run 235 = .ok (.iconst 1, 1) := by decide +kernel
theorem dX5_run_236 : decode cX5_run 236 = .ok (.iaload, 1) := by decide +kernel
theorem dX5_run_237 : decode cX5_run 237 = .ok (.ireturn, 1) := by decide +kernel
theorem dX5_isOfRun_0 : decode cX5_isOfRun 0 = .ok (.aload_n 0, 1) := by decide +kernel
theorem dX5_isOfRun_1 : decode cX5_isOfRun 1 = .ok (.getfield 111, 3) := by decide +kernel
theorem dX5_isOfRun_4 : decode cX5_isOfRun 4 = .ok (.ifCond .eq 17, 3) := by decide +kernel
theorem dX5_isOfRun_7 : decode cX5_isOfRun 7 = .ok (.iload_n 1, 1) := by decide +kernel
theorem dX5_isOfRun_8 : decode cX5_isOfRun 8 = .ok (.aload_n 0, 1) := by decide +kernel
theorem dX5_isOfRun_9 : decode cX5_isOfRun 9 = .ok (.getfield 28, 3) := by decide +kernel
theorem dX5_isOfRun_12 : decode cX5_isOfRun 12 = .ok (.iconst 0, 1) := by decide +kernel
theorem dX5_isOfRun_13 : decode cX5_isOfRun 13 = .ok (.iaload, 1) := by decide +kernel
theorem dX5_isOfRun_14 : decode cX5_isOfRun 14 = .ok (.if_icmp .ge 7, 3) := by decide +kernel
theorem dX5_isOfRun_17 : decode cX5_isOfRun 17 = .ok (.iconst 1, 1) := by decide +kernel
theorem dX5_isOfRun_18 : decode cX5_isOfRun 18 = .ok (.goto 4, 3) := by decide +kernel
theorem dX5_isOfRun_21 : decode cX5_isOfRun 21 = .ok (.iconst 0, 1) := by decide +kernel
theorem dX5_isOfRun_22 : decode cX5_isOfRun 22 = .ok (.ireturn, 1) := by decide +kernel
theorem dX5_amount_0 : decode cX5_amount 0 = .ok (.aload_n 0, 1) := by decide +kernel
theorem dX5_amount_1 : decode cX5_amount 1 = .ok (.iconst 0, 1) := by decide +kernel
theorem dX5_amount_2 : decode cX5_amount 2 = .ok (.putfield 115, 3) := by decide +kernel
theorem dX5_amount_5 : decode cX5_amount 5 = .ok (.aload_n 0, 1) := by decide +kernel
theorem dX5_amount_6 : decode cX5_amount 6 = .ok (.getfield 111, 3) := by decide +kernel
theorem dX5_amount_9 : decode cX5_amount 9 = .ok (.ifCond .eq 32, 3) := by decide +kernel
theorem dX5_amount_12 : decode cX5_amount 12 = .ok (.iload_n 1, 1) := by decide +kernel
theorem dX5_amount_13 : decode cX5_amount 13 = .ok (.iconst 0, 1) := by decide +kernel
theorem dX5_amount_14 : decode cX5_amount 14 = .ok (.bipush 7, 2) := by decide +kernel
theorem dX5_amount_16 : decode cX5_amount 16 = .ok (.invokestatic 119, 3) := by decide +kernel
theorem dX5_amount_19 : decode cX5_amount 19 = .ok (.ifCond .eq 22, 3) := by decide +kernel
theorem dX5_amount_22 : decode cX5_amount 22 = .ok (.aload_n 0, 1) := by decide +kernel
theorem dX5_amount_23 : decode cX5_amount 23 = .ok (.getfield 46, 3) := by decide +kernel
theorem dX5_amount_26 : decode cX5_amount 26 = .ok (.bipush 8, 2) := by decide +kernel
theorem dX5_amount_28 : decode cX5_amount 28 = .ok (.aload_n 0, 1) := by decide +kernel
theorem dX5_amount_29 : decode cX5_amount 29 = .ok (.getfield 28, 3) := by decide +kernel
theorem dX5_amount_32 : decode cX5_amount 32 = .ok (.iconst 0, 1) := by decide +kernel
theorem dX5_amount_33 : decode cX5_amount 33 = .ok (.iaload, 1) := by decide +kernel
theorem dX5_amount_34 : decode cX5_amount 34 = .ok (.imul, 1) := by decide +kernel
theorem dX5_amount_35 : decode cX5_amount 35 = .ok (.iload_n 1, 1) := by decide +kernel
theorem dX5_amount_36 : decode cX5_amount 36 = .ok (.iadd, 1) := by decide +kernel
theorem dX5_amount_37 : decode cX5_amount 37 = .ok (.laload, 1) := by decide +kernel
theorem dX5_amount_38 : decode cX5_amount 38 = .ok (.goto 4, 3) := by decide +kernel
theorem dX5_amount_41 : decode cX5_amount 41 = .ok (.lconst 0, 1) := by decide +kernel
theorem dX5_amount_42 : decode cX5_amount 42 = .ok (.lreturn, 1) := by decide +kernel
theorem dX5_behind_0 : decode cX5_behind 0 = .ok (.aload_n 0, 1) := by decide +kernel
theorem dX5_behind_1 : decode cX5_behind 1 = .ok (.iconst 0, 1) := by decide +kernel
theorem dX5_behind_2 : decode cX5_behind 2 = .ok (.putfield 115, 3) := by decide +kernel
theorem dX5_behind_5 : decode cX5_behind 5 = .ok (.iload_n 1, 1) := by decide +kernel
theorem dX5_behind_6 : decode cX5_behind 6 = .ok (.iconst 0, 1) := by decide +kernel
theorem dX5_behind_7 : decode cX5_behind 7 = .ok (.aload_n 0, 1) := by decide +kernel
theorem dX5_behind_8 : decode cX5_behind 8 = .ok (.getfield 111, 3) := by decide +kernel
theorem dX5_behind_11 : decode cX5_behind 11 = .ok (.ifCond .eq 12, 3) := by decide +kernel
theorem dX5_behind_14 : decode cX5_behind 14 = .ok (.aload_n 0, 1) := by decide +kernel
theorem dX5_behind_15 : decode cX5_behind 15 = .ok (.getfield 28, 3) := by decide +kernel
theorem dX5_behind_18 : decode cX5_behind 18 = .ok (.iconst 0, 1) := by decide +kernel
theorem dX5_behind_19 : decode cX5_behind 19 = .ok (.iaload, 1) := by decide +kernel
theorem dX5_behind_20 : decode cX5_behind 20 = .ok (.goto 5, 3) := by decide +kernel
theorem dX5_behind_23 : decode cX5_behind 23 = .ok (.bipush 40, 2) := by decide +kernel
theorem dX5_behind_25 : decode cX5_behind 25 = .ok (.invokestatic 119, 3) := by decide +kernel
theorem dX5_behind_28 : decode cX5_behind 28 = .ok (.ifCond .eq 13, 3) := by decide +kernel
theorem dX5_behind_31 : decode cX5_behind 31 = .ok (.iload_n 2, 1) := by decide +kernel
theorem dX5_behind_32 : decode cX5_behind 32 = .ok (.iconst 0, 1) := by decide +kernel
theorem dX5_behind_33 : decode cX5_behind 33 = .ok (.bipush 7, 2) := by decide +kernel
theorem dX5_behind_35 : decode cX5_behind 35 = .ok (.invokestatic 119, 3) := by decide +kernel
theorem dX5_behind_38 : decode cX5_behind 38 = .ok (.ifCond .ne 7, 3) := by decide +kernel
theorem dX5_behind_41 : decode cX5_behind 41 = .ok (.ldc2_w 173, 3) := by decide +kernel
theorem dX5_behind_44 : decode cX5_behind 44 = .ok (.lreturn, 1) := by decide +kernel
theorem dX5_behind_45 : decode cX5_behind 45 = .ok (.aload_n 0, 1) := by decide +kernel
theorem dX5_behind_46 : decode cX5_behind 46 = .ok (.getfield 111, 3) := by decide +kernel
theorem dX5_behind_49 : decode cX5_behind 49 = .ok (.ifCond .eq 17, 3) := by decide +kernel
theorem dX5_behind_52 : decode cX5_behind 52 = .ok (.aload_n 0, 1) := by decide +kernel
theorem dX5_behind_53 : decode cX5_behind 53 = .ok (.getfield 46, 3) := by decide +kernel
theorem dX5_behind_56 : decode cX5_behind 56 = .ok (.bipush 8, 2) := by decide +kernel
theorem dX5_behind_58 : decode cX5_behind 58 = .ok (.iload_n 1, 1) := by decide +kernel
theorem dX5_behind_59 : decode cX5_behind 59 = .ok (.imul, 1) := by decide +kernel
theorem dX5_behind_60 : decode cX5_behind 60 = .ok (.iload_n 2, 1) := by decide +kernel
theorem dX5_behind_61 : decode cX5_behind 61 = .ok (.iadd, 1) := by decide +kernel
theorem dX5_behind_62 : decode cX5_behind 62 = .ok (.laload, 1) := by decide +kernel
theorem dX5_behind_63 : decode cX5_behind 63 = .ok (.goto 6, 3) := by decide +kernel
theorem dX5_behind_66 : decode cX5_behind 66 = .ok (.ldc2_w 175, 3) := by decide +kernel
theorem dX5_behind_69 : decode cX5_behind 69 = .ok (.lreturn, 1) := by decide +kernel
theorem dX5_outcome_0 : decode cX5_outcome 0 = .ok (.aload_n 0, 1) := by decide +kernel
theorem dX5_outcome_1 : decode cX5_outcome 1 = .ok (.iconst 0, 1) := by decide +kernel
theorem dX5_outcome_2 : decode cX5_outcome 2 = .ok (.putfield 115, 3) := by decide +kernel
theorem dX5_outcome_5 : decode cX5_outcome 5 = .ok (.iload_n 1, 1) := by decide +kernel
theorem dX5_outcome_6 : decode cX5_outcome 6 = .ok (.iconst 0, 1) := by decide +kernel
theorem dX5_outcome_7 : decode cX5_outcome 7 = .ok (.aload_n 0, 1) := by decide +kernel
theorem dX5_outcome_8 : decode cX5_outcome 8 = .ok (.getfield 125, 3) := by decide +kernel
theorem dX5_outcome_11 : decode cX5_outcome 11 = .ok (.iconst 1, 1) := by decide +kernel
theorem dX5_outcome_12 : decode cX5_outcome 12 = .ok (.isub, 1) := by decide +kernel
theorem dX5_outcome_13 : decode cX5_outcome 13 = .ok (.invokestatic 119, 3) := by decide +kernel
theorem dX5_outcome_16 : decode cX5_outcome 16 = .ok (.ifCond .ne 8, 3) := by decide +kernel
theorem dX5_outcome_19 : decode cX5_outcome 19 = .ok (.bipush (-2), 2) := by decide +kernel
theorem dX5_outcome_21 : decode cX5_outcome 21 = .ok (.goto 21, 3) := by decide +kernel
theorem dX5_outcome_24 : decode cX5_outcome 24 = .ok (.aload_n 0, 1) := by decide +kernel
theorem dX5_outcome_25 : decode cX5_outcome 25 = .ok (.iload_n 1, 1) := by decide +kernel
theorem dX5_outcome_26 : decode cX5_outcome 26 = .ok (.invokevirtual 177, 3) := by decide +kernel
theorem dX5_outcome_29 : decode cX5_outcome 29 = .ok (.ifCond .eq 12, 3) := by decide +kernel
theorem dX5_outcome_32 : decode cX5_outcome 32 = .ok (.aload_n 0, 1) := by decide +kernel
theorem dX5_outcome_33 : decode cX5_outcome 33 = .ok (.getfield 43, 3) := by decide +kernel
theorem dX5_outcome_36 : decode cX5_outcome 36 = .ok (.iload_n 1, 1) := by decide +kernel
theorem dX5_outcome_37 : decode cX5_outcome 37 = .ok (.iaload, 1) := by decide +kernel
theorem dX5_outcome_38 : decode cX5_outcome 38 = .ok (.goto 4, 3) := by decide +kernel
theorem dX5_outcome_41 : decode cX5_outcome 41 = .ok (.iconst 0, 1) := by decide +kernel
theorem dX5_outcome_42 : decode cX5_outcome 42 = .ok (.ireturn, 1) := by decide +kernel
theorem dX5_of_0 : decode cX5_of 0 = .ok (.aload_n 0, 1) := by decide +kernel
theorem dX5_of_1 : decode cX5_of 1 = .ok (.iconst 0, 1) := by decide +kernel
theorem dX5_of_2 : decode cX5_of 2 = .ok (.putfield 115, 3) := by decide +kernel
theorem dX5_of_5 : decode cX5_of 5 = .ok (.iload_n 1, 1) := by decide +kernel
theorem dX5_of_6 : decode cX5_of 6 = .ok (.iconst 0, 1) := by decide +kernel
theorem dX5_of_7 : decode cX5_of 7 = .ok (.aload_n 0, 1) := by decide +kernel
theorem dX5_of_8 : decode cX5_of 8 = .ok (.getfield 125, 3) := by decide +kernel
theorem dX5_of_11 : decode cX5_of 11 = .ok (.iconst 1, 1) := by decide +kernel
theorem dX5_of_12 : decode cX5_of 12 = .ok (.isub, 1) := by decide +kernel
theorem dX5_of_13 : decode cX5_of 13 = .ok (.invokestatic 119, 3) := by decide +kernel
theorem dX5_of_16 : decode cX5_of 16 = .ok (.ifCond .eq 12, 3) := by decide +kernel
theorem dX5_of_19 : decode cX5_of 19 = .ok (.iload_n 2, 1) := by decide +kernel
theorem dX5_of_20 : decode cX5_of 20 = .ok (.iconst 0, 1) := by decide +kernel
theorem dX5_of_21 : decode cX5_of 21 = .ok (.iconst 3, 1) := by decide +kernel
theorem dX5_of_22 : decode cX5_of 22 = .ok (.invokestatic 119, 3) := by decide +kernel
theorem dX5_of_25 : decode cX5_of 25 = .ok (.ifCond .ne 6, 3) := by decide +kernel
theorem dX5_of_28 : decode cX5_of 28 = .ok (.bipush (-2), 2) := by decide +kernel
theorem dX5_of_30 : decode cX5_of 30 = .ok (.ireturn, 1) := by decide +kernel
theorem dX5_of_31 : decode cX5_of 31 = .ok (.aload_n 0, 1) := by decide +kernel
theorem dX5_of_32 : decode cX5_of 32 = .ok (.iload_n 1, 1) := by decide +kernel
theorem dX5_of_33 : decode cX5_of 33 = .ok (.invokevirtual 177, 3) := by decide +kernel
theorem dX5_of_36 : decode cX5_of 36 = .ok (.ifCond .ne 5, 3) := by decide +kernel
theorem dX5_of_39 : decode cX5_of 39 = .ok (.iconst (-1), 1) := by decide +kernel
theorem dX5_of_40 : decode cX5_of 40 = .ok (.ireturn, 1) := by decide +kernel
theorem dX5_of_41 : decode cX5_of 41 = .ok (.iload_n 2, 1) := by decide +kernel
theorem dX5_of_42 : decode cX5_of 42 = .ok (.ifCond .ne 12, 3) := by decide +kernel
theorem dX5_of_45 : decode cX5_of 45 = .ok (.aload_n 0, 1) := by decide +kernel
theorem dX5_of_46 : decode cX5_of 46 = .ok (.getfield 31, 3) := by decide +kernel
theorem dX5_of_49 : decode cX5_of 49 = .ok (.iload_n 1, 1) := by decide +kernel
theorem dX5_of_50 : decode cX5_of 50 = .ok (.iaload, 1) := by decide +kernel
theorem dX5_of_51 : decode cX5_of 51 = .ok (.goto 37, 3) := by decide +kernel
theorem dX5_of_54 : decode cX5_of 54 = .ok (.iload_n 2, 1) := by decide +kernel
theorem dX5_of_55 : decode cX5_of 55 = .ok (.iconst 1, 1) := by decide +kernel
theorem dX5_of_56 : decode cX5_of 56 = .ok (.if_icmp .ne 12, 3) := by decide +kernel
theorem dX5_of_59 : decode cX5_of 59 = .ok (.aload_n 0, 1) := by decide +kernel
theorem dX5_of_60 : decode cX5_of 60 = .ok (.getfield 34, 3) := by decide +kernel
theorem dX5_of_63 : decode cX5_of 63 = .ok (.iload_n 1, 1) := by decide +kernel
theorem dX5_of_64 : decode cX5_of 64 = .ok (.iaload, 1) := by decide +kernel
theorem dX5_of_65 : decode cX5_of 65 = .ok (.goto 23, 3) := by decide +kernel
theorem dX5_of_68 : decode cX5_of 68 = .ok (.iload_n 2, 1) := by decide +kernel
theorem dX5_of_69 : decode cX5_of 69 = .ok (.iconst 2, 1) := by decide +kernel
theorem dX5_of_70 : decode cX5_of 70 = .ok (.if_icmp .ne 12, 3) := by decide +kernel
theorem dX5_of_73 : decode cX5_of 73 = .ok (.aload_n 0, 1) := by decide +kernel
theorem dX5_of_74 : decode cX5_of 74 = .ok (.getfield 37, 3) := by decide +kernel
theorem dX5_of_77 : decode cX5_of 77 = .ok (.iload_n 1, 1) := by decide +kernel
theorem dX5_of_78 : decode cX5_of 78 = .ok (.iaload, 1) := by decide +kernel
theorem dX5_of_79 : decode cX5_of 79 = .ok (.goto 9, 3) := by decide +kernel
theorem dX5_of_82 : decode cX5_of 82 = .ok (.aload_n 0, 1) := by decide +kernel
theorem dX5_of_83 : decode cX5_of 83 = .ok (.getfield 40, 3) := by decide +kernel
theorem dX5_of_86 : decode cX5_of 86 = .ok (.iload_n 1, 1) := by decide +kernel
theorem dX5_of_87 : decode cX5_of 87 = .ok (.iaload, 1) := by decide +kernel
theorem dX5_of_88 : decode cX5_of 88 = .ok (.ireturn, 1) := by decide +kernel
theorem dX5_told_0 : decode cX5_told 0 = .ok (.aload_n 0, 1) := by decide +kernel
theorem dX5_told_1 : decode cX5_told 1 = .ok (.iconst 0, 1) := by decide +kernel
theorem dX5_told_2 : decode cX5_told 2 = .ok (.putfield 115, 3) := by decide +kernel
theorem dX5_told_5 : decode cX5_told 5 = .ok (.iload_n 1, 1) := by decide +kernel
theorem dX5_told_6 : decode cX5_told 6 = .ok (.iconst 0, 1) := by decide +kernel
theorem dX5_told_7 : decode cX5_told 7 = .ok (.bipush 7, 2) := by decide +kernel
theorem dX5_told_9 : decode cX5_told 9 = .ok (.invokestatic 119, 3) := by decide +kernel
theorem dX5_told_12 : decode cX5_told 12 = .ok (.ifCond .ne 8, 3) := by decide +kernel
theorem dX5_told_15 : decode cX5_told 15 = .ok (.bipush (-2), 2) := by decide +kernel
theorem dX5_told_17 : decode cX5_told 17 = .ok (.goto 21, 3) := by decide +kernel
theorem dX5_told_20 : decode cX5_told 20 = .ok (.aload_n 0, 1) := by decide +kernel
theorem dX5_told_21 : decode cX5_told 21 = .ok (.getfield 111, 3) := by decide +kernel
theorem dX5_told_24 : decode cX5_told 24 = .ok (.ifCond .ne 8, 3) := by decide +kernel
theorem dX5_told_27 : decode cX5_told 27 = .ok (.bipush (-3), 2) := by decide +kernel
theorem dX5_told_29 : decode cX5_told 29 = .ok (.goto 9, 3) := by decide +kernel
theorem dX5_told_32 : decode cX5_told 32 = .ok (.aload_n 0, 1) := by decide +kernel
theorem dX5_told_33 : decode cX5_told 33 = .ok (.getfield 28, 3) := by decide +kernel
theorem dX5_told_36 : decode cX5_told 36 = .ok (.iload_n 1, 1) := by decide +kernel
theorem dX5_told_37 : decode cX5_told 37 = .ok (.iaload, 1) := by decide +kernel
theorem dX5_told_38 : decode cX5_told 38 = .ok (.ireturn, 1) := by decide +kernel
theorem dX5_same_0 : decode cX5_same 0 = .ok (.aload_n 0, 1) := by decide +kernel
theorem dX5_same_1 : decode cX5_same 1 = .ok (.iconst 0, 1) := by decide +kernel
theorem dX5_same_2 : decode cX5_same 2 = .ok (.putfield 115, 3) := by decide +kernel
theorem dX5_same_5 : decode cX5_same 5 = .ok (.iload_n 1, 1) := by decide +kernel
theorem dX5_same_6 : decode cX5_same 6 = .ok (.iconst 1, 1) := by decide +kernel
theorem dX5_same_7 : decode cX5_same 7 = .ok (.bipush 16, 2) := by decide +kernel
theorem dX5_same_9 : decode cX5_same 9 = .ok (.invokestatic 119, 3) := by decide +kernel
theorem dX5_same_12 : decode cX5_same 12 = .ok (.ifCond .eq 28, 3) := by decide +kernel
theorem dX5_same_15 : decode cX5_same 15 = .ok (.iload_n 3, 1) := by decide +kernel
theorem dX5_same_16 : decode cX5_same 16 = .ok (.iconst 1, 1) := by decide +kernel
theorem dX5_same_17 : decode cX5_same 17 = .ok (.bipush 16, 2) := by decide +kernel
theorem dX5_same_19 : decode cX5_same 19 = .ok (.invokestatic 119, 3) := by decide +kernel
theorem dX5_same_22 : decode cX5_same 22 = .ok (.ifCond .eq 18, 3) := by decide +kernel
theorem dX5_same_25 : decode cX5_same 25 = .ok (.aload_n 0, 1) := by decide +kernel
theorem dX5_same_26 : decode cX5_same 26 = .ok (.aload_n 0, 1) := by decide +kernel
theorem dX5_same_27 : decode cX5_same 27 = .ok (.getfield 125, 3) := by decide +kernel
theorem dX5_same_30 : decode cX5_same 30 = .ok (.iload_n 1, 1) := by decide +kernel
theorem dX5_same_31 : decode cX5_same 31 = .ok (.iload_n 2, 1) := by decide +kernel
theorem dX5_same_32 : decode cX5_same 32 = .ok (.bipush 40, 2) := by decide +kernel
theorem dX5_same_34 : decode cX5_same 34 = .ok (.invokevirtual 163, 3) := by decide +kernel
theorem dX5_same_37 : decode cX5_same 37 = .ok (.ifCond .ne 5, 3) := by decide +kernel
theorem dX5_same_40 : decode cX5_same 40 = .ok (.iconst 0, 1) := by decide +kernel
theorem dX5_same_41 : decode cX5_same 41 = .ok (.ireturn, 1) := by decide +kernel
theorem dX5_same_42 : decode cX5_same 42 = .ok (.iconst 0, 1) := by decide +kernel
theorem dX5_same_43 : decode cX5_same 43 = .ok (.istore 5, 2) := by decide +kernel
theorem dX5_same_45 : decode cX5_same 45 = .ok (.iload 5, 2) := by decide +kernel
theorem dX5_same_47 : decode cX5_same 47 = .ok (.bipush 8, 2) := by decide +kernel
theorem dX5_same_49 : decode cX5_same 49 = .ok (.if_icmp .ge 31, 3) := by decide +kernel
theorem dX5_same_52 : decode cX5_same 52 = .ok (.aload_n 0, 1) := by decide +kernel
theorem dX5_same_53 : decode cX5_same 53 = .ok (.getfield 105, 3) := by decide +kernel
theorem dX5_same_56 : decode cX5_same 56 = .ok (.iload 5, 2) := by decide +kernel
theorem dX5_same_58 : decode cX5_same 58 = .ok (.aload_n 0, 1) := by decide +kernel
theorem dX5_same_59 : decode cX5_same 59 = .ok (.getfield 90, 3) := by decide +kernel
theorem dX5_same_62 : decode cX5_same 62 = .ok (.bipush 8, 2) := by decide +kernel
theorem dX5_same_64 : decode cX5_same 64 = .ok (.aload_n 0, 1) := by decide +kernel
theorem dX5_same_65 : decode cX5_same 65 = .ok (.getfield 125, 3) := by decide +kernel
theorem dX5_same_68 : decode cX5_same 68 = .ok (.imul, 1) := by decide +kernel
theorem dX5_same_69 : decode cX5_same 69 = .ok (.iload 5, 2) := by decide +kernel
theorem dX5_same_71 : decode cX5_same 71 = .ok (.iadd, 1) := by decide +kernel
theorem dX5_same_72 : decode cX5_same 72 = .ok (.laload, 1) := by decide +kernel
theorem dX5_same_73 : decode cX5_same 73 = .ok (.lastore, 1) := by decide +kernel
theorem dX5_same_74 : decode cX5_same 74 = .ok (.iinc 5 1, 3) := by decide +kernel
theorem dX5_same_77 : decode cX5_same 77 = .ok (.goto (-32), 3) := by decide +kernel
theorem dX5_same_80 : decode cX5_same 80 = .ok (.iconst 0, 1) := by decide +kernel
theorem dX5_same_81 : decode cX5_same 81 = .ok (.istore 5, 2) := by decide +kernel
theorem dX5_same_83 : decode cX5_same 83 = .ok (.iload 5, 2) := by decide +kernel
theorem dX5_same_85 : decode cX5_same 85 = .ok (.aload_n 0, 1) := by decide +kernel
theorem dX5_same_86 : decode cX5_same 86 = .ok (.getfield 125, 3) := by decide +kernel
theorem dX5_same_89 : decode cX5_same 89 = .ok (.if_icmp .ge 23, 3) := by decide +kernel
theorem dX5_same_92 : decode cX5_same 92 = .ok (.aload_n 0, 1) := by decide +kernel
theorem dX5_same_93 : decode cX5_same 93 = .ok (.getfield 108, 3) := by decide +kernel
theorem dX5_same_96 : decode cX5_same 96 = .ok (.iload 5, 2) := by decide +kernel
theorem dX5_same_98 : decode cX5_same 98 = .ok (.aload_n 0, 1) := by decide +kernel
theorem dX5_same_99 : decode cX5_same 99 = .ok (.getfield 68, 3) := by decide +kernel
theorem dX5_same_102 : decode cX5_same 102 = .ok (.iload 5, 2) := by decide +kernel
theorem dX5_same_104 : decode cX5_same 104 = .ok (.iaload, 1) := by decide +kernel
theorem dX5_same_105 : decode cX5_same 105 = .ok (.iastore, 1) := by decide +kernel
theorem dX5_same_106 : decode cX5_same 106 = .ok (.iinc 5 1, 3) := by decide +kernel
theorem dX5_same_109 : decode cX5_same 109 = .ok (.goto (-26), 3) := by decide +kernel
theorem dX5_same_112 : decode cX5_same 112 = .ok (.aload_n 0, 1) := by decide +kernel
theorem dX5_same_113 : decode cX5_same 113 = .ok (.aload_n 0, 1) := by decide +kernel
theorem dX5_same_114 : decode cX5_same 114 = .ok (.getfield 125, 3) := by decide +kernel
theorem dX5_same_117 : decode cX5_same 117 = .ok (.iload_n 3, 1) := by decide +kernel
theorem dX5_same_118 : decode cX5_same 118 = .ok (.iload 4, 2) := by decide +kernel
theorem dX5_same_120 : decode cX5_same 120 = .ok (.bipush 40, 2) := by decide +kernel
theorem dX5_same_122 : decode cX5_same 122 = .ok (.invokevirtual 163, 3) := by decide +kernel
theorem dX5_same_125 : decode cX5_same 125 = .ok (.ifCond .ne 5, 3) := by decide +kernel
theorem dX5_same_128 : decode cX5_same 128 = .ok (.iconst 0, 1) := by decide +kernel
theorem dX5_same_129 : decode cX5_same 129 = .ok (.ireturn, 1) := by decide +kernel
theorem dX5_same_130 : decode cX5_same 130 = .ok (.iconst 1, 1) := by decide +kernel
theorem dX5_same_131 : decode cX5_same 131 = .ok (.istore 5, 2) := by decide +kernel
theorem dX5_same_133 : decode cX5_same 133 = .ok (.iconst 0, 1) := by decide +kernel
theorem dX5_same_134 : decode cX5_same 134 = .ok (.istore 6, 2) := by decide +kernel
theorem dX5_same_136 : decode cX5_same 136 = .ok (.iload 6, 2) := by decide +kernel
theorem dX5_same_138 : decode cX5_same 138 = .ok (.bipush 8, 2) := by decide +kernel
theorem dX5_same_140 : decode cX5_same 140 = .ok (.if_icmp .ge 47, 3) := by decide +kernel
theorem dX5_same_143 : decode cX5_same 143 = .ok (.iload 5, 2) := by decide +kernel
theorem dX5_same_145 : decode cX5_same 145 = .ok (.ifCond .eq 33, 3) := by decide +kernel
theorem dX5_same_148 : decode cX5_same 148 = .ok (.aload_n 0, 1) := by decide +kernel
theorem dX5_same_149 : decode cX5_same 149 = .ok (.getfield 105, 3) := by decide +kernel
theorem dX5_same_152 : decode cX5_same 152 = .ok (.iload 6, 2) := by decide +kernel
theorem dX5_same_154 : decode cX5_same 154 = .ok (.laload, 1) := by decide +kernel
theorem dX5_same_155 : decode cX5_same 155 = .ok (.aload_n 0, 1) := by decide +kernel
theorem dX5_same_156 : decode cX5_same 156 = .ok (.getfield 90, 3) := by decide +kernel
theorem dX5_same_159 : decode cX5_same 159 = .ok (.bipush 8, 2) := by decide +kernel
theorem dX5_same_161 : decode cX5_same 161 = .ok (.aload_n 0, 1) := by decide +kernel
theorem dX5_same_162 : decode cX5_same 162 = .ok (.getfield 125, 3) := by decide +kernel
theorem dX5_same_165 : decode cX5_same 165 = .ok (.imul, 1) := by decide +kernel
theorem dX5_same_166 : decode cX5_same 166 = .ok (.iload 6, 2) := by decide +kernel
theorem dX5_same_168 : decode cX5_same 168 = .ok (.iadd, 1) := by decide +kernel
theorem dX5_same_169 : decode cX5_same 169 = .ok (.laload, 1) := by decide +kernel
theorem dX5_same_170 : decode cX5_same 170 = .ok (.lcmp, 1) := by decide +kernel
theorem dX5_same_171 : decode cX5_same 171 = .ok (.ifCond .ne 7, 3) := by decide +kernel
theorem dX5_same_174 : decode cX5_same 174 = .ok (.iconst 1, 1) := by decide +kernel
theorem dX5_same_175 : decode cX5_same 175 = .ok (.goto 4, 3) := by decide +kernel
theorem dX5_same_178 : decode cX5_same 178 = .ok (.iconst 0, 1) := by decide +kernel
theorem dX5_same_179 : decode cX5_same 179 = .ok (.istore 5, 2) := by decide +kernel
theorem dX5_same_181 : decode cX5_same 181 = .ok (.iinc 6 1, 3) := by decide +kernel
theorem dX5_same_184 : decode cX5_same 184 = .ok (.goto (-48), 3) := by decide +kernel
theorem dX5_same_187 : decode cX5_same 187 = .ok (.iconst 0, 1) := by decide +kernel
theorem dX5_same_188 : decode cX5_same 188 = .ok (.istore 6, 2) := by decide +kernel
theorem dX5_same_190 : decode cX5_same 190 = .ok (.iload 6, 2) := by decide +kernel
theorem dX5_same_192 : decode cX5_same 192 = .ok (.aload_n 0, 1) := by decide +kernel
theorem dX5_same_193 : decode cX5_same 193 = .ok (.getfield 125, 3) := by decide +kernel
theorem dX5_same_196 : decode cX5_same 196 = .ok (.if_icmp .ge 38, 3) := by decide +kernel
theorem dX5_same_199 : decode cX5_same 199 = .ok (.iload 5, 2) := by decide +kernel
theorem dX5_same_201 : decode cX5_same 201 = .ok (.ifCond .eq 24, 3) := by decide +kernel
theorem dX5_same_204 : decode cX5_same 204 = .ok (.aload_n 0, 1) := by decide +kernel
theorem dX5_same_205 : decode cX5_same 205 = .ok (.getfield 108, 3) := by decide +kernel
theorem dX5_same_208 : decode cX5_same 208 = .ok (.iload 6, 2) := by decide +kernel
theorem dX5_same_210 : decode cX5_same 210 = .ok (.iaload, 1) := by decide +kernel
theorem dX5_same_211 : decode cX5_same 211 = .ok (.aload_n 0, 1) := by decide +kernel
theorem dX5_same_212 : decode cX5_same 212 = .ok (.getfield 68, 3) := by decide +kernel
theorem dX5_same_215 : decode cX5_same 215 = .ok (.iload 6, 2) := by decide +kernel
theorem dX5_same_217 : decode cX5_same 217 = .ok (.iaload, 1) := by decide +kernel
theorem dX5_same_218 : decode cX5_same 218 = .ok (.if_icmp .ne 7, 3) := by decide +kernel
theorem dX5_same_221 : decode cX5_same 221 = .ok (.iconst 1, 1) := by decide +kernel
theorem dX5_same_222 : decode cX5_same 222 = .ok (.goto 4, 3) := by decide +kernel
theorem dX5_same_225 : decode cX5_same 225 = .ok (.iconst 0, 1) := by decide +kernel
theorem dX5_same_226 : decode cX5_same 226 = .ok (.istore 5, 2) := by decide +kernel
theorem dX5_same_228 : decode cX5_same 228 = .ok (.iinc 6 1, 3) := by decide +kernel
theorem dX5_same_231 : decode cX5_same 231 = .ok (.goto (-41), 3) := by decide +kernel
theorem dX5_same_234 : decode cX5_same 234 = .ok (.iload 5, 2) := by decide +kernel
theorem dX5_same_236 : decode cX5_same 236 = .ok (.ireturn, 1) := by decide +kernel
theorem dX5_count_0 : decode cX5_count 0 = .ok (.aload_n 0, 1) := by decide +kernel
theorem dX5_count_1 : decode cX5_count 1 = .ok (.iconst 0, 1) := by decide +kernel
theorem dX5_count_2 : decode cX5_count 2 = .ok (.putfield 115, 3) := by decide +kernel
theorem dX5_count_5 : decode cX5_count 5 = .ok (.iload_n 1, 1) := by decide +kernel
theorem dX5_count_6 : decode cX5_count 6 = .ok (.ifCond .ne 10, 3) := by decide +kernel
theorem dX5_count_9 : decode cX5_count 9 = .ok (.aload_n 0, 1) := by decide +kernel
theorem dX5_count_10 : decode cX5_count 10 = .ok (.getfield 125, 3) := by decide +kernel
theorem dX5_count_13 : decode cX5_count 13 = .ok (.goto 29, 3) := by decide +kernel
theorem dX5_count_16 : decode cX5_count 16 = .ok (.iload_n 1, 1) := by decide +kernel
theorem dX5_count_17 : decode cX5_count 17 = .ok (.iconst 1, 1) := by decide +kernel
theorem dX5_count_18 : decode cX5_count 18 = .ok (.if_icmp .ne 10, 3) := by decide +kernel
theorem dX5_count_21 : decode cX5_count 21 = .ok (.aload_n 0, 1) := by decide +kernel
theorem dX5_count_22 : decode cX5_count 22 = .ok (.getfield 170, 3) := by decide +kernel
theorem dX5_count_25 : decode cX5_count 25 = .ok (.goto 17, 3) := by decide +kernel
theorem dX5_count_28 : decode cX5_count 28 = .ok (.iload_n 1, 1) := by decide +kernel
theorem dX5_count_29 : decode cX5_count 29 = .ok (.iconst 2, 1) := by decide +kernel
theorem dX5_count_30 : decode cX5_count 30 = .ok (.if_icmp .ne 10, 3) := by decide +kernel
theorem dX5_count_33 : decode cX5_count 33 = .ok (.aload_n 0, 1) := by decide +kernel
theorem dX5_count_34 : decode cX5_count 34 = .ok (.getfield 167, 3) := by decide +kernel
theorem dX5_count_37 : decode cX5_count 37 = .ok (.goto 5, 3) := by decide +kernel
theorem dX5_count_40 : decode cX5_count 40 = .ok (.bipush (-2), 2) := by decide +kernel
theorem dX5_count_42 : decode cX5_count 42 = .ok (.ireturn, 1) := by decide +kernel
end
section
set_option maxRecDepth 20000 in
theorem ggX0_enter_X4_within : GoodIn wsX0_enter wsX4_within := goodIn_r _ [9] (by decide +kernel) (by decide +kernel)
set_option maxRecDepth 20000 in
theorem gX0_enter_X4_within_n34 : GoodIn wsX0_enter (wsX4_within) := ggX0_enter_X4_within
set_option maxRecDepth 20000 in
theorem ggX2_init_X1_init : GoodIn wsX2_init wsX1_init := goodIn_r _ [14, 15, 2, 3, 16, 17, 18, 19, 40, 41, 42, 43, 44] (by decide +kernel) (by decide +kernel)
set_option maxRecDepth 20000 in
theorem gX2_init_X1_init_n11 : GoodIn wsX2_init (wsX1_init) := ggX2_init_X1_init
set_option maxRecDepth 20000 in
theorem ggX2_init_X3_init : GoodIn wsX2_init wsX3_init := goodIn_r _ [22, 23, 2, 3, 16, 24, 25, 26, 27, 28, 29, 30, 31, 32, 33, 34, 35, 36, 37, 38, 39, 58, 59, 60, 61, 62, 63, 64, 65, 66, 67, 68, 69, 70, 71] (by decide +kernel) (by decide +kernel)
set_option maxRecDepth 20000 in
theorem gX2_init_X3_init : GoodIn wsX2_init (wsX3_init) := ggX2_init_X3_init
set_option maxRecDepth 20000 in
theorem ggX2_goesThrough_X2_prepare : GoodIn wsX2_goesThrough wsX2_prepare := goodIn_r _ [16, 3, 17, 5, 2, 18, 19, 20, 7, 6, 21, 22, 23, 24, 25, 26, 27, 28, 29, 30, 31, 32, 33, 150, 151, 152, 153, 154, 155, 156, 157, 158, 159, 160, 161, 162, 168, 169, 170, 171, 172, 173, 174, 175, 176, 177, 178, 179, 180, 181] (by decide +kernel) (by decide +kernel)
set_option maxRecDepth 20000 in
theorem gX2_goesThrough_X2_prepare : GoodIn wsX2_goesThrough (wsV RX2 31 RX2 yX2_prepare wsX2_prepare) := goodIn_app (goodIn_of _ (by decide +kernel)) ggX2_goesThrough_X2_prepare
set_option maxRecDepth 20000 in
theorem ggX2_goesThrough_X1_gather : GoodIn wsX2_goesThrough wsX1_gather := goodIn_r _ [38, 39, 40, 41, 10, 42, 43, 44, 45, 46, 163, 164, 165, 166, 167] (by decide +kernel) (by decide +kernel)
set_option maxRecDepth 20000 in
theorem gX2_goesThrough_X1_gather : GoodIn wsX2_goesThrough (wsV RX2 35 RX1 yX1_gather wsX1_gather) := goodIn_app (goodIn_of _ (by decide +kernel)) ggX2_goesThrough_X1_gather
set_option maxRecDepth 20000 in
theorem ggX2_goesThrough_X1_nextInTurn : GoodIn wsX2_goesThrough wsX1_nextInTurn := goodIn_r _ [50, 39, 51, 43, 44, 163, 164, 165, 166, 167] (by decide +kernel) (by decide +kernel)
set_option maxRecDepth 20000 in
theorem gX2_goesThrough_X1_nextInTurn : GoodIn wsX2_goesThrough (wsV RX2 51 RX1 yX1_nextInTurn wsX1_nextInTurn) := goodIn_app (goodIn_of _ (by decide +kernel)) ggX2_goesThrough_X1_nextInTurn
set_option maxRecDepth 20000 in
theorem ggX2_goesThrough_X2_takeTurn : GoodIn wsX2_goesThrough wsX2_takeTurn := goodIn_r _ [55, 1, 56, 22, 7, 57, 58, 59, 60, 61, 62, 15, 63, 2, 3, 17, 64, 41, 10, 42, 21, 18, 5, 65, 66, 20, 67, 68, 69, 26, 70, 71, 9, 11, 28, 72, 73, 74, 75, 30, 31, 76, 77, 78, 37, 79, 46, 80, 81, 82, 83, 43, 44, 84, 85, 86, 87, 88, 89, 90, 91, 92, 93, 94, 95, 96, 97, 98, 99, 100, 101, 102, 103, 104, 105, 106, 107, 108, 109, 110, 111, 33, 112, 113, 114, 115, 116, 29, 117, 118, 119, 120, 121, 122, 123, 124, 125, 126, 127, 128, 129, 130, 131, 132, 133, 134, 135, 136, 137, 150, 151, 152, 153, 154, 155, 156, 157, 158, 159, 160, 161, 162, 163, 164, 165, 166, 167, 182, 183, 184, 185, 186, 187, 188, 168, 169, 170, 171, 172, 173, 174, 175, 176, 177, 178, 179, 180, 181] (by decide +kernel) (by decide +kernel)
set_option maxRecDepth 20000 in
theorem gX2_goesThrough_X2_takeTurn : GoodIn wsX2_goesThrough (wsV RX2 55 RX2 yX2_takeTurn wsX2_takeTurn) := goodIn_app (goodIn_of _ (by decide +kernel)) ggX2_goesThrough_X2_takeTurn
set_option maxRecDepth 20000 in
theorem ggX2_goesThrough_X2_keepWhatStands : GoodIn wsX2_goesThrough wsX2_keepWhatStands := goodIn_r _ [141, 2, 3, 22, 5, 19, 142, 143, 144, 26, 145, 28, 57, 58, 59, 146, 147, 148, 149, 91, 89, 92, 93, 94, 32, 95, 96, 97, 98, 99, 41, 10, 42, 100, 101, 102, 103, 104, 105, 106, 107, 150, 151, 152, 153, 154, 155, 156, 157, 158, 159, 160, 161, 162, 168, 169, 170, 171, 172, 173, 174, 175, 176, 177, 178, 179, 180, 181, 182, 183, 184, 185, 186, 187, 188] (by decide +kernel) (by decide +kernel)
set_option maxRecDepth 20000 in
theorem gX2_goesThrough_X2_keepWhatStands : GoodIn wsX2_goesThrough (wsV RX2 59 RX2 yX2_keepWhatStands wsX2_keepWhatStands) := goodIn_app (goodIn_of _ (by decide +kernel)) ggX2_goesThrough_X2_keepWhatStands
set_option maxRecDepth 20000 in
theorem ggX2_prepare_X3_openAll : GoodIn wsX2_prepare wsX3_openAll := goodIn_r _ [16, 17, 18, 19, 20, 21, 22, 36, 37, 38, 39, 40, 41, 42, 43, 44, 45, 46, 47, 48, 49] (by decide +kernel) (by decide +kernel)
set_option maxRecDepth 20000 in
theorem gX2_prepare_X3_openAll : GoodIn wsX2_prepare (wsV RX2 89 RX3 yX3_openAll wsX3_openAll) := goodIn_app (goodIn_of _ (by decide +kernel)) ggX2_prepare_X3_openAll
set_option maxRecDepth 20000 in
theorem ggX2_takeTurn_X4_within : GoodIn wsX2_takeTurn wsX4_within := goodIn_r _ [7] (by decide +kernel) (by decide +kernel)
set_option maxRecDepth 20000 in
theorem gX2_takeTurn_X4_within_n92 : GoodIn wsX2_takeTurn (wsX4_within) := ggX2_takeTurn_X4_within
set_option maxRecDepth 20000 in
theorem ggX2_takeTurn_X2_takeCall : GoodIn wsX2_takeTurn wsX2_takeCall := goodIn_r _ [12, 3, 13, 14, 15, 16, 17, 18, 19, 20, 21, 22, 1, 23, 24, 25, 2, 4, 26, 27, 28, 29, 30, 31, 32, 33, 34, 35, 36, 37, 38, 39, 40, 41, 42, 43, 44, 45, 46, 47, 48, 49, 50, 51, 52, 53, 54, 55, 56, 57, 58, 59, 60, 61, 62, 63, 64, 65, 66, 67, 68, 69, 70, 71, 72, 73, 74, 75, 76, 109, 110, 111, 112, 113, 114, 115, 116, 117, 118, 119, 120, 121, 127, 128, 129, 130, 131, 132, 133, 122, 123, 124, 125, 126, 134, 135, 136, 137, 138, 139, 140, 141, 142, 143, 144, 145, 146, 147] (by decide +kernel) (by decide +kernel)
set_option maxRecDepth 20000 in
theorem gX2_takeTurn_X2_takeCall : GoodIn wsX2_takeTurn (wsV RX2 100 RX2 yX2_takeCall wsX2_takeCall) := goodIn_app (goodIn_of _ (by decide +kernel)) ggX2_takeTurn_X2_takeCall
set_option maxRecDepth 20000 in
theorem ggX2_takeTurn_X3_doesLastStep : GoodIn wsX2_takeTurn wsX3_doesLastStep := goodIn_r _ [80, 57, 34, 81, 82, 83, 84, 29, 85, 60, 62, 58, 86, 87, 69, 71, 88, 89, 90, 91, 92, 72, 93, 94, 95, 96, 61, 63, 97, 98, 99, 100, 101, 102, 103, 104, 70, 105, 106, 107, 108, 134, 135, 136, 137, 138, 139, 140, 141, 142, 143, 144, 145, 146, 147, 127, 128, 129, 130, 131, 132, 133] (by decide +kernel) (by decide +kernel)
set_option maxRecDepth 20000 in
theorem gX2_takeTurn_X3_doesLastStep : GoodIn wsX2_takeTurn (wsV RX2 103 RX3 yX3_doesLastStep wsX3_doesLastStep) := goodIn_app (goodIn_of _ (by decide +kernel)) ggX2_takeTurn_X3_doesLastStep
set_option maxRecDepth 20000 in
theorem ggX2_takeCall_X3_leastOpen : GoodIn wsX2_takeCall wsX3_leastOpen := goodIn_r _ [22, 23, 24, 7, 25, 26, 94, 95, 96, 97, 98, 99, 100, 101, 102, 103, 104, 105, 106, 107] (by decide +kernel) (by decide +kernel)
set_option maxRecDepth 20000 in
theorem gX2_takeCall_X3_leastOpen : GoodIn wsX2_takeCall (wsV RX2 110 RX3 yX3_leastOpen wsX3_leastOpen) := goodIn_app (goodIn_of _ (by decide +kernel)) ggX2_takeCall_X3_leastOpen
set_option maxRecDepth 20000 in
theorem ggX2_takeCall_X3_noteBegun : GoodIn wsX2_takeCall wsX3_noteBegun := goodIn_r _ [30, 31, 32, 94, 95, 96, 97, 98, 99, 100, 101, 102, 103, 104, 105, 106, 107] (by decide +kernel) (by decide +kernel)
set_option maxRecDepth 20000 in
theorem gX2_takeCall_X3_noteBegun : GoodIn wsX2_takeCall (wsV RX2 113 RX3 yX3_noteBegun wsX3_noteBegun) := goodIn_app (goodIn_of _ (by decide +kernel)) ggX2_takeCall_X3_noteBegun
set_option maxRecDepth 20000 in
theorem ggX2_takeCall_X1_beginsOnceMore : GoodIn wsX2_takeCall wsX1_beginsOnceMore := goodIn_r _ [37, 38, 89, 90, 91, 92, 93] (by decide +kernel) (by decide +kernel)
set_option maxRecDepth 20000 in
theorem gX2_takeCall_X1_beginsOnceMore : GoodIn wsX2_takeCall (wsV RX2 116 RX1 yX1_beginsOnceMore wsX1_beginsOnceMore) := goodIn_app (goodIn_of _ (by decide +kernel)) ggX2_takeCall_X1_beginsOnceMore
set_option maxRecDepth 20000 in
theorem ggX2_takeCall_X1_dismiss : GoodIn wsX2_takeCall wsX1_dismiss := goodIn_r _ [42, 43, 44, 89, 90, 91, 92, 93] (by decide +kernel) (by decide +kernel)
set_option maxRecDepth 20000 in
theorem gX2_takeCall_X1_dismiss : GoodIn wsX2_takeCall (wsV RX2 125 RX1 yX1_dismiss wsX1_dismiss) := goodIn_app (goodIn_of _ (by decide +kernel)) ggX2_takeCall_X1_dismiss
set_option maxRecDepth 20000 in
theorem ggX2_takeCall_X3_setUnderWay : GoodIn wsX2_takeCall wsX3_setUnderWay := goodIn_r _ [48, 26, 49, 50, 51, 52, 53, 54, 55, 56, 57, 58, 21, 59, 60, 6, 7, 8, 61, 62, 63, 64, 65, 66, 67, 68, 94, 95, 96, 97, 98, 99, 100, 101, 102, 103, 104, 105, 106, 107, 82, 83, 84, 85, 86, 87, 88] (by decide +kernel) (by decide +kernel)
set_option maxRecDepth 20000 in
theorem gX2_takeCall_X3_setUnderWay : GoodIn wsX2_takeCall (wsV RX2 128 RX3 yX3_setUnderWay wsX3_setUnderWay) := goodIn_app (goodIn_of _ (by decide +kernel)) ggX2_takeCall_X3_setUnderWay
set_option maxRecDepth 20000 in
theorem ggX2_keepWhatStands_X3_waitsToBeKept : GoodIn wsX2_keepWhatStands wsX3_waitsToBeKept := goodIn_r _ [10, 11, 12, 13, 14, 54, 55, 56, 57, 58, 59, 60, 61, 62, 63, 64, 65, 66, 67] (by decide +kernel) (by decide +kernel)
set_option maxRecDepth 20000 in
theorem gX2_keepWhatStands_X3_waitsToBeKept : GoodIn wsX2_keepWhatStands (wsV RX2 131 RX3 yX3_waitsToBeKept wsX3_waitsToBeKept) := goodIn_app (goodIn_of _ (by decide +kernel)) ggX2_keepWhatStands_X3_waitsToBeKept
set_option maxRecDepth 20000 in
theorem ggX2_keepWhatStands_X3_settle : GoodIn wsX2_keepWhatStands wsX3_settle := goodIn_r _ [18, 19, 20, 21, 22, 23, 11, 24, 25, 26, 27, 9, 28, 29, 30, 31, 32, 33, 34, 35, 36, 37, 38, 39, 40, 54, 55, 56, 57, 58, 59, 60, 61, 62, 63, 64, 65, 66, 67, 68, 69, 70, 71, 72, 73, 74] (by decide +kernel) (by decide +kernel)
set_option maxRecDepth 20000 in
theorem gX2_keepWhatStands_X3_settle : GoodIn wsX2_keepWhatStands (wsV RX2 135 RX3 yX3_settle wsX3_settle) := goodIn_app (goodIn_of _ (by decide +kernel)) ggX2_keepWhatStands_X3_settle
set_option maxRecDepth 20000 in
theorem ggX2_leavesLike_X3_standing : GoodIn wsX2_leavesLike wsX3_standing := goodIn_r _ [8, 9, 10, 11, 12, 13, 14, 15, 16, 17, 18, 19, 20, 21, 22, 7, 23, 24, 38, 39, 40, 41, 42, 43, 44, 45, 46, 47, 48, 49, 50, 51, 52, 53, 54, 55, 56, 57, 58] (by decide +kernel) (by decide +kernel)
set_option maxRecDepth 20000 in
theorem gX2_leavesLike_X3_standing : GoodIn wsX2_leavesLike (wsV RX2 138 RX3 yX3_standing wsX3_standing) := goodIn_app (goodIn_of _ (by decide +kernel)) ggX2_leavesLike_X3_standing
set_option maxRecDepth 20000 in
theorem ggX2_total_X3_failures : GoodIn wsX2_total wsX3_failures := goodIn_r _ [13, 14, 28, 29, 30, 31, 32, 33, 34, 35, 36, 37, 38, 39, 40, 41] (by decide +kernel) (by decide +kernel)
set_option maxRecDepth 20000 in
theorem gX2_total_X3_failures : GoodIn wsX2_total (wsV RX2 145 RX3 yX3_failures wsX3_failures) := goodIn_app (goodIn_of _ (by decide +kernel)) ggX2_total_X3_failures
set_option maxRecDepth 20000 in
theorem ggX3_standing_X3_hasEnded : GoodIn wsX3_standing wsX3_hasEnded := goodIn_r _ [16, 17, 18, 19, 20, 21, 22, 23, 24, 25, 26, 27, 28, 29, 30, 31] (by decide +kernel) (by decide +kernel)
set_option maxRecDepth 20000 in
theorem gX3_standing_X3_hasEnded : GoodIn wsX3_standing (wsV RX3 63 RX3 yX3_hasEnded wsX3_hasEnded) := goodIn_app (goodIn_of _ (by decide +kernel)) ggX3_standing_X3_hasEnded
set_option maxRecDepth 20000 in
theorem ggX3_setUnderWay_X3_standing : GoodIn wsX3_setUnderWay wsX3_standing := goodIn_r _ [13, 14, 15, 16, 17, 18, 3, 6, 19, 20, 8, 21, 22, 23, 24, 12, 25, 1, 26, 27, 28, 29, 30, 31, 32, 33, 34, 35, 36, 37, 38, 39, 40, 41, 42, 43, 44, 45, 46] (by decide +kernel) (by decide +kernel)
set_option maxRecDepth 20000 in
theorem gX3_setUnderWay_X3_standing : GoodIn wsX3_setUnderWay (wsV RX3 81 RX3 yX3_standing wsX3_standing) := goodIn_app (goodIn_of _ (by decide +kernel)) ggX3_setUnderWay_X3_standing
set_option maxRecDepth 20000 in
theorem ggX3_doesLastStep_X3_work : GoodIn wsX3_doesLastStep wsX3_work := goodIn_r _ [8, 9, 10, 11, 12, 13, 14, 15, 16, 17, 18, 19, 7, 20, 21, 22, 23, 24, 25, 26, 27, 28, 29, 30, 31, 32, 33, 34, 35, 36, 37, 38, 39, 40, 41, 42, 43, 44, 45, 46, 47, 48, 49, 50, 51, 52, 53, 54, 55, 56, 57, 58, 59, 60, 61] (by decide +kernel) (by decide +kernel)
set_option maxRecDepth 20000 in
theorem gX3_doesLastStep_X3_work : GoodIn wsX3_doesLastStep (wsV RX3 85 RX3 yX3_work wsX3_work) := goodIn_app (goodIn_of _ (by decide +kernel)) ggX3_doesLastStep_X3_work
set_option maxRecDepth 20000 in
theorem ggX3_waitsToBeKept_X4_within : GoodIn wsX3_waitsToBeKept wsX4_within := goodIn_r _ [4] (by decide +kernel) (by decide +kernel)
set_option maxRecDepth 20000 in
theorem gX3_waitsToBeKept_X4_within_n89 : GoodIn wsX3_waitsToBeKept (wsX4_within) := ggX3_waitsToBeKept_X4_within
set_option maxRecDepth 20000 in
theorem ggX3_settle_X3_standing : GoodIn wsX3_settle wsX3_standing := goodIn_r _ [12, 13, 14, 15, 16, 17, 2, 3, 18, 19, 5, 20, 21, 22, 23, 11, 24, 6, 25, 26, 27, 28, 29, 30, 31, 32, 33, 34, 35, 36, 37, 38, 39, 40, 41, 42, 43, 44, 45] (by decide +kernel) (by decide +kernel)
set_option maxRecDepth 20000 in
theorem gX3_settle_X3_standing : GoodIn wsX3_settle (wsV RX3 81 RX3 yX3_standing wsX3_standing) := goodIn_app (goodIn_of _ (by decide +kernel)) ggX3_settle_X3_standing
set_option maxRecDepth 20000 in
theorem ggX3_work_X3_giveB : GoodIn wsX3_work wsX3_giveB := goodIn_r _ [13, 7, 14, 34, 35, 36, 37, 38, 39, 40, 41, 42, 43, 44, 45, 46, 47] (by decide +kernel) (by decide +kernel)
set_option maxRecDepth 20000 in
theorem gX3_work_X3_giveB : GoodIn wsX3_work (wsV RX3 99 RX3 yX3_giveB wsX3_giveB) := goodIn_app (goodIn_of _ (by decide +kernel)) ggX3_work_X3_giveB
set_option maxRecDepth 20000 in
theorem ggX3_work_X3_pay : GoodIn wsX3_work wsX3_pay := goodIn_r _ [18, 5, 3, 19, 20, 21, 22, 23, 12, 24, 25, 26, 27, 28, 6, 29, 9, 10, 11, 13, 7, 14, 34, 35, 36, 37, 38, 39, 40, 41, 42, 43, 44, 45, 46, 47, 48, 49, 50, 51, 52, 53, 54] (by decide +kernel) (by decide +kernel)
set_option maxRecDepth 20000 in
theorem gX3_work_X3_pay : GoodIn wsX3_work (wsV RX3 103 RX3 yX3_pay wsX3_pay) := goodIn_app (goodIn_of _ (by decide +kernel)) ggX3_work_X3_pay
set_option maxRecDepth 20000 in
theorem ggX3_work_X3_failUnless : GoodIn wsX3_work wsX3_failUnless := goodIn_r _ [24, 5, 34, 35, 36, 37, 38, 39, 40, 41, 42, 43, 44, 45, 46, 47] (by decide +kernel) (by decide +kernel)
set_option maxRecDepth 20000 in
theorem gX3_work_X3_failUnless : GoodIn wsX3_work (wsV RX3 107 RX3 yX3_failUnless wsX3_failUnless) := goodIn_app (goodIn_of _ (by decide +kernel)) ggX3_work_X3_failUnless
set_option maxRecDepth 20000 in
theorem ggX3_work_X3_giveA : GoodIn wsX3_work wsX3_giveA := goodIn_r _ [28, 6, 29, 34, 35, 36, 37, 38, 39, 40, 41, 42, 43, 44, 45, 46, 47] (by decide +kernel) (by decide +kernel)
set_option maxRecDepth 20000 in
theorem gX3_work_X3_giveA : GoodIn wsX3_work (wsV RX3 111 RX3 yX3_giveA wsX3_giveA) := goodIn_app (goodIn_of _ (by decide +kernel)) ggX3_work_X3_giveA
set_option maxRecDepth 20000 in
theorem ggX3_work_X3_meet : GoodIn wsX3_work wsX3_meet := goodIn_r _ [33, 21, 22, 23, 12, 24, 5, 9, 10, 11, 13, 7, 14, 34, 35, 36, 37, 38, 39, 40, 41, 42, 43, 44, 45, 46, 47] (by decide +kernel) (by decide +kernel)
set_option maxRecDepth 20000 in
theorem gX3_work_X3_meet : GoodIn wsX3_work (wsV RX3 114 RX3 yX3_meet wsX3_meet) := goodIn_app (goodIn_of _ (by decide +kernel)) ggX3_work_X3_meet
set_option maxRecDepth 20000 in
theorem ggX3_pay_X3_failUnless : GoodIn wsX3_pay wsX3_failUnless := goodIn_r _ [9, 1, 22, 23, 24, 25, 26, 27, 28, 29, 30, 31, 32, 33, 34, 35] (by decide +kernel) (by decide +kernel)
set_option maxRecDepth 20000 in
theorem gX3_pay_X3_failUnless : GoodIn wsX3_pay (wsV RX3 107 RX3 yX3_failUnless wsX3_failUnless) := goodIn_app (goodIn_of _ (by decide +kernel)) ggX3_pay_X3_failUnless
set_option maxRecDepth 20000 in
theorem ggX3_pay_X3_giveA : GoodIn wsX3_pay wsX3_giveA := goodIn_r _ [13, 14, 15, 22, 23, 24, 25, 26, 27, 28, 29, 30, 31, 32, 33, 34, 35] (by decide +kernel) (by decide +kernel)
set_option maxRecDepth 20000 in
theorem gX3_pay_X3_giveA : GoodIn wsX3_pay (wsV RX3 111 RX3 yX3_giveA wsX3_giveA) := goodIn_app (goodIn_of _ (by decide +kernel)) ggX3_pay_X3_giveA
set_option maxRecDepth 20000 in
theorem ggX3_pay_X3_giveB : GoodIn wsX3_pay wsX3_giveB := goodIn_r _ [19, 20, 21, 22, 23, 24, 25, 26, 27, 28, 29, 30, 31, 32, 33, 34, 35] (by decide +kernel) (by decide +kernel)
set_option maxRecDepth 20000 in
theorem gX3_pay_X3_giveB : GoodIn wsX3_pay (wsV RX3 99 RX3 yX3_giveB wsX3_giveB) := goodIn_app (goodIn_of _ (by decide +kernel)) ggX3_pay_X3_giveB
set_option maxRecDepth 20000 in
theorem ggX3_meet_X3_failUnless : GoodIn wsX3_meet wsX3_failUnless := goodIn_r _ [5, 6, 13, 14, 15, 16, 17, 18, 19, 20, 21, 22, 23, 24, 25, 26] (by decide +kernel) (by decide +kernel)
set_option maxRecDepth 20000 in
theorem gX3_meet_X3_failUnless : GoodIn wsX3_meet (wsV RX3 107 RX3 yX3_failUnless wsX3_failUnless) := goodIn_app (goodIn_of _ (by decide +kernel)) ggX3_meet_X3_failUnless
set_option maxRecDepth 20000 in
theorem ggX3_meet_X3_giveB : GoodIn wsX3_meet wsX3_giveB := goodIn_r _ [10, 11, 12, 13, 14, 15, 16, 17, 18, 19, 20, 21, 22, 23, 24, 25, 26] (by decide +kernel) (by decide +kernel)
set_option maxRecDepth 20000 in
theorem gX3_meet_X3_giveB : GoodIn wsX3_meet (wsV RX3 99 RX3 yX3_giveB wsX3_giveB) := goodIn_app (goodIn_of _ (by decide +kernel)) ggX3_meet_X3_giveB
set_option maxRecDepth 20000 in
theorem ggX4_init_X0_init : GoodIn wsX4_init wsX0_init := goodIn_r _ [15, 16, 2, 3, 17, 18, 19, 20, 21, 22, 23, 63, 64, 65, 66, 67, 68, 69] (by decide +kernel) (by decide +kernel)
set_option maxRecDepth 20000 in
theorem gX4_init_X0_init_n9 : GoodIn wsX4_init (wsX0_init) := ggX4_init_X0_init
set_option maxRecDepth 20000 in
theorem ggX4_init_X2_init : GoodIn wsX4_init wsX2_init := goodIn_r _ [26, 27, 2, 3, 28, 29, 30, 31, 32, 33, 34, 35, 36, 37, 38, 39, 17, 40, 41, 42, 43, 44, 45, 46, 47, 48, 49, 50, 51, 52, 53, 54, 55, 56, 57, 58, 59, 60, 61, 62, 90, 91, 92, 93, 94, 77, 78, 79, 80, 81, 82, 83, 84, 85, 86, 87, 88, 89, 95, 96, 97, 98, 99, 100, 101, 102, 103, 104, 105, 106, 107, 108] (by decide +kernel) (by decide +kernel)
set_option maxRecDepth 20000 in
theorem gX4_init_X2_init : GoodIn wsX4_init (wsX2_init) := ggX4_init_X2_init
set_option maxRecDepth 20000 in
theorem ggX4_call_X4_within : GoodIn wsX4_call wsX4_within := goodIn_r _ [7] (by decide +kernel) (by decide +kernel)
set_option maxRecDepth 20000 in
theorem gX4_call_X4_within : GoodIn wsX4_call (va_wsS RX4 31 yX4_within wsX4_within) := goodIn_app (goodIn_of _ (by decide +kernel)) ggX4_call_X4_within
set_option maxRecDepth 20000 in
theorem ggX4_call_X0_enter : GoodIn wsX4_call wsX0_enter := goodIn_r _ [12, 13, 14, 15, 16, 17, 18, 5, 6, 7, 26, 27, 28, 29, 30, 31, 32] (by decide +kernel) (by decide +kernel)
set_option maxRecDepth 20000 in
theorem gX4_call_X0_enter : GoodIn wsX4_call (wsV RX4 37 RX0 yX0_enter wsX0_enter) := goodIn_app (goodIn_of _ (by decide +kernel)) ggX4_call_X0_enter
set_option maxRecDepth 20000 in
theorem ggX4_gone_X4_within : GoodIn wsX4_gone wsX4_within := goodIn_r _ [6] (by decide +kernel) (by decide +kernel)
set_option maxRecDepth 20000 in
theorem gX4_gone_X4_within : GoodIn wsX4_gone (va_wsS RX4 31 yX4_within wsX4_within) := goodIn_app (goodIn_of _ (by decide +kernel)) ggX4_gone_X4_within
set_option maxRecDepth 20000 in
theorem ggX4_run_X4_within : GoodIn wsX4_run wsX4_within := goodIn_r _ [12] (by decide +kernel) (by decide +kernel)
set_option maxRecDepth 20000 in
theorem gX4_run_X4_within : GoodIn wsX4_run (va_wsS RX4 31 yX4_within wsX4_within) := goodIn_app (goodIn_of _ (by decide +kernel)) ggX4_run_X4_within
set_option maxRecDepth 20000 in
theorem ggX4_run_X4_isCrew : GoodIn wsX4_run wsX4_isCrew := goodIn_r _ [15, 9, 10, 11, 12] (by decide +kernel) (by decide +kernel)
set_option maxRecDepth 20000 in
theorem gX4_run_X4_isCrew : GoodIn wsX4_run (va_wsS RX4 59 yX4_isCrew wsX4_isCrew) := goodIn_app (goodIn_of _ (by decide +kernel)) ggX4_run_X4_isCrew
set_option maxRecDepth 20000 in
theorem ggX4_run_X2_goesThrough : GoodIn wsX4_run wsX2_goesThrough := goodIn_r _ [20, 21, 22, 23, 24, 25, 26, 27, 28, 29, 30, 31, 32, 33, 34, 19, 35, 36, 37, 38, 39, 40, 41, 42, 43, 44, 45, 46, 47, 48, 49, 50, 51, 52, 53, 54, 55, 56, 57, 58, 59, 60, 61, 62, 63, 64, 65, 66, 67, 68, 69, 70, 71, 72, 73, 74, 75, 10, 11, 12, 76, 77, 78, 79, 80, 81, 82, 83, 84, 85, 86, 87, 88, 89, 90, 91, 92, 93, 94, 95, 96, 97, 98, 99, 100, 101, 102, 103, 104, 105, 106, 107, 108, 109, 110, 111, 112, 113, 114, 115, 116, 117, 118, 119, 120, 121, 122, 123, 124, 125, 126, 127, 128, 129, 130, 131, 132, 133, 134, 135, 136, 137, 138, 139, 140, 141, 142, 143, 144, 145, 146, 147, 148, 149, 150, 151, 152, 153, 154, 155, 156, 157, 158, 159, 160, 161, 162, 163, 164, 165, 180, 181, 182, 183, 184, 185, 186, 187, 188, 189, 190, 191, 192, 193, 194, 195, 196, 197, 198, 199, 200, 201, 202, 203, 204, 205, 206, 207, 208, 209, 210, 211, 173, 174, 175, 176, 177, 178, 179] (by decide +kernel) (by decide +kernel)
set_option maxRecDepth 20000 in
theorem gX4_run_X2_goesThrough : GoodIn wsX4_run (wsV RX4 63 RX2 yX2_goesThrough wsX2_goesThrough) := goodIn_app (goodIn_of _ (by decide +kernel)) ggX4_run_X2_goesThrough
set_option maxRecDepth 20000 in
theorem ggX4_amount_X4_within : GoodIn wsX4_amount wsX4_within := goodIn_r _ [8] (by decide +kernel) (by decide +kernel)
set_option maxRecDepth 20000 in
theorem gX4_amount_X4_within : GoodIn wsX4_amount (va_wsS RX4 31 yX4_within wsX4_within) := goodIn_app (goodIn_of _ (by decide +kernel)) ggX4_amount_X4_within
set_option maxRecDepth 20000 in
theorem ggX4_amount_X3_standing : GoodIn wsX4_amount wsX3_standing := goodIn_r _ [13, 14, 15, 16, 17, 18, 19, 20, 21, 22, 23, 24, 25, 26, 27, 12, 28, 29, 50, 51, 52, 53, 54, 55, 56, 57, 58, 59, 60, 61, 62, 63, 64, 65, 66, 67, 68, 69, 70] (by decide +kernel) (by decide +kernel)
set_option maxRecDepth 20000 in
theorem gX4_amount_X3_standing : GoodIn wsX4_amount (wsV RX4 77 RX3 yX3_standing wsX3_standing) := goodIn_app (goodIn_of _ (by decide +kernel)) ggX4_amount_X3_standing
set_option maxRecDepth 20000 in
theorem ggX4_behind_X4_within : GoodIn wsX4_behind wsX4_within := goodIn_r _ [10] (by decide +kernel) (by decide +kernel)
set_option maxRecDepth 20000 in
theorem gX4_behind_X4_within : GoodIn wsX4_behind (va_wsS RX4 31 yX4_within wsX4_within) := goodIn_app (goodIn_of _ (by decide +kernel)) ggX4_behind_X4_within
set_option maxRecDepth 20000 in
theorem ggX4_behind_X3_standing : GoodIn wsX4_behind wsX3_standing := goodIn_r _ [15, 16, 17, 18, 19, 20, 21, 22, 23, 24, 25, 26, 27, 28, 29, 14, 30, 31, 52, 53, 54, 55, 56, 57, 58, 59, 60, 61, 62, 63, 64, 65, 66, 67, 68, 69, 70, 71, 72] (by decide +kernel) (by decide +kernel)
set_option maxRecDepth 20000 in
theorem gX4_behind_X3_standing : GoodIn wsX4_behind (wsV RX4 77 RX3 yX3_standing wsX3_standing) := goodIn_app (goodIn_of _ (by decide +kernel)) ggX4_behind_X3_standing
set_option maxRecDepth 20000 in
theorem ggX4_outcome_X4_isCall : GoodIn wsX4_outcome wsX4_isCall := goodIn_r _ [8, 9, 10, 11, 12, 7, 13, 20, 21, 22, 23, 24, 25, 26, 54, 55, 56, 57, 58, 59, 60] (by decide +kernel) (by decide +kernel)
set_option maxRecDepth 20000 in
theorem gX4_outcome_X4_isCall : GoodIn wsX4_outcome (wsV RX4 87 RX4 yX4_isCall wsX4_isCall) := goodIn_app (goodIn_of _ (by decide +kernel)) ggX4_outcome_X4_isCall
set_option maxRecDepth 20000 in
theorem ggX4_outcome_X4_wasInLatest : GoodIn wsX4_outcome wsX4_wasInLatest := goodIn_r _ [17, 18, 1, 19, 11, 12, 7, 13, 20, 21, 22, 23, 24, 25, 26, 27, 28, 29, 30, 31, 32, 33, 34, 35, 36, 37, 38, 39] (by decide +kernel) (by decide +kernel)
set_option maxRecDepth 20000 in
theorem gX4_outcome_X4_wasInLatest : GoodIn wsX4_outcome (wsV RX4 90 RX4 yX4_wasInLatest wsX4_wasInLatest) := goodIn_app (goodIn_of _ (by decide +kernel)) ggX4_outcome_X4_wasInLatest
set_option maxRecDepth 20000 in
theorem ggX4_of_X4_isCall : GoodIn wsX4_of wsX4_isCall := goodIn_r _ [7, 8, 9, 10, 11, 6, 12, 28, 29, 30, 31, 32, 33, 34, 48, 49, 50, 51, 52, 53, 54] (by decide +kernel) (by decide +kernel)
set_option maxRecDepth 20000 in
theorem gX4_of_X4_isCall : GoodIn wsX4_of (wsV RX4 87 RX4 yX4_isCall wsX4_isCall) := goodIn_app (goodIn_of _ (by decide +kernel)) ggX4_of_X4_isCall
set_option maxRecDepth 20000 in
theorem ggX4_of_X4_within : GoodIn wsX4_of wsX4_within := goodIn_r _ [12] (by decide +kernel) (by decide +kernel)
set_option maxRecDepth 20000 in
theorem gX4_of_X4_within : GoodIn wsX4_of (va_wsS RX4 31 yX4_within wsX4_within) := goodIn_app (goodIn_of _ (by decide +kernel)) ggX4_of_X4_within
set_option maxRecDepth 20000 in
theorem ggX4_of_X4_wasInLatest : GoodIn wsX4_of wsX4_wasInLatest := goodIn_r _ [16, 17, 1, 18, 10, 11, 6, 12, 28, 29, 30, 31, 32, 33, 34, 35, 36, 37, 38, 39, 40, 41, 42, 43, 44, 45, 46, 47] (by decide +kernel) (by decide +kernel)
set_option maxRecDepth 20000 in
theorem gX4_of_X4_wasInLatest : GoodIn wsX4_of (wsV RX4 90 RX4 yX4_wasInLatest wsX4_wasInLatest) := goodIn_app (goodIn_of _ (by decide +kernel)) ggX4_of_X4_wasInLatest
set_option maxRecDepth 20000 in
theorem ggX4_of_X3_figure : GoodIn wsX4_of wsX3_figure := goodIn_r _ [23, 24, 25, 26, 27, 55, 56, 57, 58, 59, 60, 61, 62, 63, 64, 65, 66, 67, 68] (by decide +kernel) (by decide +kernel)
set_option maxRecDepth 20000 in
theorem gX4_of_X3_figure : GoodIn wsX4_of (wsV RX4 96 RX3 yX3_figure wsX3_figure) := goodIn_app (goodIn_of _ (by decide +kernel)) ggX4_of_X3_figure
set_option maxRecDepth 20000 in
theorem ggX4_told_X4_within : GoodIn wsX4_told wsX4_within := goodIn_r _ [6] (by decide +kernel) (by decide +kernel)
set_option maxRecDepth 20000 in
theorem gX4_told_X4_within : GoodIn wsX4_told (va_wsS RX4 31 yX4_within wsX4_within) := goodIn_app (goodIn_of _ (by decide +kernel)) ggX4_told_X4_within
set_option maxRecDepth 20000 in
theorem ggX4_told_X2_total : GoodIn wsX4_told wsX2_total := goodIn_r _ [11, 12, 13, 14, 15, 16, 17, 18, 19, 20, 21, 22, 23, 24, 25, 33, 34, 35, 36, 37, 38, 39, 40, 41, 42, 43, 44, 45, 46, 47, 48, 49, 50, 51, 52, 53, 54, 55, 56, 57, 58, 59] (by decide +kernel) (by decide +kernel)
set_option maxRecDepth 20000 in
theorem gX4_told_X2_total : GoodIn wsX4_told (wsV RX4 100 RX2 yX2_total wsX2_total) := goodIn_app (goodIn_of _ (by decide +kernel)) ggX4_told_X2_total
set_option maxRecDepth 20000 in
theorem ggX4_same_X4_isCrew : GoodIn wsX4_same wsX4_isCrew := goodIn_r _ [8, 9, 10, 7, 11] (by decide +kernel) (by decide +kernel)
set_option maxRecDepth 20000 in
theorem gX4_same_X4_isCrew : GoodIn wsX4_same (va_wsS RX4 59 yX4_isCrew wsX4_isCrew) := goodIn_app (goodIn_of _ (by decide +kernel)) ggX4_same_X4_isCrew
set_option maxRecDepth 20000 in
theorem ggX4_same_X2_goesThrough : GoodIn wsX4_same wsX2_goesThrough := goodIn_r _ [16, 17, 18, 19, 20, 21, 22, 23, 24, 25, 26, 27, 28, 29, 30, 15, 31, 32, 33, 34, 35, 36, 37, 38, 39, 40, 41, 42, 43, 44, 45, 46, 47, 48, 49, 50, 51, 52, 53, 54, 55, 56, 57, 58, 59, 60, 61, 62, 63, 64, 65, 66, 67, 68, 69, 70, 71, 10, 7, 11, 72, 73, 74, 75, 76, 77, 78, 79, 80, 81, 82, 83, 84, 85, 86, 87, 88, 89, 90, 91, 92, 93, 94, 95, 96, 97, 98, 99, 100, 101, 102, 103, 104, 105, 106, 107, 108, 109, 110, 111, 112, 113, 114, 115, 116, 117, 118, 119, 120, 121, 122, 123, 124, 125, 126, 127, 128, 129, 130, 131, 132, 133, 134, 135, 136, 137, 138, 139, 140, 141, 142, 143, 144, 145, 146, 147, 148, 149, 150, 151, 152, 153, 154, 155, 156, 157, 158, 159, 160, 161, 182, 183, 184, 185, 186, 187, 188, 189, 190, 191, 192, 193, 194, 195, 196, 197, 198, 199, 200, 201, 202, 203, 204, 205, 206, 207, 208, 209, 210, 211, 212, 213, 175, 176, 177, 178, 179, 180, 181] (by decide +kernel) (by decide +kernel)
set_option maxRecDepth 20000 in
theorem gX4_same_X2_goesThrough : GoodIn wsX4_same (wsV RX4 63 RX2 yX2_goesThrough wsX2_goesThrough) := goodIn_app (goodIn_of _ (by decide +kernel)) ggX4_same_X2_goesThrough
set_option maxRecDepth 20000 in
theorem ggX4_same_X2_leavesLike : GoodIn wsX4_same wsX2_leavesLike := goodIn_r _ [165, 19, 37, 166, 167, 108, 109, 41, 110, 111, 56, 26, 57, 112, 101, 104, 113, 114, 106, 115, 116, 117, 118, 119, 43, 182, 183, 184, 185, 186, 187, 188, 189, 190, 191, 192, 193, 194, 200, 201, 202, 203, 204, 205, 206, 207, 208, 209, 210, 211, 212, 213, 175, 176, 177, 178, 179, 180, 181] (by decide +kernel) (by decide +kernel)
set_option maxRecDepth 20000 in
theorem gX4_same_X2_leavesLike : GoodIn wsX4_same (wsV RX4 104 RX2 yX2_leavesLike wsX2_leavesLike) := goodIn_app (goodIn_of _ (by decide +kernel)) ggX4_same_X2_leavesLike
set_option maxRecDepth 20000 in
theorem ggX4_isCall_X4_within : GoodIn wsX4_isCall wsX4_within := goodIn_r _ [6] (by decide +kernel) (by decide +kernel)
set_option maxRecDepth 20000 in
theorem gX4_isCall_X4_within : GoodIn wsX4_isCall (va_wsS RX4 31 yX4_within wsX4_within) := goodIn_app (goodIn_of _ (by decide +kernel)) ggX4_isCall_X4_within
set_option maxRecDepth 20000 in
theorem ggX4_wasInLatest_X4_within : GoodIn wsX4_wasInLatest wsX4_within := goodIn_r _ [7] (by decide +kernel) (by decide +kernel)
set_option maxRecDepth 20000 in
theorem gX4_wasInLatest_X4_within : GoodIn wsX4_wasInLatest (va_wsS RX4 31 yX4_within wsX4_within) := goodIn_app (goodIn_of _ (by decide +kernel)) ggX4_wasInLatest_X4_within
set_option maxRecDepth 20000 in
theorem ggX4_isCrew_X4_within : GoodIn wsX4_isCrew wsX4_within := goodIn_r _ [4] (by decide +kernel) (by decide +kernel)
set_option maxRecDepth 20000 in
theorem gX4_isCrew_X4_within : GoodIn wsX4_isCrew (va_wsS RX4 31 yX4_within wsX4_within) := goodIn_app (goodIn_of _ (by decide +kernel)) ggX4_isCrew_X4_within
set_option maxRecDepth 20000 in
theorem ggX5_call_X5_in : GoodIn wsX5_call wsX5_in := goodIn_r _ [13] (by decide +kernel) (by decide +kernel)
set_option maxRecDepth 20000 in
theorem gX5_call_X5_in : GoodIn wsX5_call (va_wsS RX5 119 yX5_in wsX5_in) := goodIn_app (goodIn_of _ (by decide +kernel)) ggX5_call_X5_in
set_option maxRecDepth 20000 in
theorem ggX5_gone_X5_in : GoodIn wsX5_gone wsX5_in := goodIn_r _ [6] (by decide +kernel) (by decide +kernel)
set_option maxRecDepth 20000 in
theorem gX5_gone_X5_in : GoodIn wsX5_gone (va_wsS RX5 119 yX5_in wsX5_in) := goodIn_app (goodIn_of _ (by decide +kernel)) ggX5_gone_X5_in
set_option maxRecDepth 20000 in
theorem ggX5_take_X5_reads : GoodIn wsX5_take wsX5_reads := goodIn_r _ [18, 7, 19, 11, 20, 21, 9, 22, 23, 24, 25, 26, 27, 28, 29, 30, 31, 32, 33, 34, 35, 36, 37, 38, 39, 40, 41, 42, 43, 44, 45, 46, 47, 48, 49, 50, 51, 52, 53, 54, 55, 56, 57, 58, 59, 60] (by decide +kernel) (by decide +kernel)
set_option maxRecDepth 20000 in
theorem gX5_take_X5_reads : GoodIn wsX5_take (wsV RX5 128 RX5 yX5_reads wsX5_reads) := goodIn_app (goodIn_of _ (by decide +kernel)) ggX5_take_X5_reads
set_option maxRecDepth 20000 in
theorem ggX5_step_X5_work : GoodIn wsX5_step wsX5_work := goodIn_r _ [10, 11, 12, 13, 14, 15, 16, 17, 18, 19, 20, 21, 22, 23, 24, 25, 26, 27, 28, 29, 30, 31, 32, 33, 34, 35, 36, 37, 38, 39, 40, 41, 42, 43, 44, 45, 46, 47, 48, 49, 50, 51, 52, 53, 54, 55, 56, 57, 58, 59] (by decide +kernel) (by decide +kernel)
set_option maxRecDepth 20000 in
theorem gX5_step_X5_work : GoodIn wsX5_step (wsV RX5 132 RX5 yX5_work wsX5_work) := goodIn_app (goodIn_of _ (by decide +kernel)) ggX5_step_X5_work
set_option maxRecDepth 20000 in
theorem ggX5_goes_X5_begin : GoodIn wsX5_goes wsX5_begin := goodIn_r _ [8, 1, 9, 10, 11, 12, 13, 14, 15, 3, 16, 17, 63, 64, 65, 66, 67, 68, 69, 70, 71, 72, 73, 74, 75, 76, 77, 78, 79, 80, 81, 82, 83, 84, 85, 86, 87, 88, 89, 90, 91, 92, 93, 94, 95, 96, 97, 98, 99, 100] (by decide +kernel) (by decide +kernel)
set_option maxRecDepth 20000 in
theorem gX5_goes_X5_begin : GoodIn wsX5_goes (wsV RX5 136 RX5 yX5_begin wsX5_begin) := goodIn_app (goodIn_of _ (by decide +kernel)) ggX5_goes_X5_begin
set_option maxRecDepth 20000 in
theorem ggX5_goes_X5_turnOf : GoodIn wsX5_goes wsX5_turnOf := goodIn_r _ [21, 17, 63, 64, 65, 66, 67, 68, 69, 70, 71, 72, 73, 74, 75, 76, 77, 78, 79, 80, 81, 82, 83, 84, 85, 86, 87, 88, 89, 90, 91, 92, 93, 94, 95, 96, 97, 98, 99, 100] (by decide +kernel) (by decide +kernel)
set_option maxRecDepth 20000 in
theorem gX5_goes_X5_turnOf : GoodIn wsX5_goes (wsV RX5 141 RX5 yX5_turnOf wsX5_turnOf) := goodIn_app (goodIn_of _ (by decide +kernel)) ggX5_goes_X5_turnOf
set_option maxRecDepth 20000 in
theorem ggX5_goes_X5_step : GoodIn wsX5_goes wsX5_step := goodIn_r _ [25, 3, 26, 27, 10, 14, 28, 29, 30, 7, 31, 32, 33, 34, 35, 36, 37, 38, 39, 40, 41, 15, 63, 64, 65, 66, 67, 68, 69, 70, 71, 72, 73, 74, 75, 76, 77, 78, 79, 80, 81, 82, 83, 84, 85, 86, 87, 88, 89, 90, 91, 92, 93, 94, 95, 96, 97, 98, 99, 100] (by decide +kernel) (by decide +kernel)
set_option maxRecDepth 20000 in
theorem gX5_goes_X5_step : GoodIn wsX5_goes (wsV RX5 145 RX5 yX5_step wsX5_step) := goodIn_app (goodIn_of _ (by decide +kernel)) ggX5_goes_X5_step
set_option maxRecDepth 20000 in
theorem ggX5_goes_X5_openOne : GoodIn wsX5_goes wsX5_openOne := goodIn_r _ [45, 10, 63, 64, 65, 66, 67, 68, 69, 70, 71, 72, 73, 74, 75, 76, 77, 78, 79, 80, 81, 82, 83, 84, 85, 86, 87, 88, 89, 90, 91, 92, 93, 94, 95, 96, 97, 98, 99, 100] (by decide +kernel) (by decide +kernel)
set_option maxRecDepth 20000 in
theorem gX5_goes_X5_openOne : GoodIn wsX5_goes (wsV RX5 148 RX5 yX5_openOne wsX5_openOne) := goodIn_app (goodIn_of _ (by decide +kernel)) ggX5_goes_X5_openOne
set_option maxRecDepth 20000 in
theorem ggX5_goes_X5_take : GoodIn wsX5_goes wsX5_take := goodIn_r _ [49, 11, 1, 12, 16, 50, 17, 10, 32, 39, 33, 40, 3, 26, 51, 52, 53, 7, 54, 36, 38, 35, 41, 63, 64, 65, 66, 67, 68, 69, 70, 71, 72, 73, 74, 75, 76, 77, 78, 79, 80, 81, 82, 83, 84, 85, 86, 87, 88, 89, 90, 91, 92, 93, 94, 95, 96, 97, 98, 99, 100] (by decide +kernel) (by decide +kernel)
set_option maxRecDepth 20000 in
theorem gX5_goes_X5_take : GoodIn wsX5_goes (wsV RX5 151 RX5 yX5_take wsX5_take) := goodIn_app (goodIn_of _ (by decide +kernel)) ggX5_goes_X5_take
set_option maxRecDepth 20000 in
theorem ggX5_goes_X5_keep : GoodIn wsX5_goes wsX5_keep := goodIn_r _ [58, 10, 32, 9, 39, 33, 40, 1, 35, 41, 36, 38, 13, 15, 63, 64, 65, 66, 67, 68, 69, 70, 71, 72, 73, 74, 75, 76, 77, 78, 79, 80, 81, 82, 83, 84, 85, 86, 87, 88, 89, 90, 91, 92, 93, 94, 95, 96, 97, 98, 99, 100] (by decide +kernel) (by decide +kernel)
set_option maxRecDepth 20000 in
theorem gX5_goes_X5_keep : GoodIn wsX5_goes (wsV RX5 155 RX5 yX5_keep wsX5_keep) := goodIn_app (goodIn_of _ (by decide +kernel)) ggX5_goes_X5_keep
set_option maxRecDepth 20000 in
theorem ggX5_goes_X5_underWay : GoodIn wsX5_goes wsX5_underWay := goodIn_r _ [62, 10, 63, 64, 65, 66, 67, 68, 69, 70, 71, 72, 73, 74, 75, 76, 77, 78, 79, 80, 81, 82, 83, 84, 85, 86, 87, 88, 89, 90, 91, 92, 93, 94, 95, 96, 97, 98, 99, 100] (by decide +kernel) (by decide +kernel)
set_option maxRecDepth 20000 in
theorem gX5_goes_X5_underWay : GoodIn wsX5_goes (wsV RX5 159 RX5 yX5_underWay wsX5_underWay) := goodIn_app (goodIn_of _ (by decide +kernel)) ggX5_goes_X5_underWay
set_option maxRecDepth 20000 in
theorem ggX5_run_X5_in : GoodIn wsX5_run wsX5_in := goodIn_r _ [23] (by decide +kernel) (by decide +kernel)
set_option maxRecDepth 20000 in
theorem gX5_run_X5_in : GoodIn wsX5_run (va_wsS RX5 119 yX5_in wsX5_in) := goodIn_app (goodIn_of _ (by decide +kernel)) ggX5_run_X5_in
set_option maxRecDepth 20000 in
theorem ggX5_run_X5_goes : GoodIn wsX5_run wsX5_goes := goodIn_r _ [27, 7, 28, 29, 30, 31, 32, 22, 33, 19, 34, 9, 11, 13, 15, 17, 35, 36, 37, 38, 39, 40, 41, 42, 43, 44, 45, 46, 47, 48, 49, 50, 51, 52, 53, 54, 55, 56, 57, 58, 59, 60, 61, 62, 63, 64, 65, 66, 67, 68, 69, 70, 71, 72, 73, 74, 75, 76, 77, 78, 79, 80, 81, 82, 83, 84, 85, 86, 87, 88, 89, 90, 91, 92, 93, 94, 95, 96, 97, 98, 99, 100, 101, 102, 103, 104, 105, 106, 107, 108, 109, 110, 111, 112, 113, 114, 115, 116, 117, 118, 119] (by decide +kernel) (by decide +kernel)
set_option maxRecDepth 20000 in
theorem gX5_run_X5_goes : GoodIn wsX5_run (wsV RX5 163 RX5 yX5_goes wsX5_goes) := goodIn_app (goodIn_of _ (by decide +kernel)) ggX5_run_X5_goes
set_option maxRecDepth 20000 in
theorem ggX5_amount_X5_in : GoodIn wsX5_amount wsX5_in := goodIn_r _ [8] (by decide +kernel) (by decide +kernel)
set_option maxRecDepth 20000 in
theorem gX5_amount_X5_in : GoodIn wsX5_amount (va_wsS RX5 119 yX5_in wsX5_in) := goodIn_app (goodIn_of _ (by decide +kernel)) ggX5_amount_X5_in
set_option maxRecDepth 20000 in
theorem ggX5_behind_X5_in : GoodIn wsX5_behind wsX5_in := goodIn_r _ [10] (by decide +kernel) (by decide +kernel)
set_option maxRecDepth 20000 in
theorem gX5_behind_X5_in : GoodIn wsX5_behind (va_wsS RX5 119 yX5_in wsX5_in) := goodIn_app (goodIn_of _ (by decide +kernel)) ggX5_behind_X5_in
set_option maxRecDepth 20000 in
theorem ggX5_outcome_X5_in : GoodIn wsX5_outcome wsX5_in := goodIn_r _ [7] (by decide +kernel) (by decide +kernel)
set_option maxRecDepth 20000 in
theorem gX5_outcome_X5_in : GoodIn wsX5_outcome (va_wsS RX5 119 yX5_in wsX5_in) := goodIn_app (goodIn_of _ (by decide +kernel)) ggX5_outcome_X5_in
set_option maxRecDepth 20000 in
theorem ggX5_outcome_X5_isOfRun : GoodIn wsX5_outcome wsX5_isOfRun := goodIn_r _ [11, 12, 13, 14, 15, 16, 17, 18, 19, 20, 21, 22, 23, 24, 25, 26, 27, 28, 29, 30, 31, 32, 33, 34, 35, 36, 37, 38, 39, 40, 41, 42, 43, 44, 45, 46, 47, 48, 49, 50, 51] (by decide +kernel) (by decide +kernel)
set_option maxRecDepth 20000 in
theorem gX5_outcome_X5_isOfRun : GoodIn wsX5_outcome (wsV RX5 177 RX5 yX5_isOfRun wsX5_isOfRun) := goodIn_app (goodIn_of _ (by decide +kernel)) ggX5_outcome_X5_isOfRun
set_option maxRecDepth 20000 in
theorem ggX5_of_X5_in : GoodIn wsX5_of wsX5_in := goodIn_r _ [10] (by decide +kernel) (by decide +kernel)
set_option maxRecDepth 20000 in
theorem gX5_of_X5_in : GoodIn wsX5_of (va_wsS RX5 119 yX5_in wsX5_in) := goodIn_app (goodIn_of _ (by decide +kernel)) ggX5_of_X5_in
set_option maxRecDepth 20000 in
theorem ggX5_of_X5_isOfRun : GoodIn wsX5_of wsX5_isOfRun := goodIn_r _ [14, 15, 16, 17, 18, 19, 20, 21, 22, 23, 24, 25, 26, 27, 28, 29, 30, 31, 32, 33, 34, 35, 36, 37, 38, 39, 40, 41, 42, 43, 44, 45, 46, 47, 48, 49, 50, 51, 52, 53, 54] (by decide +kernel) (by decide +kernel)
set_option maxRecDepth 20000 in
theorem gX5_of_X5_isOfRun : GoodIn wsX5_of (wsV RX5 177 RX5 yX5_isOfRun wsX5_isOfRun) := goodIn_app (goodIn_of _ (by decide +kernel)) ggX5_of_X5_isOfRun
set_option maxRecDepth 20000 in
theorem ggX5_told_X5_in : GoodIn wsX5_told wsX5_in := goodIn_r _ [7] (by decide +kernel) (by decide +kernel)
set_option maxRecDepth 20000 in
theorem gX5_told_X5_in : GoodIn wsX5_told (va_wsS RX5 119 yX5_in wsX5_in) := goodIn_app (goodIn_of _ (by decide +kernel)) ggX5_told_X5_in
set_option maxRecDepth 20000 in
theorem ggX5_same_X5_in : GoodIn wsX5_same wsX5_in := goodIn_r _ [10] (by decide +kernel) (by decide +kernel)
set_option maxRecDepth 20000 in
theorem gX5_same_X5_in : GoodIn wsX5_same (va_wsS RX5 119 yX5_in wsX5_in) := goodIn_app (goodIn_of _ (by decide +kernel)) ggX5_same_X5_in
set_option maxRecDepth 20000 in
theorem ggX5_same_X5_goes : GoodIn wsX5_same wsX5_goes := goodIn_r _ [14, 15, 16, 17, 18, 19, 20, 9, 21, 4, 22, 23, 24, 25, 26, 6, 27, 28, 29, 30, 31, 32, 33, 34, 35, 36, 37, 38, 39, 40, 41, 42, 43, 44, 45, 46, 47, 48, 49, 50, 51, 52, 53, 54, 55, 56, 57, 58, 59, 60, 61, 62, 63, 64, 65, 66, 67, 68, 69, 70, 71, 72, 73, 74, 75, 76, 77, 78, 79, 80, 81, 82, 83, 84, 85, 86, 87, 88, 89, 90, 91, 92, 93, 94, 95, 96, 97, 98, 99, 100, 101, 102, 103, 104, 105, 106, 107, 108, 109, 110, 111] (by decide +kernel) (by decide +kernel)
set_option maxRecDepth 20000 in
theorem gX5_same_X5_goes : GoodIn wsX5_same (wsV RX5 163 RX5 yX5_goes wsX5_goes) := goodIn_app (goodIn_of _ (by decide +kernel)) ggX5_same_X5_goes
end
section
def EV (D : va_G) (cI cJ cZ : ClassId) (U : State) : Prop :=
  va_K D vwCl [(cI, .int), (cJ, .long), (cZ, .boolean)] U ∧ va_Nw (.methodLinkNest RX4 9 yX0_init "LedgerShares") U ∧ va_Nw (.methodLinkNest RX2 11 yX1_init "LedgerShares") U ∧ va_Nw (.methodLinkNest RX0 34 yX4_within "LedgerShares") U ∧ va_Nw (.methodLinkNest RX2 92 yX4_within "LedgerShares") U ∧ va_Nw (.methodLinkNest RX3 89 yX4_within "LedgerShares") U
theorem EV.warm {D : va_G} {cI cJ cZ : ClassId} {s U : State} (hW : s.WarmedH U.vm) (h : EV D cI cJ cZ s) : EV D cI cJ cZ U :=
  ⟨va_K.moved hW.alike h.1, va_Nw.warmM hW h.2.1, va_Nw.warmM hW h.2.2.1, va_Nw.warmM hW h.2.2.2.1, va_Nw.warmM hW h.2.2.2.2.1, va_Nw.warmM hW h.2.2.2.2.2⟩
theorem EV.call {D : va_G} {cI cJ cZ : ClassId} {U : State} {g : JFrame} {mk : MethodId} {a : Array Value} (h : EV D cI cJ cZ U) : EV D cI cJ cZ (U.calling g mk a) :=
  ⟨va_K.moved (u := U) (U := U.calling g mk a) (Vm.Alike.refl U.vm) h.1, va_Nw.same rfl rfl h.2.1, va_Nw.same rfl rfl h.2.2.1, va_Nw.same rfl rfl h.2.2.2.1, va_Nw.same rfl rfl h.2.2.2.2.1, va_Nw.same rfl rfl h.2.2.2.2.2⟩
theorem EV.warm2 {D : va_G} {cI cJ cZ : ClassId} {s U : State} (h : EV D cI cJ cZ s) (hW : s.WarmedH U.vm) : EV D cI cJ cZ U := EV.warm hW h
abbrev PcRO (av : List Value) (D : va_G) (cI cJ cZ : ClassId) (ws : va_W) : Array Value → State → Prop := va_Pc av (fun U => va_P D vwCl ws U.heap ∧ EV D cI cJ cZ U)
abbrev PcRW (av : List Value) (sz : Nat) (D : va_G) (cI cJ cZ : ClassId) (ws : va_W) : Array Value → State → Prop := va_Pc av (fun U => U.heap.size = sz ∧ va_P D vwCl ws U.heap ∧ EV D cI cJ cZ U ∧ va_D (fun _ => True) ws)
abbrev QcV (D : va_G) (A : Nat → Prop) (ws' : va_W) : Array Value → State → Outcome → State → Prop := va_Qv (fun _ : Unit => True) (fun _ t => va_P D vwCl ws' t.heap ∧ va_D A ws') A
abbrev QcI (post : Int32 → Prop) (D : va_G) (A : Nat → Prop) (ws' : va_W) : Array Value → State → Outcome → State → Prop := va_Qi (fun r (_ : Unit) => post r) (fun _ t => va_P D vwCl ws' t.heap ∧ va_D A ws') A
abbrev noF : Addr → Prop := fun _ => False
theorem bl_ro {av : List Value} {D : va_G} {cI cJ cZ : ClassId} {ws : va_W} : FrameBlind (PcRO av D cI cJ cZ ws) := fun _ _ _ _ q => ⟨q.1, q.2.1, q.2.2.call⟩
theorem bl_rw {av : List Value} {sz : Nat} {D : va_G} {cI cJ cZ : ClassId} {ws : va_W} : FrameBlind (PcRW av sz D cI cJ cZ ws) := fun _ _ _ _ q => ⟨q.1, q.2.1, q.2.2.1, q.2.2.2.1.call, q.2.2.2.2⟩
theorem x_Psub {D : va_G} {cl : List vw_C} {ws ws' : va_W} {H : Heap} (h : va_P D cl ws H) (is : List Nat) (hs : is.map (fun i => ws[i]?) = ws'.map some) : va_P D cl ws' H := by
  intro k q hk
  have h1 : (is.map (fun i => ws[i]?))[k]? = some (some q) := by rw [hs, List.getElem?_map, hk]; rfl
  rw [List.getElem?_map] at h1
  cases hi : is[k]? with
  | none => rw [hi] at h1; cases h1
  | some i => rw [hi] at h1; exact h i q (Option.some.inj h1)
section MK
variable {p : Program} {l : Launch} {e : Env} {R : Room} {s : State} {m : MethodId} {args : Array Value} {below : List Frame} {meth : Method} {c : Code} {H : Heap} {locs : List Loc} {cells slots : Nat} {Q : State → Prop}
variable {cc : ByteArray} {pc : Nat} {ls : Array Slot} {rest : List Value} {D : va_G} {cI cJ cZ : ClassId} {A : Nat → Prop} {a : Nat} {ws : va_W} {H0 : Heap}
theorem x_iald (hx : p.tables.exec = Jvm.exec) (hb : c.code = cc) (hE : EV D cI cJ cZ s) (hP : va_P D vwCl ws H) (q0 : Nat) {n : Nat} {f : Nat → Int32} (ha : ws[q0]? = some (a, .inl (cI, n, .inl f))) (k : Nat) (hk : k < n) (hn : n < 2 ^ 31) {i : Int32} (hi : i = nI k) (hdg : decode cc pc = .ok (.iaload, 1))
    (kk : W p l e R s m args below meth c H locs cells slots Q (F0 m (pc + 1) ls (.int (f k) :: rest))) : W p l e R s m args below meth c H locs cells slots Q (F0 m pc ls (.int i :: .ref a :: rest)) := by
  subst hi
  refine va_iald hx hb hE.1 hP q0 0 ha rfl (vp_in_nI hk hn) hdg ?_
  rw [nI_clamp (Nat.lt_trans hk hn)]
  exact kk
theorem x_zald (hx : p.tables.exec = Jvm.exec) (hb : c.code = cc) (hE : EV D cI cJ cZ s) (hP : va_P D vwCl ws H) (q0 : Nat) {n : Nat} {f : Nat → Int32} (ha : ws[q0]? = some (a, .inl (cZ, n, .inl f))) (k : Nat) (hk : k < n) (hn : n < 2 ^ 31) {i : Int32} (hi : i = nI k) (hdg : decode cc pc = .ok (.baload, 1))
    (kk : W p l e R s m args below meth c H locs cells slots Q (F0 m (pc + 1) ls (.int (f k) :: rest))) : W p l e R s m args below meth c H locs cells slots Q (F0 m pc ls (.int i :: .ref a :: rest)) := by
  subst hi
  refine va_zald hx hb hE.1 hP q0 2 ha rfl (vp_in_nI hk hn) hdg ?_
  rw [nI_clamp (Nat.lt_trans hk hn)]
  exact kk
theorem x_lald (hx : p.tables.exec = Jvm.exec) (hb : c.code = cc) (hE : EV D cI cJ cZ s) (hP : va_P D vwCl ws H) (q0 : Nat) {n : Nat} {f : Nat → Int64} (ha : ws[q0]? = some (a, .inl (cJ, n, .inr (.inl f)))) (k : Nat) (hk : k < n) (hn : n < 2 ^ 31) {i : Int32} (hi : i = nI k) (hdg : decode cc pc = .ok (.laload, 1))
    (kk : W p l e R s m args below meth c H locs cells slots Q (F0 m (pc + 1) ls (.long (f k) :: rest))) : W p l e R s m args below meth c H locs cells slots Q (F0 m pc ls (.int i :: .ref a :: rest)) := by
  subst hi
  refine va_lald hx hb hE.1 hP q0 1 ha rfl (vp_in_nI hk hn) hdg ?_
  rw [nI_clamp (Nat.lt_trans hk hn)]
  exact kk
theorem x_iast (hx : p.tables.exec = Jvm.exec) (hb : c.code = cc) (hE : EV D cI cJ cZ s) (hP : va_P D vwCl ws H) (hD : va_D A ws) (hS : va_S A H0 H locs) (q0 : Nat) {n : Nat} {f : Nat → Int32} (ha : ws[q0]? = some (a, .inl (cI, n, .inl f))) (k : Nat) (hk : k < n) (hn : n < 2 ^ 31) {i : Int32} (hi : i = nI k) {x : Int32} {ws' : va_W} (hw : ws.set q0 (a, .inl (cI, n, .inl (upd f k x))) = ws') (hdg : decode cc pc = .ok (.iastore, 1))
    (kk : ∀ (H1 : Heap) (locs1 : List Loc), va_P D vwCl ws' H1 → va_D A ws' → va_S A H0 H1 locs1 → W p l e R s m args below meth c H1 locs1 cells slots Q (F0 m (pc + 1) ls rest)) : W p l e R s m args below meth c H locs cells slots Q (F0 m pc ls (.int x :: .int i :: .ref a :: rest)) := by
  subst hi
  refine va_iast hx hb hE.1 hP hD hS q0 0 ha rfl (vp_in_nI hk hn) hdg ?_
  rw [nI_clamp (Nat.lt_trans hk hn), hw]
  exact kk
theorem x_zast (hx : p.tables.exec = Jvm.exec) (hb : c.code = cc) (hE : EV D cI cJ cZ s) (hP : va_P D vwCl ws H) (hD : va_D A ws) (hS : va_S A H0 H locs) (q0 : Nat) {n : Nat} {f : Nat → Int32} (ha : ws[q0]? = some (a, .inl (cZ, n, .inl f))) (k : Nat) (hk : k < n) (hn : n < 2 ^ 31) {i : Int32} (hi : i = nI k) {x : Int32} (hxn : vp_nar .boolean x = x) {ws' : va_W} (hw : ws.set q0 (a, .inl (cZ, n, .inl (upd f k x))) = ws') (hdg : decode cc pc = .ok (.bastore, 1))
    (kk : ∀ (H1 : Heap) (locs1 : List Loc), va_P D vwCl ws' H1 → va_D A ws' → va_S A H0 H1 locs1 → W p l e R s m args below meth c H1 locs1 cells slots Q (F0 m (pc + 1) ls rest)) : W p l e R s m args below meth c H locs cells slots Q (F0 m pc ls (.int x :: .int i :: .ref a :: rest)) := by
  subst hi
  refine va_zast hx hb hE.1 hP hD hS q0 2 ha rfl (vp_in_nI hk hn) hdg ?_
  rw [nI_clamp (Nat.lt_trans hk hn), hxn, hw]
  exact kk
theorem x_last (hx : p.tables.exec = Jvm.exec) (hb : c.code = cc) (hE : EV D cI cJ cZ s) (hP : va_P D vwCl ws H) (hD : va_D A ws) (hS : va_S A H0 H locs) (q0 : Nat) {n : Nat} {f : Nat → Int64} (ha : ws[q0]? = some (a, .inl (cJ, n, .inr (.inl f)))) (k : Nat) (hk : k < n) (hn : n < 2 ^ 31) {i : Int32} (hi : i = nI k) {x : Int64} {ws' : va_W} (hw : ws.set q0 (a, .inl (cJ, n, .inr (.inl (vp_updL f k x)))) = ws') (hdg : decode cc pc = .ok (.lastore, 1))
    (kk : ∀ (H1 : Heap) (locs1 : List Loc), va_P D vwCl ws' H1 → va_D A ws' → va_S A H0 H1 locs1 → W p l e R s m args below meth c H1 locs1 cells slots Q (F0 m (pc + 1) ls rest)) : W p l e R s m args below meth c H locs cells slots Q (F0 m pc ls (.long x :: .int i :: .ref a :: rest)) := by
  subst hi
  refine va_last hx hb hE.1 hP hD hS q0 1 ha rfl (vp_in_nI hk hn) hdg ?_
  rw [nI_clamp (Nat.lt_trans hk hn), hw]
  exact kk
theorem x_callv {wc wc' wr ws' : va_W} {st0 : List Value} {av : Array Value} (hP : va_P D vwCl ws H) (hD : va_D A ws) (hS : va_S A H0 H locs) (hA : ∀ q, H0.size ≤ q → A q) (isC isR : List Nat) (hC : isC.map (fun i => ws[i]?) = wc.map some) (hR : isR.map (fun i => ws[i]?) = wr.map some) (hn : va_nd isR = true) (hdis : ∀ i ∈ isR, i ∉ isC)
    (pm : List Nat) (hpn : va_nd pm = true) (hpm : pm.map (fun i => (wr ++ wc')[i]?) = ws'.map some) (hr : va_Run p l e R s m args below meth c H locs cells slots 0 0 (F0 m pc ls st0) rest (QcV D (va_A wc H.size) wc' av) (va_A wc H.size))
    (kk : ∀ (H1 : Heap) (locs1 : List Loc), va_P D vwCl ws' H1 → va_D A ws' → va_S A H0 H1 locs1 → W p l e R s m args below meth c H1 locs1 cells slots Q (F0 m (pc + 3) ls rest)) : W p l e R s m args below meth c H locs cells slots Q (F0 m pc ls st0) := by
  have hFc := va_free (wc := wc) hD hS hA isC hC
  refine va_callv hr hS (fun q _ h => hFc q h) hFc (fun u t H1 locs1 ht hvm hw hB hz1 hk1 hS1 => ?_)
  obtain ⟨hP1, hD1⟩ := hB
  rw [ht] at hP1
  obtain ⟨hP2, hD2⟩ := va_join hP hD isC isR hC hR hn hdis hk1 hFc hP1 hD1
  exact kk H1 locs1 (x_Psub hP2 pm hpm) (hD2.sub pm hpn hpm) hS1
theorem x_topi {x y : Int32} (h : x = y) (k : W p l e R s m args below meth c H locs cells slots Q (F0 m pc ls (.int y :: rest))) : W p l e R s m args below meth c H locs cells slots Q (F0 m pc ls (.int x :: rest)) := by
  rw [h]; exact k
theorem x_topl {x y : Int64} (h : x = y) (k : W p l e R s m args below meth c H locs cells slots Q (F0 m pc ls (.long y :: rest))) : W p l e R s m args below meth c H locs cells slots Q (F0 m pc ls (.long x :: rest)) := by
  rw [h]; exact k
theorem x_put (hexec : p.tables.exec = Jvm.exec) (hb : c.code = cc) {own C : String} {T : u_T} {N ci index : Nat} {Ts : List Cond} {tys : List (ClassId × FieldType)} (hts : ∀ w ∈ Ts, w.before args s = true) (hin : ∀ w ∈ u_ws C T N, w ∈ Ts) (ty0 : Nat → FieldType) (hty : ∀ k, k < N → parseFieldDescriptor (T k).2.2.1 = some (ty0 k)) (hnm : ∀ a, a < N → ∀ b, b < N → a ≠ b → (T a).2.1 ≠ (T b).2.1) (hown : s.vm.findClass own = some m.cls) (hK : va_K D vwCl tys s) (hP : va_P D vwCl ws H) (hD : va_D A ws) (hS0 : va_S A H0 H locs) (q0 : Nat) {fs : List Value} (he : ws[q0]? = some (a, .inr (ci, fs))) (hc : vwCl[ci]? = some (C, T, N)) (k : Nat) (hk : k < N) (hlink : (Cond.fieldLink own index (T k).1 (T k).2.1 (T k).2.2.1).before args s = true) (hfin : (T k).2.2.2 = false) {ty : FieldType} {v : Value} (hd : parseFieldDescriptor (T k).2.2.1 = some ty) (hn : narrow ty v = v) (hfit : fits ty v = true) (hl : k < fs.length) {ws' : va_W} (hw : ws.set q0 (a, .inr (ci, fs.set k v)) = ws')
    (hdg : decode cc pc = .ok (.putfield index, 3)) (kk : ∀ (H1 : Heap) (locs1 : List Loc), va_P D vwCl ws' H1 → va_D A ws' → va_S A H0 H1 locs1 → W p l e R s m args below meth c H1 locs1 cells slots Q (F0 m (pc + 3) ls rest)) : W p l e R s m args below meth c H locs cells slots Q (F0 m pc ls (v :: .ref a :: rest)) := by
  refine va_put hexec hb hts hin ty0 hty hnm hown hK hP hD hS0 q0 he hc k hk hlink (fun _ h => h) hfin hd hn hfit hl hdg ?_
  rw [hw]
  exact kk
theorem x_putF (hexec : p.tables.exec = Jvm.exec) (hb : c.code = cc) {own C : String} {T : u_T} {N ci index : Nat} {Ts : List Cond} {tys : List (ClassId × FieldType)} (hts : ∀ w ∈ Ts, w.before args s = true) (hin : ∀ w ∈ u_ws C T N, w ∈ Ts) (ty0 : Nat → FieldType) (hty : ∀ k, k < N → parseFieldDescriptor (T k).2.2.1 = some (ty0 k)) (hnm : ∀ a, a < N → ∀ b, b < N → a ≠ b → (T a).2.1 ≠ (T b).2.1) (hown : s.vm.findClass own = some m.cls) (hK : va_K D vwCl tys s) (hP : va_P D vwCl ws H) (hD : va_D A ws) (hS0 : va_S A H0 H locs) (q0 : Nat) {fs : List Value} (he : ws[q0]? = some (a, .inr (ci, fs))) (hc : vwCl[ci]? = some (C, T, N)) (k : Nat) (hk : k < N) (hlink : (Cond.fieldLink own index (T k).1 (T k).2.1 (T k).2.2.1).before args s = true) (hfin : (T k).2.2.2 = true) (hin2 : meth.name = "<init>") (hdecl : (T k).1 = own) {ty : FieldType} {v : Value} (hd : parseFieldDescriptor (T k).2.2.1 = some ty) (hn : narrow ty v = v) (hfit : fits ty v = true) (hl : k < fs.length) {ws' : va_W} (hw : ws.set q0 (a, .inr (ci, fs.set k v)) = ws')
    (hdg : decode cc pc = .ok (.putfield index, 3)) (kk : ∀ (H1 : Heap) (locs1 : List Loc), va_P D vwCl ws' H1 → va_D A ws' → va_S A H0 H1 locs1 → W p l e R s m args below meth c H1 locs1 cells slots Q (F0 m (pc + 3) ls rest)) : W p l e R s m args below meth c H locs cells slots Q (F0 m pc ls (v :: .ref a :: rest)) := by
  refine va_putF hexec hb hts hin ty0 hty hnm hown hK hP hD hS0 q0 he hc k hk hlink (fun _ h => h) hfin hin2 hdecl hd hn hfit hl hdg ?_
  rw [hw]
  exact kk
theorem x_calli {wc wc' wr ws' : va_W} {st0 : List Value} {av : Array Value} {post : Int32 → Prop} (hP : va_P D vwCl ws H) (hD : va_D A ws) (hS : va_S A H0 H locs) (hA : ∀ q, H0.size ≤ q → A q) (isC isR : List Nat) (hC : isC.map (fun i => ws[i]?) = wc.map some) (hR : isR.map (fun i => ws[i]?) = wr.map some) (hn : va_nd isR = true) (hdis : ∀ i ∈ isR, i ∉ isC)
    (pm : List Nat) (hpn : va_nd pm = true) (hpm : pm.map (fun i => (wr ++ wc')[i]?) = ws'.map some) (hr : va_Run p l e R s m args below meth c H locs cells slots 0 0 (F0 m pc ls st0) rest (QcI post D (va_A wc H.size) wc' av) (va_A wc H.size))
    (kk : ∀ (r : Int32), post r → ∀ (H1 : Heap) (locs1 : List Loc), va_P D vwCl ws' H1 → va_D A ws' → va_S A H0 H1 locs1 → W p l e R s m args below meth c H1 locs1 cells slots Q (F0 m (pc + 3) ls (.int r :: rest))) : W p l e R s m args below meth c H locs cells slots Q (F0 m pc ls st0) := by
  have hFc := va_free (wc := wc) hD hS hA isC hC
  refine va_calli hr hS (fun q _ h => hFc q h) hFc (fun r u t H1 locs1 ht hvm hw hB hz1 hk1 hS1 => ?_)
  obtain ⟨hP1, hD1⟩ := hB
  rw [ht] at hP1
  obtain ⟨hP2, hD2⟩ := va_join hP hD isC isR hC hR hn hdis hk1 hFc hP1 hD1
  exact kk r hw H1 locs1 (x_Psub hP2 pm hpm) (hD2.sub pm hpn hpm) hS1
end MK
def wi (v lo hi : Int32) : Int32 := if lo ≤ v then (if v ≤ hi then 1 else 0) else 0
theorem wi_t {v lo hi : Int32} (h : ¬ wi v lo hi = 0) : lo ≤ v ∧ v ≤ hi := by
  unfold wi at h
  by_cases h1 : lo ≤ v
  · by_cases h2 : v ≤ hi
    · exact ⟨h1, h2⟩
    · rw [if_pos h1, if_neg h2] at h; exact absurd rfl h
  · rw [if_neg h1] at h; exact absurd rfl h
theorem wi_f {v lo hi : Int32} (h : wi v lo hi = 0) (h1 : lo ≤ v) (h2 : v ≤ hi) : False := by
  unfold wi at h
  rw [if_pos h1, if_pos h2] at h
  exact absurd h (by decide)
theorem wi_1 {v lo hi : Int32} (h1 : lo ≤ v) (h2 : v ≤ hi) : wi v lo hi = 1 := by
  unfold wi; rw [if_pos h1, if_pos h2]
theorem i_le {a b : Int32} : a ≤ b ↔ a.toInt ≤ b.toInt := Int32.le_iff_toInt_le
theorem nI_lit (k : Nat) : nI k = Int32.ofNat k := rfl
theorem wi_nat {v : Int32} {hi : Int32} {n : Nat} (hM : hi.toInt = n) (h : ¬ wi v 0 hi = 0) : ∃ j : Nat, j ≤ n ∧ v = nI j := by
  obtain ⟨h1, h2⟩ := wi_t h
  refine nI_of2 hM ?_ h2
  rw [Int32.lt_iff_toInt_lt, Int32.toInt_zero]
  rw [Int32.le_iff_toInt_le, Int32.toInt_zero] at h1
  omega
def fillTo {α : Type} (f : Nat → α) (k : Nat) (v : α) : Nat → α := fun j => if j < k then v else f j
theorem fill_0 {α : Type} (f : Nat → α) (v : α) : fillTo f 0 v = f := by funext j; simp [fillTo]
theorem fill_s (f : Nat → Int32) (k : Nat) (v : Int32) : upd (fillTo f k v) k v = fillTo f (k + 1) v := by
  funext j
  unfold upd fillTo
  by_cases h : j = k
  · subst h; simp
  · by_cases h2 : j < k
    · simp [h, h2, Nat.lt_succ_of_lt h2]
    · have : ¬ j < k + 1 := by omega
      simp [h, h2, this]
theorem fill_sL (f : Nat → Int64) (k : Nat) (v : Int64) : vp_updL (fillTo f k v) k v = fillTo f (k + 1) v := by
  funext j
  unfold vp_updL fillTo
  by_cases h : j = k
  · subst h; simp
  · by_cases h2 : j < k
    · simp [h, h2, Nat.lt_succ_of_lt h2]
    · have : ¬ j < k + 1 := by omega
      simp [h, h2, this]
def mapTo {α : Type} (f : Nat → α) (k : Nat) (g : Nat → α) : Nat → α := fun j => if j < k then g j else f j
theorem map_0 {α : Type} (f g : Nat → α) : mapTo f 0 g = f := by funext j; simp [mapTo]
theorem map_s (f : Nat → Int32) (k : Nat) (g : Nat → Int32) : upd (mapTo f k g) k (g k) = mapTo f (k + 1) g := by
  funext j
  unfold upd mapTo
  by_cases h : j = k
  · subst h; simp
  · by_cases h2 : j < k
    · simp [h, h2, Nat.lt_succ_of_lt h2]
    · have : ¬ j < k + 1 := by omega
      simp [h, h2, this]
theorem map_sL (f : Nat → Int64) (k : Nat) (g : Nat → Int64) : vp_updL (mapTo f k g) k (g k) = mapTo f (k + 1) g := by
  funext j
  unfold vp_updL mapTo
  by_cases h : j = k
  · subst h; simp
  · by_cases h2 : j < k
    · simp [h, h2, Nat.lt_succ_of_lt h2]
    · have : ¬ j < k + 1 := by omega
      simp [h, h2, this]
theorem if1_t {p : Prop} [Decidable p] (h : ¬ (if p then (1 : Int32) else 0) = 0) : p := by
  by_cases hp : p
  · exact hp
  · rw [if_neg hp] at h; exact absurd rfl h
theorem if1_f {p : Prop} [Decidable p] (h : (if p then (1 : Int32) else 0) = 0) : ¬ p := by
  intro hp
  rw [if_pos hp] at h
  exact absurd h (by decide)
theorem x_dec (x : Int32) : x + Int32.ofInt (-1) = x - 1 := by rw [Int32.sub_eq_add_neg]; rfl
theorem x_pos_of {j : Nat} (hj : j < 2 ^ 31) (h : ¬ nI j - 1 < 0) : ∃ i, j = i + 1 := by
  cases j with
  | zero => exact absurd (by decide) h
  | succ i => exact ⟨i, rfl⟩
theorem x_zero_of {j : Nat} (hj : j < 2 ^ 31) (h : nI j - 1 < 0) : j = 0 := by
  cases j with
  | zero => rfl
  | succ i => rw [nI_pred] at h; exact absurd h (nI_pos (by omega))
theorem wi_0 {v lo hi : Int32} (h : ¬ (lo ≤ v ∧ v ≤ hi)) : wi v lo hi = 0 := by
  unfold wi
  by_cases h1 : lo ≤ v
  · by_cases h2 : v ≤ hi
    · exact absurd ⟨h1, h2⟩ h
    · rw [if_pos h1, if_neg h2]
  · rw [if_neg h1]
theorem wi_nar (v lo hi : Int32) : narrow .boolean (.int (wi v lo hi)) = .int (wi v lo hi) := by
  unfold wi
  by_cases h1 : lo ≤ v
  · by_cases h2 : v ≤ hi
    · rw [if_pos h1, if_pos h2]; decide
    · rw [if_pos h1, if_neg h2]; decide
  · rw [if_neg h1]; decide
end
section
def stnd (st ca ak cb bk : Nat → Int32) (ga gb : Nat → Int64) (key : Int32) : Nat → Int64
  | 0 => 0
  | i + 1 => if st i = 2 ∨ st i = 3 then (if ca i ≠ 0 ∧ ak i = key then ga i else if cb i ≠ 0 ∧ bk i = key then gb i else stnd st ca ak cb bk ga gb key i) else stnd st ca ak cb bk ga gb key i
def lstO (st : Nat → Int32) (e : Nat) : Nat → Nat → Int32
  | 0, _ => -1
  | n + 1, k => if k < e then (if st k = 0 then nI k else lstO st e n (k + 1)) else -1
def fails (oc : Nat → Int32) (e : Nat) : Nat → Nat → Int32 → Int32
  | 0, _, r => r
  | n + 1, k, r => if k < e then fails oc e n (k + 1) (if oc k = 2 then r + 1 else r) else r
def wOut (op : Int32) (x y c : Int64) : Int32 := if op = 0 then 1 else if op = 1 then 1 else if op = 2 then (if x < c ∨ c < 0 then 2 else 1) else if op = 3 then (if x < c then 2 else 1) else if op = 4 then 1 else if x = y then 1 else 2
def wChA (op a b : Int32) (x c : Int64) : Int32 := if op = 2 then (if (x < c ∨ c < 0) ∨ a = b then 0 else 1) else if op = 4 then 1 else 0
def wChB (op a b : Int32) (x y c : Int64) : Int32 := if op = 0 then 1 else if op = 1 then 1 else if op = 2 then (if (x < c ∨ c < 0) ∨ a = b then 0 else 1) else if op = 3 then 0 else if op = 4 then 1 else if x = y then 1 else 0
def wGA (op : Int32) (x y c : Int64) : Int64 := if op = 2 then x - c else y
def wGB (op : Int32) (x y c : Int64) : Int64 := if op = 0 then c else if op = 1 then y + x + c else if op = 2 then y + c else if op = 4 then x else c
theorem upd_upd (f : Nat → Int32) (k : Nat) (a b : Int32) : upd (upd f k a) k b = upd f k b := by
  funext j; unfold upd; by_cases h : j = k <;> simp [h]
theorem updL_updL (f : Nat → Int64) (k : Nat) (a b : Int64) : vp_updL (vp_updL f k a) k b = vp_updL f k b := by
  funext j; unfold vp_updL; by_cases h : j = k <;> simp [h]
theorem upd_s (f : Nat → Int32) (k : Nat) (a : Int32) : upd f k a k = a := by simp [upd]
theorem sw4 (x : Int32) : x = 0 ∨ x = 1 ∨ x = 2 ∨ x = 3 ∨ x = 4 ∨ (¬ x = 0 ∧ ¬ x = 1 ∧ ¬ x = 2 ∧ ¬ x = 3 ∧ ¬ x = 4 ∧ (x.toInt < 0 ∨ 4 < x.toInt)) := by
  by_cases h0 : x = 0
  · exact Or.inl h0
  by_cases h1 : x = 1
  · exact Or.inr (Or.inl h1)
  by_cases h2 : x = 2
  · exact Or.inr (Or.inr (Or.inl h2))
  by_cases h3 : x = 3
  · exact Or.inr (Or.inr (Or.inr (Or.inl h3)))
  by_cases h4 : x = 4
  · exact Or.inr (Or.inr (Or.inr (Or.inr (Or.inl h4))))
  refine Or.inr (Or.inr (Or.inr (Or.inr (Or.inr ⟨h0, h1, h2, h3, h4, ?_⟩))))
  have g0 : x.toInt ≠ 0 := fun h => h0 (Int32.toInt_inj.mp h)
  have g1 : x.toInt ≠ 1 := fun h => h1 (Int32.toInt_inj.mp h)
  have g2 : x.toInt ≠ 2 := fun h => h2 (Int32.toInt_inj.mp h)
  have g3 : x.toInt ≠ 3 := fun h => h3 (Int32.toInt_inj.mp h)
  have g4 : x.toInt ≠ 4 := fun h => h4 (Int32.toInt_inj.mp h)
  omega
theorem sw2 (x : Int32) : x = 0 ∨ x = 1 ∨ x = 2 ∨ (¬ x = 0 ∧ ¬ x = 1 ∧ ¬ x = 2 ∧ (x.toInt < 0 ∨ 2 < x.toInt)) := by
  by_cases h0 : x = 0
  · exact Or.inl h0
  by_cases h1 : x = 1
  · exact Or.inr (Or.inl h1)
  by_cases h2 : x = 2
  · exact Or.inr (Or.inr (Or.inl h2))
  refine Or.inr (Or.inr (Or.inr ⟨h0, h1, h2, ?_⟩))
  have g0 : x.toInt ≠ 0 := fun h => h0 (Int32.toInt_inj.mp h)
  have g1 : x.toInt ≠ 1 := fun h => h1 (Int32.toInt_inj.mp h)
  have g2 : x.toInt ≠ 2 := fun h => h2 (Int32.toInt_inj.mp h)
  omega
end
section
set_option maxHeartbeats 4000000 in
set_option maxRecDepth 100000 in
theorem k_within (l : Launch) (D : va_G) (cI cJ cZ : ClassId) (v lo hi : Int32) : Met l yX4_within wsX4_within ({ frames := 0, cells := 0, slots := 0, locals := 0 }) (PcRO [.int v, .int lo, .int hi] D cI cJ cZ []) (vp_Si (fun r => r = wi v lo hi)) 0 0 noF := by
  refine Met.ofW (cc := cX4_within) (maxL := 3) (ret := some .boolean) (by decide) rfl ?_
  intro p e s m args below meth c s₁ B hml hv
  obtain ⟨rfl, hP, hE⟩ := hv
  have hx := B.exec
  have hb := B.bytes
  have hr := B.returns
  have hts := atoms_spec (ws := wsX4_within) B.pre
  have hown : s.vm.findClass RX4 = some m.cls := findClass_of_methodNamed B.named
  have hlocks := B.notSynchronized
  have hK := hE.1
  have hl := lv_entry ([.int v, .int lo, .int hi]) (n := 3) (Nat.le_of_ble_eq_true rfl)
  rw [lg_entry_eq]
  generalize (lg_sl ([.int v, .int lo, .int hi]) ++ List.replicate (3 - (lg_sl ([.int v, .int lo, .int hi])).length) Slot.unset).toArray = ls at hl ⊢
  have hl : lv_has ls 3 [(0, .int v), (1, .int lo), (2, .int hi)] := hl
  refine lv_iload_n hx hb dX4_within_0 rfl (lv_at hl 0 rfl) ?_
  refine lv_iload_n hx hb dX4_within_1 rfl (lv_at hl 1 rfl) ?_
  refine lv_icmp_lt (tgt := 14) hx hb dX4_within_2 (by decide) (fun c2 => ?_) (fun c2 => ?_)
  · refine lv_iconst (v := 0) hx hb dX4_within_14 (by decide) ?_
    exact W.zret hx hb hr (by decide) (fun t ht hW => ⟨_, rfl, (wi_0 (fun h => Int32.not_le.mpr c2 h.1)).symm, ht⟩) (fun q h => by cases h) dX4_within_15
  · refine lv_iload_n hx hb dX4_within_5 rfl (lv_at hl 0 rfl) ?_
    refine lv_iload_n hx hb dX4_within_6 rfl (lv_at hl 2 rfl) ?_
    refine lv_icmp_gt (tgt := 14) hx hb dX4_within_7 (by decide) (fun c7 => ?_) (fun c7 => ?_)
    · refine lv_iconst (v := 0) hx hb dX4_within_14 (by decide) ?_
      exact W.zret hx hb hr (by decide) (fun t ht hW => ⟨_, rfl, (wi_0 (fun h => Int32.not_le.mpr c7 h.2)).symm, ht⟩) (fun q h => by cases h) dX4_within_15
    · refine lv_iconst (v := 1) hx hb dX4_within_10 (by decide) ?_
      refine lv_goto (tgt := 15) hx hb dX4_within_11 (by decide) ?_
      exact W.zret hx hb hr (by decide) (fun t ht hW => ⟨_, rfl, (wi_1 (Int32.not_lt.mp c2) (Int32.not_lt.mp c7)).symm, ht⟩) (fun q h => by cases h) dX4_within_15
set_option maxHeartbeats 4000000 in
set_option maxRecDepth 100000 in
theorem k_isCrew (l : Launch) (D : va_G) (cI cJ cZ : ClassId) (v : Int32) : Met l yX4_isCrew wsX4_isCrew ({ frames := 1, cells := 0, slots := 0, locals := 22 }) (PcRO [.int v] D cI cJ cZ []) (vp_Si (fun r => r = wi v 1 16)) 0 0 noF := by
  refine Met.ofW (cc := cX4_isCrew) (maxL := 1) (ret := some .boolean) (by decide) rfl ?_
  intro p e s m args below meth c s₁ B hml hv
  obtain ⟨rfl, hP, hE⟩ := hv
  have hx := B.exec
  have hb := B.bytes
  have hr := B.returns
  have hts := atoms_spec (ws := wsX4_isCrew) B.pre
  have hown : s.vm.findClass RX4 = some m.cls := findClass_of_methodNamed B.named
  have hlocks := B.notSynchronized
  have hK := hE.1
  have hl := lv_entry ([.int v]) (n := 1) (Nat.le_of_ble_eq_true rfl)
  rw [lg_entry_eq]
  generalize (lg_sl ([.int v]) ++ List.replicate (1 - (lg_sl ([.int v])).length) Slot.unset).toArray = ls at hl ⊢
  have hl : lv_has ls 1 [(0, .int v)] := hl
  refine lv_iload_n hx hb dX4_isCrew_0 rfl (lv_at hl 0 rfl) ?_
  refine lv_iconst (v := 1) hx hb dX4_isCrew_1 (by decide) ?_
  refine lv_bipush (v := 16) hx hb dX4_isCrew_2 (by decide) ?_
  refine vp_callSi (va_Run.run (va_runS (As := [.int v, .int 1, .int 16]) (rest := []) ⟨hx, hb, hml, hown, hts⟩ (k_within l D cI cJ cZ v 1 16) (cwS 3 hts gX4_isCrew_X4_within rfl rfl rfl (by decide +kernel) ⟨Nat.le_of_ble_eq_true rfl, Nat.le_of_ble_eq_true rfl⟩) ⟨bl_ro, fun U hU hW => ⟨rfl, by rw [hU]; exact (hP.sub (ws' := []) [] rfl), hE.warm2 hW⟩⟩ rfl rfl hl.1 rfl (lv_room (Nat.le_of_ble_eq_true rfl)) dX4_isCrew_4 ⟨Nat.zero_le _, Nat.zero_le _⟩)) (fun r3 hr3 => ?_)
  exact W.zret hx hb hr (by rw [hr3]; exact wi_nar _ _ _) (fun t ht hW => ⟨_, rfl, hr3, ht⟩) (fun q h => by cases h) dX4_isCrew_7
set_option maxHeartbeats 4000000 in
set_option maxRecDepth 100000 in
theorem k_in (l : Launch) (D : va_G) (cI cJ cZ : ClassId) (v lo hi : Int32) : Met l yX5_in wsX5_in ({ frames := 0, cells := 0, slots := 0, locals := 0 }) (PcRO [.int v, .int lo, .int hi] D cI cJ cZ []) (vp_Si (fun r => r = wi v lo hi)) 0 0 noF := by
  refine Met.ofW (cc := cX5_in) (maxL := 3) (ret := some .boolean) (by decide) rfl ?_
  intro p e s m args below meth c s₁ B hml hv
  obtain ⟨rfl, hP, hE⟩ := hv
  have hx := B.exec
  have hb := B.bytes
  have hr := B.returns
  have hts := atoms_spec (ws := wsX5_in) B.pre
  have hown : s.vm.findClass RX5 = some m.cls := findClass_of_methodNamed B.named
  have hlocks := B.notSynchronized
  have hK := hE.1
  have hl := lv_entry ([.int v, .int lo, .int hi]) (n := 3) (Nat.le_of_ble_eq_true rfl)
  rw [lg_entry_eq]
  generalize (lg_sl ([.int v, .int lo, .int hi]) ++ List.replicate (3 - (lg_sl ([.int v, .int lo, .int hi])).length) Slot.unset).toArray = ls at hl ⊢
  have hl : lv_has ls 3 [(0, .int v), (1, .int lo), (2, .int hi)] := hl
  refine lv_iload_n hx hb dX5_in_0 rfl (lv_at hl 0 rfl) ?_
  refine lv_iload_n hx hb dX5_in_1 rfl (lv_at hl 1 rfl) ?_
  refine lv_icmp_lt (tgt := 14) hx hb dX5_in_2 (by decide) (fun c2 => ?_) (fun c2 => ?_)
  · refine lv_iconst (v := 0) hx hb dX5_in_14 (by decide) ?_
    exact W.zret hx hb hr (by decide) (fun t ht hW => ⟨_, rfl, (wi_0 (fun h => Int32.not_le.mpr c2 h.1)).symm, ht⟩) (fun q h => by cases h) dX5_in_15
  · refine lv_iload_n hx hb dX5_in_5 rfl (lv_at hl 0 rfl) ?_
    refine lv_iload_n hx hb dX5_in_6 rfl (lv_at hl 2 rfl) ?_
    refine lv_icmp_gt (tgt := 14) hx hb dX5_in_7 (by decide) (fun c7 => ?_) (fun c7 => ?_)
    · refine lv_iconst (v := 0) hx hb dX5_in_14 (by decide) ?_
      exact W.zret hx hb hr (by decide) (fun t ht hW => ⟨_, rfl, (wi_0 (fun h => Int32.not_le.mpr c7 h.2)).symm, ht⟩) (fun q h => by cases h) dX5_in_15
    · refine lv_iconst (v := 1) hx hb dX5_in_10 (by decide) ?_
      refine lv_goto (tgt := 15) hx hb dX5_in_11 (by decide) ?_
      exact W.zret hx hb hr (by decide) (fun t ht hW => ⟨_, rfl, (wi_1 (Int32.not_lt.mp c2) (Int32.not_lt.mp c7)).symm, ht⟩) (fun q h => by cases h) dX5_in_15
set_option maxHeartbeats 4000000 in
set_option maxRecDepth 100000 in
theorem k_hasEnded (l : Launch) (D : va_G) (cI cJ cZ : ClassId) (h hB q1 q2 q3 q4 q5 q6 q7 q8 q9 q10 q11 q12 q13 : Nat) (st : Nat → Int32) (k : Nat) (hk : k < 40) : Met l yX3_hasEnded wsX3_hasEnded ({ frames := 0, cells := 0, slots := 0, locals := 0 }) (PcRO [.ref h, .int (nI k)] D cI cJ cZ [(h, .inr (3, [.ref hB, .ref q1, .ref q2, .ref q3, .ref q4, .ref q5, .ref q6, .ref q7, .ref q8, .ref q9, .ref q10, .ref q11, .ref q12, .ref q13])), (q1, .inl (cI, 40, .inl st))]) (vp_Si (fun r => r = if st k = 2 ∨ st k = 3 then 1 else 0)) 0 0 noF := by
  refine Met.ofW (cc := cX3_hasEnded) (maxL := 2) (ret := some .boolean) (by decide) rfl ?_
  intro p e s m args below meth c s₁ B hml hv
  obtain ⟨rfl, hP, hE⟩ := hv
  have hx := B.exec
  have hb := B.bytes
  have hr := B.returns
  have hts := atoms_spec (ws := wsX3_hasEnded) B.pre
  have hown : s.vm.findClass RX3 = some m.cls := findClass_of_methodNamed B.named
  have hlocks := B.notSynchronized
  have hK := hE.1
  have hl := lv_entry ([.ref h, .int (nI k)]) (n := 2) (Nat.le_of_ble_eq_true rfl)
  rw [lg_entry_eq]
  generalize (lg_sl ([.ref h, .int (nI k)]) ++ List.replicate (2 - (lg_sl ([.ref h, .int (nI k)])).length) Slot.unset).toArray = ls at hl ⊢
  have hl : lv_has ls 2 [(0, .ref h), (1, .int (nI k))] := hl
  have hinX3 : ∀ w ∈ u_ws RX3 TX3 14, w ∈ wsX3_hasEnded := fun _ h => List.mem_cons_of_mem _ (List.mem_append_right _ h)
  refine lv_aload_n hx hb dX3_hasEnded_0 rfl (lv_at hl 0 rfl) ?_
  refine va_get (D := D) (ci := 3) (v := .ref q1) (C := RX3) (T := TX3) (N := 14) hx hb hts hinX3 hown hK hP 0 rfl rfl 1 (by decide) (hts (.fieldLink RX3 9 "LedgerShares$Sheet" "stages" "[I") (List.mem_of_getElem? (i := 1) rfl)) (fun _ h9 => h9) rfl dX3_hasEnded_1 ?_
  refine lv_iload_n hx hb dX3_hasEnded_4 rfl (lv_at hl 1 rfl) ?_
  refine x_iald hx hb hE hP 1 rfl (k) hk (by decide) (rfl) dX3_hasEnded_5 ?_
  refine lv_iconst (v := 2) hx hb dX3_hasEnded_6 (by decide) ?_
  refine lv_icmp_eq (tgt := 20) hx hb dX3_hasEnded_7 (by decide) (fun c7 => ?_) (fun c7 => ?_)
  · refine lv_iconst (v := 1) hx hb dX3_hasEnded_20 (by decide) ?_
    refine lv_goto (tgt := 25) hx hb dX3_hasEnded_21 (by decide) ?_
    exact W.zret hx hb hr (by decide) (fun t ht hW => ⟨_, rfl, by simp [c7], ht⟩) (fun q h => by cases h) dX3_hasEnded_25
  · refine lv_aload_n hx hb dX3_hasEnded_10 rfl (lv_at hl 0 rfl) ?_
    refine va_get (D := D) (ci := 3) (v := .ref q1) (C := RX3) (T := TX3) (N := 14) hx hb hts hinX3 hown hK hP 0 rfl rfl 1 (by decide) (hts (.fieldLink RX3 9 "LedgerShares$Sheet" "stages" "[I") (List.mem_of_getElem? (i := 1) rfl)) (fun _ h9 => h9) rfl dX3_hasEnded_11 ?_
    refine lv_iload_n hx hb dX3_hasEnded_14 rfl (lv_at hl 1 rfl) ?_
    refine x_iald hx hb hE hP 1 rfl (k) hk (by decide) (rfl) dX3_hasEnded_15 ?_
    refine lv_iconst (v := 3) hx hb dX3_hasEnded_16 (by decide) ?_
    refine lv_icmp_ne (tgt := 24) hx hb dX3_hasEnded_17 (by decide) (fun c17 => ?_) (fun c17 => ?_)
    · refine lv_iconst (v := 0) hx hb dX3_hasEnded_24 (by decide) ?_
      exact W.zret hx hb hr (by decide) (fun t ht hW => ⟨_, rfl, by simp [c7, c17], ht⟩) (fun q h => by cases h) dX3_hasEnded_25
    · refine lv_iconst (v := 1) hx hb dX3_hasEnded_20 (by decide) ?_
      refine lv_goto (tgt := 25) hx hb dX3_hasEnded_21 (by decide) ?_
      exact W.zret hx hb hr (by decide) (fun t ht hW => ⟨_, rfl, by simp [c7, c17], ht⟩) (fun q h => by cases h) dX3_hasEnded_25
set_option maxHeartbeats 4000000 in
set_option maxRecDepth 100000 in
theorem k_standing (l : Launch) (D : va_G) (cI cJ cZ : ClassId) (h hB q1 q2 q3 q4 q5 q6 q7 q8 q9 q10 q11 q12 q13 : Nat) (st ca cb : Nat → Int32) (ga gb : Nat → Int64) (b1 b2 b3 b4 b5 b6 : Nat) (bz : Int32) (ak bk : Nat → Int32) (key : Int32) (kc : Nat) (hkc : kc ≤ 40) : Met l yX3_standing wsX3_standing ({ frames := 1, cells := 0, slots := 0, locals := 21 }) (PcRO [.ref h, .int (nI kc), .int key] D cI cJ cZ [(h, .inr (3, [.ref hB, .ref q1, .ref q2, .ref q3, .ref q4, .ref q5, .ref q6, .ref q7, .ref q8, .ref q9, .ref q10, .ref q11, .ref q12, .ref q13])), (q1, .inl (cI, 40, .inl st)), (q5, .inl (cZ, 40, .inl ca)), (q6, .inl (cZ, 40, .inl cb)), (q7, .inl (cJ, 40, .inr (.inl ga))), (q8, .inl (cJ, 40, .inr (.inl gb))), (hB, .inr (0, [.int bz, .ref b1, .ref b2, .ref b3, .ref b4, .ref b5, .ref b6])), (b2, .inl (cI, 40, .inl ak)), (b3, .inl (cI, 40, .inl bk))]) (vp_Sl (fun r => r = stnd st ca ak cb bk ga gb key kc)) 0 0 noF := by
  refine Met.ofW (cc := cX3_standing) (maxL := 4) (ret := some .long) (by decide) rfl ?_
  intro p e s m args below meth c s₁ B hml hv
  obtain ⟨rfl, hP, hE⟩ := hv
  have hx := B.exec
  have hb := B.bytes
  have hr := B.returns
  have hts := atoms_spec (ws := wsX3_standing) B.pre
  have hown : s.vm.findClass RX3 = some m.cls := findClass_of_methodNamed B.named
  have hlocks := B.notSynchronized
  have hK := hE.1
  have hl := lv_entry ([.ref h, .int (nI kc), .int key]) (n := 4) (Nat.le_of_ble_eq_true rfl)
  rw [lg_entry_eq]
  generalize (lg_sl ([.ref h, .int (nI kc), .int key]) ++ List.replicate (4 - (lg_sl ([.ref h, .int (nI kc), .int key])).length) Slot.unset).toArray = ls at hl ⊢
  have hl : lv_has ls 4 [(0, .ref h), (1, .int (nI kc)), (2, .int key)] := hl
  have hinX0 : ∀ w ∈ u_ws RX0 TX0 7, w ∈ wsX3_standing := fun _ h => List.mem_cons_of_mem _ (List.mem_append_right _ h)
  have hinX3 : ∀ w ∈ u_ws RX3 TX3 14, w ∈ wsX3_standing := fun _ h => List.mem_cons_of_mem _ (List.mem_append_left _ (List.mem_append_right _ h))
  refine lv_iload_n hx hb dX3_standing_0 rfl (lv_at hl 1 rfl) ?_
  refine lv_bipush (v := 40) hx hb dX3_standing_1 (by decide) ?_
  refine va_mmin hx hb (by rw [hml]; exact hl.1.symm) hown (hts (.methodLink RX3 57 Lib.Math.min.name) (List.mem_of_getElem? (i := 1) rfl)) (hts (.static Lib.Math.min.name) (List.mem_of_getElem? (i := 2) rfl)) (hts (.initialized "java/lang/Math") (List.mem_of_getElem? (i := 3) rfl)) (hts (.code Lib.Math.min.name Lib.Math.min.code 2 (some .int)) (List.mem_of_getElem? (i := 4) rfl)) (Nat.le_of_ble_eq_true rfl) (Nat.le_of_ble_eq_true rfl) (Nat.zero_le _) (Nat.zero_le _) dX3_standing_3 ?_
  refine x_topi (y := nI kc) (if_neg (nI_nlt (a := 40) (b := kc) hkc (by decide))) ?_
  refine lv_iconst (v := 1) hx hb dX3_standing_6 (by decide) ?_
  refine lv_isub hx hb dX3_standing_7 ?_
  refine lv_istore_n (lv' := [(3, .int ((nI kc) - 1)), (0, .ref h), (1, .int (nI kc)), (2, .int key)]) hx hb dX3_standing_8 rfl hl (by decide) rfl (fun ls hl => ?_)
  have loop9 : ∀ (n : Nat) (j : Nat), (j ≤ 40) → (j < n) → (stnd st ca ak cb bk ga gb key kc = stnd st ca ak cb bk ga gb key j) → ∀ (ls : Array Slot), lv_has ls 4 [(3, .int (nI j - 1)), (0, .ref h), (1, .int (nI kc)), (2, .int key)] → W p l e (headSpec wsX3_standing ({ frames := 1, cells := 0, slots := 0, locals := 21 })).room s m ([.ref h, .int (nI kc), .int key].toArray) below meth c s.heap [] 0 0 (MQ below (vp_Sl (fun r => r = stnd st ca ak cb bk ga gb key kc)) ([.ref h, .int (nI kc), .int key].toArray) s 0 0 noF) (F0 m 9 ls []) := by
    intro n
    induction n with
    | zero =>
      intro j hj hf hinv
      exact absurd hf (by omega)
    | succ n ih9 =>
      intro j hj hf hinv ls hl
      refine lv_iload_n hx hb dX3_standing_9 rfl (lv_at hl 0 rfl) ?_
      refine lv_if_lt (tgt := 85) hx hb dX3_standing_10 (by decide) (fun c10 => ?_) (fun c10 => ?_)
      · refine lv_lconst (v := 0) hx hb dX3_standing_85 (by decide) ?_
        exact W.lret hx hb hr (fun t ht hW => ⟨_, rfl, by rw [hinv, x_zero_of (by omega) c10]; rfl, ht⟩) (fun q h => by cases h) dX3_standing_86
      · obtain ⟨i, rfl⟩ := x_pos_of (by omega) c10
        rw [nI_pred] at hl
        refine lv_aload_n hx hb dX3_standing_13 rfl (lv_at hl 1 rfl) ?_
        refine lv_iload_n hx hb dX3_standing_14 rfl (lv_at hl 0 rfl) ?_
        refine vp_callSi (va_Run.run (va_runV (As := [.int (nI i)]) (rest := []) ⟨hx, hb, hml, hown, hts⟩ (k_hasEnded l D cI cJ cZ h hB q1 q2 q3 q4 q5 q6 q7 q8 q9 q10 q11 q12 q13 st i (by omega)) (cwV 1 hts gX3_standing_X3_hasEnded rfl rfl rfl (by decide +kernel) ⟨Nat.le_of_ble_eq_true rfl, Nat.le_of_ble_eq_true rfl⟩) ⟨bl_ro, va_recv hK (hP.sub (ws' := [(h, .inr (3, [.ref hB, .ref q1, .ref q2, .ref q3, .ref q4, .ref q5, .ref q6, .ref q7, .ref q8, .ref q9, .ref q10, .ref q11, .ref q12, .ref q13])), (q1, .inl (cI, 40, .inl st))]) [0, 1] rfl) (ci := 3) (q0 := 0) rfl rfl, fun U hU hW => ⟨rfl, by rw [hU]; exact (hP.sub (ws' := [(h, .inr (3, [.ref hB, .ref q1, .ref q2, .ref q3, .ref q4, .ref q5, .ref q6, .ref q7, .ref q8, .ref q9, .ref q10, .ref q11, .ref q12, .ref q13])), (q1, .inl (cI, 40, .inl st))]) [0, 1] rfl), hE.warm2 hW⟩⟩ rfl rfl hl.1 rfl (lv_room (Nat.le_of_ble_eq_true rfl)) dX3_standing_15 ⟨Nat.zero_le _, Nat.zero_le _⟩)) (fun r15 hr15 => ?_)
        refine lv_if_eq (tgt := 79) hx hb dX3_standing_18 (by decide) (fun c18 => ?_) (fun c18 => ?_)
        · refine lv_iinc (v := nI i - 1) (lv' := [(3, .int (nI i - 1)), (0, .ref h), (1, .int (nI kc)), (2, .int key)]) hx hb dX3_standing_79 hl (k := 0) rfl (x_dec _) (by decide) rfl (fun ls hl => ?_)
          refine lv_goto (tgt := 9) hx hb dX3_standing_82 (by decide) ?_
          exact ih9 i (by omega) (by omega) (by have e18 := if1_f (hr15.symm.trans c18); rw [hinv]; simp [stnd, e18]) ls (lv_sub hl [0, 1, 2, 3] rfl)
        · refine lv_aload_n hx hb dX3_standing_21 rfl (lv_at hl 1 rfl) ?_
          refine va_get (D := D) (ci := 3) (v := .ref q5) (C := RX3) (T := TX3) (N := 14) hx hb hts hinX3 hown hK hP 0 rfl rfl 5 (by decide) (hts (.fieldLink RX3 25 "LedgerShares$Sheet" "changesA" "[Z") (List.mem_of_getElem? (i := 5) rfl)) (fun _ h9 => h9) rfl dX3_standing_22 ?_
          refine lv_iload_n hx hb dX3_standing_25 rfl (lv_at hl 0 rfl) ?_
          refine x_zald hx hb hE hP 2 rfl (i) (by omega) (by decide) (rfl) dX3_standing_26 ?_
          refine lv_if_eq (tgt := 50) hx hb dX3_standing_27 (by decide) (fun c27 => ?_) (fun c27 => ?_)
          · refine lv_aload_n hx hb dX3_standing_50 rfl (lv_at hl 1 rfl) ?_
            refine va_get (D := D) (ci := 3) (v := .ref q6) (C := RX3) (T := TX3) (N := 14) hx hb hts hinX3 hown hK hP 0 rfl rfl 6 (by decide) (hts (.fieldLink RX3 29 "LedgerShares$Sheet" "changesB" "[Z") (List.mem_of_getElem? (i := 9) rfl)) (fun _ h9 => h9) rfl dX3_standing_51 ?_
            refine lv_iload_n hx hb dX3_standing_54 rfl (lv_at hl 0 rfl) ?_
            refine x_zald hx hb hE hP 3 rfl (i) (by omega) (by decide) (rfl) dX3_standing_55 ?_
            refine lv_if_eq (tgt := 79) hx hb dX3_standing_56 (by decide) (fun c56 => ?_) (fun c56 => ?_)
            · refine lv_iinc (v := nI i - 1) (lv' := [(3, .int (nI i - 1)), (0, .ref h), (1, .int (nI kc)), (2, .int key)]) hx hb dX3_standing_79 hl (k := 0) rfl (x_dec _) (by decide) rfl (fun ls hl => ?_)
              refine lv_goto (tgt := 9) hx hb dX3_standing_82 (by decide) ?_
              exact ih9 i (by omega) (by omega) (by have e18 := if1_t (fun z => c18 (hr15.trans z)); rw [hinv]; simp [stnd, e18, c27, c56]) ls (lv_sub hl [0, 1, 2, 3] rfl)
            · refine lv_aload_n hx hb dX3_standing_59 rfl (lv_at hl 1 rfl) ?_
              refine va_get (D := D) (ci := 3) (v := .ref hB) (C := RX3) (T := TX3) (N := 14) hx hb hts hinX3 hown hK hP 0 rfl rfl 0 (by decide) (hts (.fieldLink RX3 53 "LedgerShares$Sheet" "book" "LLedgerShares$Book;") (List.mem_of_getElem? (i := 6) rfl)) (fun _ h9 => h9) rfl dX3_standing_60 ?_
              refine va_get (D := D) (ci := 0) (v := .ref b3) (C := RX0) (T := TX0) (N := 7) hx hb hts hinX0 hown hK hP 6 rfl rfl 3 (by decide) (hts (.fieldLink RX3 72 "LedgerShares$Book" "bs" "[I") (List.mem_of_getElem? (i := 10) rfl)) (fun _ h9 => h9) rfl dX3_standing_63 ?_
              refine lv_iload_n hx hb dX3_standing_66 rfl (lv_at hl 0 rfl) ?_
              refine x_iald hx hb hE hP 8 rfl (i) (by omega) (by decide) (rfl) dX3_standing_67 ?_
              refine lv_iload_n hx hb dX3_standing_68 rfl (lv_at hl 3 rfl) ?_
              refine lv_icmp_ne (tgt := 79) hx hb dX3_standing_69 (by decide) (fun c69 => ?_) (fun c69 => ?_)
              · refine lv_iinc (v := nI i - 1) (lv' := [(3, .int (nI i - 1)), (0, .ref h), (1, .int (nI kc)), (2, .int key)]) hx hb dX3_standing_79 hl (k := 0) rfl (x_dec _) (by decide) rfl (fun ls hl => ?_)
                refine lv_goto (tgt := 9) hx hb dX3_standing_82 (by decide) ?_
                exact ih9 i (by omega) (by omega) (by have e18 := if1_t (fun z => c18 (hr15.trans z)); rw [hinv]; simp [stnd, e18, c27, c56, c69]) ls (lv_sub hl [0, 1, 2, 3] rfl)
              · refine lv_aload_n hx hb dX3_standing_72 rfl (lv_at hl 1 rfl) ?_
                refine va_get (D := D) (ci := 3) (v := .ref q8) (C := RX3) (T := TX3) (N := 14) hx hb hts hinX3 hown hK hP 0 rfl rfl 8 (by decide) (hts (.fieldLink RX3 35 "LedgerShares$Sheet" "givesB" "[J") (List.mem_of_getElem? (i := 11) rfl)) (fun _ h9 => h9) rfl dX3_standing_73 ?_
                refine lv_iload_n hx hb dX3_standing_76 rfl (lv_at hl 0 rfl) ?_
                refine x_lald hx hb hE hP 5 rfl (i) (by omega) (by decide) (rfl) dX3_standing_77 ?_
                exact W.lret hx hb hr (fun t ht hW => ⟨_, rfl, by have e18 := if1_t (fun z => c18 (hr15.trans z)); rw [hinv]; simp [stnd, e18, c27, c56, c69], ht⟩) (fun q h => by cases h) dX3_standing_78
          · refine lv_aload_n hx hb dX3_standing_30 rfl (lv_at hl 1 rfl) ?_
            refine va_get (D := D) (ci := 3) (v := .ref hB) (C := RX3) (T := TX3) (N := 14) hx hb hts hinX3 hown hK hP 0 rfl rfl 0 (by decide) (hts (.fieldLink RX3 53 "LedgerShares$Sheet" "book" "LLedgerShares$Book;") (List.mem_of_getElem? (i := 6) rfl)) (fun _ h9 => h9) rfl dX3_standing_31 ?_
            refine va_get (D := D) (ci := 0) (v := .ref b2) (C := RX0) (T := TX0) (N := 7) hx hb hts hinX0 hown hK hP 6 rfl rfl 2 (by decide) (hts (.fieldLink RX3 67 "LedgerShares$Book" "as" "[I") (List.mem_of_getElem? (i := 7) rfl)) (fun _ h9 => h9) rfl dX3_standing_34 ?_
            refine lv_iload_n hx hb dX3_standing_37 rfl (lv_at hl 0 rfl) ?_
            refine x_iald hx hb hE hP 7 rfl (i) (by omega) (by decide) (rfl) dX3_standing_38 ?_
            refine lv_iload_n hx hb dX3_standing_39 rfl (lv_at hl 3 rfl) ?_
            refine lv_icmp_ne (tgt := 50) hx hb dX3_standing_40 (by decide) (fun c40 => ?_) (fun c40 => ?_)
            · refine lv_aload_n hx hb dX3_standing_50 rfl (lv_at hl 1 rfl) ?_
              refine va_get (D := D) (ci := 3) (v := .ref q6) (C := RX3) (T := TX3) (N := 14) hx hb hts hinX3 hown hK hP 0 rfl rfl 6 (by decide) (hts (.fieldLink RX3 29 "LedgerShares$Sheet" "changesB" "[Z") (List.mem_of_getElem? (i := 9) rfl)) (fun _ h9 => h9) rfl dX3_standing_51 ?_
              refine lv_iload_n hx hb dX3_standing_54 rfl (lv_at hl 0 rfl) ?_
              refine x_zald hx hb hE hP 3 rfl (i) (by omega) (by decide) (rfl) dX3_standing_55 ?_
              refine lv_if_eq (tgt := 79) hx hb dX3_standing_56 (by decide) (fun c56 => ?_) (fun c56 => ?_)
              · refine lv_iinc (v := nI i - 1) (lv' := [(3, .int (nI i - 1)), (0, .ref h), (1, .int (nI kc)), (2, .int key)]) hx hb dX3_standing_79 hl (k := 0) rfl (x_dec _) (by decide) rfl (fun ls hl => ?_)
                refine lv_goto (tgt := 9) hx hb dX3_standing_82 (by decide) ?_
                exact ih9 i (by omega) (by omega) (by have e18 := if1_t (fun z => c18 (hr15.trans z)); rw [hinv]; simp [stnd, e18, c27, c40, c56]) ls (lv_sub hl [0, 1, 2, 3] rfl)
              · refine lv_aload_n hx hb dX3_standing_59 rfl (lv_at hl 1 rfl) ?_
                refine va_get (D := D) (ci := 3) (v := .ref hB) (C := RX3) (T := TX3) (N := 14) hx hb hts hinX3 hown hK hP 0 rfl rfl 0 (by decide) (hts (.fieldLink RX3 53 "LedgerShares$Sheet" "book" "LLedgerShares$Book;") (List.mem_of_getElem? (i := 6) rfl)) (fun _ h9 => h9) rfl dX3_standing_60 ?_
                refine va_get (D := D) (ci := 0) (v := .ref b3) (C := RX0) (T := TX0) (N := 7) hx hb hts hinX0 hown hK hP 6 rfl rfl 3 (by decide) (hts (.fieldLink RX3 72 "LedgerShares$Book" "bs" "[I") (List.mem_of_getElem? (i := 10) rfl)) (fun _ h9 => h9) rfl dX3_standing_63 ?_
                refine lv_iload_n hx hb dX3_standing_66 rfl (lv_at hl 0 rfl) ?_
                refine x_iald hx hb hE hP 8 rfl (i) (by omega) (by decide) (rfl) dX3_standing_67 ?_
                refine lv_iload_n hx hb dX3_standing_68 rfl (lv_at hl 3 rfl) ?_
                refine lv_icmp_ne (tgt := 79) hx hb dX3_standing_69 (by decide) (fun c69 => ?_) (fun c69 => ?_)
                · refine lv_iinc (v := nI i - 1) (lv' := [(3, .int (nI i - 1)), (0, .ref h), (1, .int (nI kc)), (2, .int key)]) hx hb dX3_standing_79 hl (k := 0) rfl (x_dec _) (by decide) rfl (fun ls hl => ?_)
                  refine lv_goto (tgt := 9) hx hb dX3_standing_82 (by decide) ?_
                  exact ih9 i (by omega) (by omega) (by have e18 := if1_t (fun z => c18 (hr15.trans z)); rw [hinv]; simp [stnd, e18, c27, c40, c56, c69]) ls (lv_sub hl [0, 1, 2, 3] rfl)
                · refine lv_aload_n hx hb dX3_standing_72 rfl (lv_at hl 1 rfl) ?_
                  refine va_get (D := D) (ci := 3) (v := .ref q8) (C := RX3) (T := TX3) (N := 14) hx hb hts hinX3 hown hK hP 0 rfl rfl 8 (by decide) (hts (.fieldLink RX3 35 "LedgerShares$Sheet" "givesB" "[J") (List.mem_of_getElem? (i := 11) rfl)) (fun _ h9 => h9) rfl dX3_standing_73 ?_
                  refine lv_iload_n hx hb dX3_standing_76 rfl (lv_at hl 0 rfl) ?_
                  refine x_lald hx hb hE hP 5 rfl (i) (by omega) (by decide) (rfl) dX3_standing_77 ?_
                  exact W.lret hx hb hr (fun t ht hW => ⟨_, rfl, by have e18 := if1_t (fun z => c18 (hr15.trans z)); rw [hinv]; simp [stnd, e18, c27, c40, c56, c69], ht⟩) (fun q h => by cases h) dX3_standing_78
            · refine lv_aload_n hx hb dX3_standing_43 rfl (lv_at hl 1 rfl) ?_
              refine va_get (D := D) (ci := 3) (v := .ref q7) (C := RX3) (T := TX3) (N := 14) hx hb hts hinX3 hown hK hP 0 rfl rfl 7 (by decide) (hts (.fieldLink RX3 32 "LedgerShares$Sheet" "givesA" "[J") (List.mem_of_getElem? (i := 8) rfl)) (fun _ h9 => h9) rfl dX3_standing_44 ?_
              refine lv_iload_n hx hb dX3_standing_47 rfl (lv_at hl 0 rfl) ?_
              refine x_lald hx hb hE hP 4 rfl (i) (by omega) (by decide) (rfl) dX3_standing_48 ?_
              exact W.lret hx hb hr (fun t ht hW => ⟨_, rfl, by have e18 := if1_t (fun z => c18 (hr15.trans z)); rw [hinv]; simp [stnd, e18, c27, c40], ht⟩) (fun q h => by cases h) dX3_standing_49
  exact loop9 41 kc hkc (by omega) rfl ls (lv_sub hl [0, 1, 2, 3] rfl)
set_option maxHeartbeats 4000000 in
set_option maxRecDepth 100000 in
theorem k_leastOpen (l : Launch) (D : va_G) (cI cJ cZ : ClassId) (h hB q1 q2 q3 q4 q5 q6 q7 q8 q9 q10 q11 q12 q13 : Nat) (st : Nat → Int32) (a en : Nat) (ha : a ≤ 40) (he : en ≤ 40) : Met l yX3_leastOpen wsX3_leastOpen ({ frames := 1, cells := 0, slots := 0, locals := 21 }) (PcRO [.ref h, .int (nI a), .int (nI en)] D cI cJ cZ [(h, .inr (3, [.ref hB, .ref q1, .ref q2, .ref q3, .ref q4, .ref q5, .ref q6, .ref q7, .ref q8, .ref q9, .ref q10, .ref q11, .ref q12, .ref q13])), (q1, .inl (cI, 40, .inl st))]) (vp_Si (fun r => r = lstO st en 41 a)) 0 0 noF := by
  refine Met.ofW (cc := cX3_leastOpen) (maxL := 4) (ret := some .int) (by decide) rfl ?_
  intro p e s m args below meth c s₁ B hml hv
  obtain ⟨rfl, hP, hE⟩ := hv
  have hx := B.exec
  have hb := B.bytes
  have hr := B.returns
  have hts := atoms_spec (ws := wsX3_leastOpen) B.pre
  have hown : s.vm.findClass RX3 = some m.cls := findClass_of_methodNamed B.named
  have hlocks := B.notSynchronized
  have hK := hE.1
  have hl := lv_entry ([.ref h, .int (nI a), .int (nI en)]) (n := 4) (Nat.le_of_ble_eq_true rfl)
  rw [lg_entry_eq]
  generalize (lg_sl ([.ref h, .int (nI a), .int (nI en)]) ++ List.replicate (4 - (lg_sl ([.ref h, .int (nI a), .int (nI en)])).length) Slot.unset).toArray = ls at hl ⊢
  have hl : lv_has ls 4 [(0, .ref h), (1, .int (nI a)), (2, .int (nI en))] := hl
  have hinX3 : ∀ w ∈ u_ws RX3 TX3 14, w ∈ wsX3_leastOpen := fun _ h => List.mem_cons_of_mem _ (List.mem_append_right _ h)
  refine lv_iload_n hx hb dX3_leastOpen_0 rfl (lv_at hl 1 rfl) ?_
  refine lv_iconst (v := 0) hx hb dX3_leastOpen_1 (by decide) ?_
  refine va_mmax hx hb (by rw [hml]; exact hl.1.symm) hown (hts (.methodLink RX3 75 Lib.Math.max.name) (List.mem_of_getElem? (i := 1) rfl)) (hts (.static Lib.Math.max.name) (List.mem_of_getElem? (i := 2) rfl)) (hts (.initialized "java/lang/Math") (List.mem_of_getElem? (i := 3) rfl)) (hts (.code Lib.Math.max.name Lib.Math.max.code 2 (some .int)) (List.mem_of_getElem? (i := 4) rfl)) (Nat.le_of_ble_eq_true rfl) (Nat.le_of_ble_eq_true rfl) (Nat.zero_le _) (Nat.zero_le _) dX3_leastOpen_2 ?_
  refine x_topi (y := nI a) (if_neg (nI_pos (by omega))) ?_
  refine lv_istore_n (lv' := [(3, .int (nI a)), (0, .ref h), (1, .int (nI a)), (2, .int (nI en))]) hx hb dX3_leastOpen_5 rfl hl (by decide) rfl (fun ls hl => ?_)
  have loop6 : ∀ (n : Nat) (k : Nat), (k ≤ 40) → (41 ≤ k + n) → (lstO st en 41 a = lstO st en n k) → ∀ (ls : Array Slot), lv_has ls 4 [(3, .int (nI k)), (0, .ref h), (1, .int (nI a)), (2, .int (nI en))] → W p l e (headSpec wsX3_leastOpen ({ frames := 1, cells := 0, slots := 0, locals := 21 })).room s m ([.ref h, .int (nI a), .int (nI en)].toArray) below meth c s.heap [] 0 0 (MQ below (vp_Si (fun r => r = lstO st en 41 a)) ([.ref h, .int (nI a), .int (nI en)].toArray) s 0 0 noF) (F0 m 6 ls []) := by
    intro n
    induction n with
    | zero =>
      intro k hk hf hinv
      exact absurd hf (by omega)
    | succ n ih6 =>
      intro k hk hf hinv ls hl
      refine lv_iload_n hx hb dX3_leastOpen_6 rfl (lv_at hl 0 rfl) ?_
      refine lv_iload_n hx hb dX3_leastOpen_7 rfl (lv_at hl 3 rfl) ?_
      refine lv_icmp_ge (tgt := 34) hx hb dX3_leastOpen_8 (by decide) (fun c8 => ?_) (fun c8 => ?_)
      · refine lv_iconst (v := (-1)) hx hb dX3_leastOpen_34 (by decide) ?_
        exact W.iret hx hb hr (fun t ht hW => ⟨_, rfl, by rw [hinv]; simp [lstO, show ¬ k < en from fun z => absurd c8 (nI_ge z (by omega))], ht⟩) (fun q h => by cases h) dX3_leastOpen_35
      · have g8 : k < en := Nat.lt_of_not_le (fun z => c8 (nI_le z (by omega)))
        refine lv_iload_n hx hb dX3_leastOpen_11 rfl (lv_at hl 0 rfl) ?_
        refine lv_bipush (v := 40) hx hb dX3_leastOpen_12 (by decide) ?_
        refine lv_icmp_ge (tgt := 34) hx hb dX3_leastOpen_14 (by decide) (fun c14 => absurd c14 (nI_ge (b := 40) (by omega) (by decide))) (fun c14 => ?_)
        refine lv_aload_n hx hb dX3_leastOpen_17 rfl (lv_at hl 1 rfl) ?_
        refine va_get (D := D) (ci := 3) (v := .ref q1) (C := RX3) (T := TX3) (N := 14) hx hb hts hinX3 hown hK hP 0 rfl rfl 1 (by decide) (hts (.fieldLink RX3 9 "LedgerShares$Sheet" "stages" "[I") (List.mem_of_getElem? (i := 5) rfl)) (fun _ h9 => h9) rfl dX3_leastOpen_18 ?_
        refine lv_iload_n hx hb dX3_leastOpen_21 rfl (lv_at hl 0 rfl) ?_
        refine x_iald hx hb hE hP 1 rfl (k) (by omega) (by decide) (rfl) dX3_leastOpen_22 ?_
        refine lv_if_ne (tgt := 28) hx hb dX3_leastOpen_23 (by decide) (fun c23 => ?_) (fun c23 => ?_)
        · refine lv_iinc (v := nI (k + 1)) (lv' := [(3, .int (nI (k + 1))), (0, .ref h), (1, .int (nI a)), (2, .int (nI en))]) hx hb dX3_leastOpen_28 hl (k := 0) rfl (nI_1 k) (by decide) rfl (fun ls hl => ?_)
          refine lv_goto (tgt := 6) hx hb dX3_leastOpen_31 (by decide) ?_
          exact ih6 (k + 1) (by omega) (by omega) (by rw [hinv]; simp [lstO, g8, c23]) ls (lv_sub hl [0, 1, 2, 3] rfl)
        · refine lv_iload_n hx hb dX3_leastOpen_26 rfl (lv_at hl 0 rfl) ?_
          exact W.iret hx hb hr (fun t ht hW => ⟨_, rfl, by rw [hinv]; simp [lstO, g8, c23], ht⟩) (fun q h => by cases h) dX3_leastOpen_27
  exact loop6 41 a ha (by omega) rfl ls (lv_sub hl [0, 1, 2, 3] rfl)
set_option maxHeartbeats 4000000 in
set_option maxRecDepth 100000 in
theorem k_noteBegun (l : Launch) (D : va_G) (cI cJ cZ : ClassId) (sz : Nat) (h hB q1 q2 q3 q4 q5 q6 q7 q8 q9 q10 q11 q12 q13 : Nat) (tb fb : Nat → Int32) (k : Nat) (hk : k < 40) (tick : Int32) : Met l yX3_noteBegun wsX3_noteBegun ({ frames := 0, cells := 0, slots := 0, locals := 0 }) (PcRW [.ref h, .int (nI k), .int tick] sz D cI cJ cZ [(h, .inr (3, [.ref hB, .ref q1, .ref q2, .ref q3, .ref q4, .ref q5, .ref q6, .ref q7, .ref q8, .ref q9, .ref q10, .ref q11, .ref q12, .ref q13])), (q10, .inl (cI, 40, .inl tb)), (q11, .inl (cI, 40, .inl fb))]) (QcV D (va_A [(h, .inr (3, [.ref hB, .ref q1, .ref q2, .ref q3, .ref q4, .ref q5, .ref q6, .ref q7, .ref q8, .ref q9, .ref q10, .ref q11, .ref q12, .ref q13])), (q10, .inl (cI, 40, .inl tb)), (q11, .inl (cI, 40, .inl fb))] sz) [(h, .inr (3, [.ref hB, .ref q1, .ref q2, .ref q3, .ref q4, .ref q5, .ref q6, .ref q7, .ref q8, .ref q9, .ref q10, .ref q11, .ref q12, .ref q13])), (q10, .inl (cI, 40, .inl (upd tb k (tb k + 1)))), (q11, .inl (cI, 40, .inl (if tb k = 0 then upd fb k tick else fb)))]) 0 0 (va_A [(h, .inr (3, [.ref hB, .ref q1, .ref q2, .ref q3, .ref q4, .ref q5, .ref q6, .ref q7, .ref q8, .ref q9, .ref q10, .ref q11, .ref q12, .ref q13])), (q10, .inl (cI, 40, .inl tb)), (q11, .inl (cI, 40, .inl fb))] sz) := by
  refine Met.ofW (cc := cX3_noteBegun) (maxL := 3) (ret := none) (by decide) rfl ?_
  intro p e s m args below meth c s₁ B hml hv
  obtain ⟨rfl, hsz, hP, hE, hD0⟩ := hv
  have hx := B.exec
  have hb := B.bytes
  have hr := B.returns
  have hts := atoms_spec (ws := wsX3_noteBegun) B.pre
  have hown : s.vm.findClass RX3 = some m.cls := findClass_of_methodNamed B.named
  have hlocks := B.notSynchronized
  have hK := hE.1
  subst hsz
  have hD := hD0.self (sz := s.heap.size)
  generalize hAe : va_A [(h, .inr (3, [.ref hB, .ref q1, .ref q2, .ref q3, .ref q4, .ref q5, .ref q6, .ref q7, .ref q8, .ref q9, .ref q10, .ref q11, .ref q12, .ref q13])), (q10, .inl (cI, 40, .inl tb)), (q11, .inl (cI, 40, .inl fb))] s.heap.size = A at hD ⊢
  have hA : ∀ q : Nat, s.heap.size ≤ q → A q := fun q h => by rw [← hAe]; exact Or.inr h
  have hS : va_S A s.heap s.heap [] := va_S.rf
  have hl := lv_entry ([.ref h, .int (nI k), .int tick]) (n := 3) (Nat.le_of_ble_eq_true rfl)
  rw [lg_entry_eq]
  generalize (lg_sl ([.ref h, .int (nI k), .int tick]) ++ List.replicate (3 - (lg_sl ([.ref h, .int (nI k), .int tick])).length) Slot.unset).toArray = ls at hl ⊢
  have hl : lv_has ls 3 [(0, .ref h), (1, .int (nI k)), (2, .int tick)] := hl
  have hinX3 : ∀ w ∈ u_ws RX3 TX3 14, w ∈ wsX3_noteBegun := fun _ h => List.mem_cons_of_mem _ (List.mem_append_right _ h)
  refine lv_aload_n hx hb dX3_noteBegun_0 rfl (lv_at hl 0 rfl) ?_
  refine va_get (D := D) (ci := 3) (v := .ref q10) (C := RX3) (T := TX3) (N := 14) hx hb hts hinX3 hown hK hP 0 rfl rfl 10 (by decide) (hts (.fieldLink RX3 41 "LedgerShares$Sheet" "timesBegun" "[I") (List.mem_of_getElem? (i := 1) rfl)) (fun _ h9 => h9) rfl dX3_noteBegun_1 ?_
  refine lv_iload_n hx hb dX3_noteBegun_4 rfl (lv_at hl 1 rfl) ?_
  refine x_iald hx hb hE hP 1 rfl (k) hk (by decide) (rfl) dX3_noteBegun_5 ?_
  refine lv_if_ne (tgt := 16) hx hb dX3_noteBegun_6 (by decide) (fun c6 => ?_) (fun c6 => ?_)
  · refine lv_aload_n hx hb dX3_noteBegun_16 rfl (lv_at hl 0 rfl) ?_
    refine va_get (D := D) (ci := 3) (v := .ref q10) (C := RX3) (T := TX3) (N := 14) hx hb hts hinX3 hown hK hP 0 rfl rfl 10 (by decide) (hts (.fieldLink RX3 41 "LedgerShares$Sheet" "timesBegun" "[I") (List.mem_of_getElem? (i := 1) rfl)) (fun _ h9 => h9) rfl dX3_noteBegun_17 ?_
    refine lv_iload_n hx hb dX3_noteBegun_20 rfl (lv_at hl 1 rfl) ?_
    refine lv_dup2_11 hx hb dX3_noteBegun_21 rfl rfl ?_
    refine x_iald hx hb hE hP 1 rfl (k) hk (by decide) (rfl) dX3_noteBegun_22 ?_
    refine lv_iconst (v := 1) hx hb dX3_noteBegun_23 (by decide) ?_
    refine lv_iadd hx hb dX3_noteBegun_24 ?_
    refine x_iast hx hb hE hP hD hS 1 rfl (k) hk (by decide) (rfl) (ws' := [(h, .inr (3, [.ref hB, .ref q1, .ref q2, .ref q3, .ref q4, .ref q5, .ref q6, .ref q7, .ref q8, .ref q9, .ref q10, .ref q11, .ref q12, .ref q13])), (q10, .inl (cI, 40, .inl (upd tb k ((tb k) + 1)))), (q11, .inl (cI, 40, .inl fb))]) (rfl) dX3_noteBegun_25 (fun H locs hP hD hS => ?_)
    exact W.vret hx hb hr (fun t ht hW => ⟨⟨(), rfl, trivial, by rw [ht]; simp only [if_neg c6]; exact hP, by simp only [if_neg c6]; exact hD⟩, hS.F ht⟩) hS.2.2 dX3_noteBegun_26
  · refine lv_aload_n hx hb dX3_noteBegun_9 rfl (lv_at hl 0 rfl) ?_
    refine va_get (D := D) (ci := 3) (v := .ref q11) (C := RX3) (T := TX3) (N := 14) hx hb hts hinX3 hown hK hP 0 rfl rfl 11 (by decide) (hts (.fieldLink RX3 44 "LedgerShares$Sheet" "firstBegun" "[I") (List.mem_of_getElem? (i := 2) rfl)) (fun _ h9 => h9) rfl dX3_noteBegun_10 ?_
    refine lv_iload_n hx hb dX3_noteBegun_13 rfl (lv_at hl 1 rfl) ?_
    refine lv_iload_n hx hb dX3_noteBegun_14 rfl (lv_at hl 2 rfl) ?_
    refine x_iast hx hb hE hP hD hS 2 rfl (k) hk (by decide) (rfl) (ws' := [(h, .inr (3, [.ref hB, .ref q1, .ref q2, .ref q3, .ref q4, .ref q5, .ref q6, .ref q7, .ref q8, .ref q9, .ref q10, .ref q11, .ref q12, .ref q13])), (q10, .inl (cI, 40, .inl tb)), (q11, .inl (cI, 40, .inl (upd fb k tick)))]) (rfl) dX3_noteBegun_15 (fun H locs hP hD hS => ?_)
    refine lv_aload_n hx hb dX3_noteBegun_16 rfl (lv_at hl 0 rfl) ?_
    refine va_get (D := D) (ci := 3) (v := .ref q10) (C := RX3) (T := TX3) (N := 14) hx hb hts hinX3 hown hK hP 0 rfl rfl 10 (by decide) (hts (.fieldLink RX3 41 "LedgerShares$Sheet" "timesBegun" "[I") (List.mem_of_getElem? (i := 1) rfl)) (fun _ h9 => h9) rfl dX3_noteBegun_17 ?_
    refine lv_iload_n hx hb dX3_noteBegun_20 rfl (lv_at hl 1 rfl) ?_
    refine lv_dup2_11 hx hb dX3_noteBegun_21 rfl rfl ?_
    refine x_iald hx hb hE hP 1 rfl (k) hk (by decide) (rfl) dX3_noteBegun_22 ?_
    refine lv_iconst (v := 1) hx hb dX3_noteBegun_23 (by decide) ?_
    refine lv_iadd hx hb dX3_noteBegun_24 ?_
    refine x_iast hx hb hE hP hD hS 1 rfl (k) hk (by decide) (rfl) (ws' := [(h, .inr (3, [.ref hB, .ref q1, .ref q2, .ref q3, .ref q4, .ref q5, .ref q6, .ref q7, .ref q8, .ref q9, .ref q10, .ref q11, .ref q12, .ref q13])), (q10, .inl (cI, 40, .inl (upd tb k ((tb k) + 1)))), (q11, .inl (cI, 40, .inl (upd fb k tick)))]) (rfl) dX3_noteBegun_25 (fun H locs hP hD hS => ?_)
    exact W.vret hx hb hr (fun t ht hW => ⟨⟨(), rfl, trivial, by rw [ht]; simp only [if_pos c6]; exact hP, by simp only [if_pos c6]; exact hD⟩, hS.F ht⟩) hS.2.2 dX3_noteBegun_26
set_option maxHeartbeats 4000000 in
set_option maxRecDepth 100000 in
theorem k_setUnderWay (l : Launch) (D : va_G) (cI cJ cZ : ClassId) (sz : Nat) (h hB q1 q2 q3 q4 q5 q6 q7 q8 q9 q10 q11 q12 q13 : Nat) (st sl ca cb : Nat → Int32) (ra rb ga gb : Nat → Int64) (b1 b2 b3 b4 b5 b6 : Nat) (bz : Int32) (ak bk sk : Nat → Int32) (k : Nat) (hk : k < 40) : Met l yX3_setUnderWay wsX3_setUnderWay ({ frames := 2, cells := 0, slots := 0, locals := 44 }) (PcRW [.ref h, .int (nI k)] sz D cI cJ cZ [(h, .inr (3, [.ref hB, .ref q1, .ref q2, .ref q3, .ref q4, .ref q5, .ref q6, .ref q7, .ref q8, .ref q9, .ref q10, .ref q11, .ref q12, .ref q13])), (q1, .inl (cI, 40, .inl st)), (q2, .inl (cI, 40, .inl sl)), (q3, .inl (cJ, 40, .inr (.inl ra))), (q4, .inl (cJ, 40, .inr (.inl rb))), (q5, .inl (cZ, 40, .inl ca)), (q6, .inl (cZ, 40, .inl cb)), (q7, .inl (cJ, 40, .inr (.inl ga))), (q8, .inl (cJ, 40, .inr (.inl gb))), (hB, .inr (0, [.int bz, .ref b1, .ref b2, .ref b3, .ref b4, .ref b5, .ref b6])), (b2, .inl (cI, 40, .inl ak)), (b3, .inl (cI, 40, .inl bk)), (b5, .inl (cI, 40, .inl sk))]) (QcV D (va_A [(h, .inr (3, [.ref hB, .ref q1, .ref q2, .ref q3, .ref q4, .ref q5, .ref q6, .ref q7, .ref q8, .ref q9, .ref q10, .ref q11, .ref q12, .ref q13])), (q1, .inl (cI, 40, .inl st)), (q2, .inl (cI, 40, .inl sl)), (q3, .inl (cJ, 40, .inr (.inl ra))), (q4, .inl (cJ, 40, .inr (.inl rb))), (q5, .inl (cZ, 40, .inl ca)), (q6, .inl (cZ, 40, .inl cb)), (q7, .inl (cJ, 40, .inr (.inl ga))), (q8, .inl (cJ, 40, .inr (.inl gb))), (hB, .inr (0, [.int bz, .ref b1, .ref b2, .ref b3, .ref b4, .ref b5, .ref b6])), (b2, .inl (cI, 40, .inl ak)), (b3, .inl (cI, 40, .inl bk)), (b5, .inl (cI, 40, .inl sk))] sz) [(h, .inr (3, [.ref hB, .ref q1, .ref q2, .ref q3, .ref q4, .ref q5, .ref q6, .ref q7, .ref q8, .ref q9, .ref q10, .ref q11, .ref q12, .ref q13])), (q1, .inl (cI, 40, .inl (upd st k 1))), (q2, .inl (cI, 40, .inl (upd sl k (sk k)))), (q3, .inl (cJ, 40, .inr (.inl (vp_updL ra k (stnd (upd st k 1) ca ak cb bk ga gb (ak k) k))))), (q4, .inl (cJ, 40, .inr (.inl (vp_updL rb k (stnd (upd st k 1) ca ak cb bk ga gb (bk k) k))))), (q5, .inl (cZ, 40, .inl ca)), (q6, .inl (cZ, 40, .inl cb)), (q7, .inl (cJ, 40, .inr (.inl ga))), (q8, .inl (cJ, 40, .inr (.inl gb))), (hB, .inr (0, [.int bz, .ref b1, .ref b2, .ref b3, .ref b4, .ref b5, .ref b6])), (b2, .inl (cI, 40, .inl ak)), (b3, .inl (cI, 40, .inl bk)), (b5, .inl (cI, 40, .inl sk))]) 0 0 (va_A [(h, .inr (3, [.ref hB, .ref q1, .ref q2, .ref q3, .ref q4, .ref q5, .ref q6, .ref q7, .ref q8, .ref q9, .ref q10, .ref q11, .ref q12, .ref q13])), (q1, .inl (cI, 40, .inl st)), (q2, .inl (cI, 40, .inl sl)), (q3, .inl (cJ, 40, .inr (.inl ra))), (q4, .inl (cJ, 40, .inr (.inl rb))), (q5, .inl (cZ, 40, .inl ca)), (q6, .inl (cZ, 40, .inl cb)), (q7, .inl (cJ, 40, .inr (.inl ga))), (q8, .inl (cJ, 40, .inr (.inl gb))), (hB, .inr (0, [.int bz, .ref b1, .ref b2, .ref b3, .ref b4, .ref b5, .ref b6])), (b2, .inl (cI, 40, .inl ak)), (b3, .inl (cI, 40, .inl bk)), (b5, .inl (cI, 40, .inl sk))] sz) := by
  refine Met.ofW (cc := cX3_setUnderWay) (maxL := 2) (ret := none) (by decide) rfl ?_
  intro p e s m args below meth c s₁ B hml hv
  obtain ⟨rfl, hsz, hP, hE, hD0⟩ := hv
  have hx := B.exec
  have hb := B.bytes
  have hr := B.returns
  have hts := atoms_spec (ws := wsX3_setUnderWay) B.pre
  have hown : s.vm.findClass RX3 = some m.cls := findClass_of_methodNamed B.named
  have hlocks := B.notSynchronized
  have hK := hE.1
  subst hsz
  have hD := hD0.self (sz := s.heap.size)
  generalize hAe : va_A [(h, .inr (3, [.ref hB, .ref q1, .ref q2, .ref q3, .ref q4, .ref q5, .ref q6, .ref q7, .ref q8, .ref q9, .ref q10, .ref q11, .ref q12, .ref q13])), (q1, .inl (cI, 40, .inl st)), (q2, .inl (cI, 40, .inl sl)), (q3, .inl (cJ, 40, .inr (.inl ra))), (q4, .inl (cJ, 40, .inr (.inl rb))), (q5, .inl (cZ, 40, .inl ca)), (q6, .inl (cZ, 40, .inl cb)), (q7, .inl (cJ, 40, .inr (.inl ga))), (q8, .inl (cJ, 40, .inr (.inl gb))), (hB, .inr (0, [.int bz, .ref b1, .ref b2, .ref b3, .ref b4, .ref b5, .ref b6])), (b2, .inl (cI, 40, .inl ak)), (b3, .inl (cI, 40, .inl bk)), (b5, .inl (cI, 40, .inl sk))] s.heap.size = A at hD ⊢
  have hA : ∀ q : Nat, s.heap.size ≤ q → A q := fun q h => by rw [← hAe]; exact Or.inr h
  have hS : va_S A s.heap s.heap [] := va_S.rf
  have hl := lv_entry ([.ref h, .int (nI k)]) (n := 2) (Nat.le_of_ble_eq_true rfl)
  rw [lg_entry_eq]
  generalize (lg_sl ([.ref h, .int (nI k)]) ++ List.replicate (2 - (lg_sl ([.ref h, .int (nI k)])).length) Slot.unset).toArray = ls at hl ⊢
  have hl : lv_has ls 2 [(0, .ref h), (1, .int (nI k))] := hl
  have hinX0 : ∀ w ∈ u_ws RX0 TX0 7, w ∈ wsX3_setUnderWay := fun _ h => List.mem_cons_of_mem _ (List.mem_append_right _ h)
  have hinX3 : ∀ w ∈ u_ws RX3 TX3 14, w ∈ wsX3_setUnderWay := fun _ h => List.mem_cons_of_mem _ (List.mem_append_left _ (List.mem_append_right _ h))
  refine lv_aload_n hx hb dX3_setUnderWay_0 rfl (lv_at hl 0 rfl) ?_
  refine va_get (D := D) (ci := 3) (v := .ref q1) (C := RX3) (T := TX3) (N := 14) hx hb hts hinX3 hown hK hP 0 rfl rfl 1 (by decide) (hts (.fieldLink RX3 9 "LedgerShares$Sheet" "stages" "[I") (List.mem_of_getElem? (i := 1) rfl)) (fun _ h9 => h9) rfl dX3_setUnderWay_1 ?_
  refine lv_iload_n hx hb dX3_setUnderWay_4 rfl (lv_at hl 1 rfl) ?_
  refine lv_iconst (v := 1) hx hb dX3_setUnderWay_5 (by decide) ?_
  refine x_iast hx hb hE hP hD hS 1 rfl (k) hk (by decide) (rfl) (ws' := [(h, .inr (3, [.ref hB, .ref q1, .ref q2, .ref q3, .ref q4, .ref q5, .ref q6, .ref q7, .ref q8, .ref q9, .ref q10, .ref q11, .ref q12, .ref q13])), (q1, .inl (cI, 40, .inl (upd st k 1))), (q2, .inl (cI, 40, .inl sl)), (q3, .inl (cJ, 40, .inr (.inl ra))), (q4, .inl (cJ, 40, .inr (.inl rb))), (q5, .inl (cZ, 40, .inl ca)), (q6, .inl (cZ, 40, .inl cb)), (q7, .inl (cJ, 40, .inr (.inl ga))), (q8, .inl (cJ, 40, .inr (.inl gb))), (hB, .inr (0, [.int bz, .ref b1, .ref b2, .ref b3, .ref b4, .ref b5, .ref b6])), (b2, .inl (cI, 40, .inl ak)), (b3, .inl (cI, 40, .inl bk)), (b5, .inl (cI, 40, .inl sk))]) (rfl) dX3_setUnderWay_6 (fun H locs hP hD hS => ?_)
  refine lv_aload_n hx hb dX3_setUnderWay_7 rfl (lv_at hl 0 rfl) ?_
  refine va_get (D := D) (ci := 3) (v := .ref q2) (C := RX3) (T := TX3) (N := 14) hx hb hts hinX3 hown hK hP 0 rfl rfl 2 (by decide) (hts (.fieldLink RX3 15 "LedgerShares$Sheet" "stepsLeft" "[I") (List.mem_of_getElem? (i := 2) rfl)) (fun _ h9 => h9) rfl dX3_setUnderWay_8 ?_
  refine lv_iload_n hx hb dX3_setUnderWay_11 rfl (lv_at hl 1 rfl) ?_
  refine lv_aload_n hx hb dX3_setUnderWay_12 rfl (lv_at hl 0 rfl) ?_
  refine va_get (D := D) (ci := 3) (v := .ref hB) (C := RX3) (T := TX3) (N := 14) hx hb hts hinX3 hown hK hP 0 rfl rfl 0 (by decide) (hts (.fieldLink RX3 53 "LedgerShares$Sheet" "book" "LLedgerShares$Book;") (List.mem_of_getElem? (i := 3) rfl)) (fun _ h9 => h9) rfl dX3_setUnderWay_13 ?_
  refine va_get (D := D) (ci := 0) (v := .ref b5) (C := RX0) (T := TX0) (N := 7) hx hb hts hinX0 hown hK hP 9 rfl rfl 5 (by decide) (hts (.fieldLink RX3 78 "LedgerShares$Book" "steps" "[I") (List.mem_of_getElem? (i := 4) rfl)) (fun _ h9 => h9) rfl dX3_setUnderWay_16 ?_
  refine lv_iload_n hx hb dX3_setUnderWay_19 rfl (lv_at hl 1 rfl) ?_
  refine x_iald hx hb hE hP 12 rfl (k) hk (by decide) (rfl) dX3_setUnderWay_20 ?_
  refine x_iast hx hb hE hP hD hS 2 rfl (k) hk (by decide) (rfl) (ws' := [(h, .inr (3, [.ref hB, .ref q1, .ref q2, .ref q3, .ref q4, .ref q5, .ref q6, .ref q7, .ref q8, .ref q9, .ref q10, .ref q11, .ref q12, .ref q13])), (q1, .inl (cI, 40, .inl (upd st k 1))), (q2, .inl (cI, 40, .inl (upd sl k (sk k)))), (q3, .inl (cJ, 40, .inr (.inl ra))), (q4, .inl (cJ, 40, .inr (.inl rb))), (q5, .inl (cZ, 40, .inl ca)), (q6, .inl (cZ, 40, .inl cb)), (q7, .inl (cJ, 40, .inr (.inl ga))), (q8, .inl (cJ, 40, .inr (.inl gb))), (hB, .inr (0, [.int bz, .ref b1, .ref b2, .ref b3, .ref b4, .ref b5, .ref b6])), (b2, .inl (cI, 40, .inl ak)), (b3, .inl (cI, 40, .inl bk)), (b5, .inl (cI, 40, .inl sk))]) (rfl) dX3_setUnderWay_21 (fun H locs hP hD hS => ?_)
  refine lv_aload_n hx hb dX3_setUnderWay_22 rfl (lv_at hl 0 rfl) ?_
  refine va_get (D := D) (ci := 3) (v := .ref q3) (C := RX3) (T := TX3) (N := 14) hx hb hts hinX3 hown hK hP 0 rfl rfl 3 (by decide) (hts (.fieldLink RX3 18 "LedgerShares$Sheet" "readA" "[J") (List.mem_of_getElem? (i := 5) rfl)) (fun _ h9 => h9) rfl dX3_setUnderWay_23 ?_
  refine lv_iload_n hx hb dX3_setUnderWay_26 rfl (lv_at hl 1 rfl) ?_
  refine lv_aload_n hx hb dX3_setUnderWay_27 rfl (lv_at hl 0 rfl) ?_
  refine lv_iload_n hx hb dX3_setUnderWay_28 rfl (lv_at hl 1 rfl) ?_
  refine lv_aload_n hx hb dX3_setUnderWay_29 rfl (lv_at hl 0 rfl) ?_
  refine va_get (D := D) (ci := 3) (v := .ref hB) (C := RX3) (T := TX3) (N := 14) hx hb hts hinX3 hown hK hP 0 rfl rfl 0 (by decide) (hts (.fieldLink RX3 53 "LedgerShares$Sheet" "book" "LLedgerShares$Book;") (List.mem_of_getElem? (i := 3) rfl)) (fun _ h9 => h9) rfl dX3_setUnderWay_30 ?_
  refine va_get (D := D) (ci := 0) (v := .ref b2) (C := RX0) (T := TX0) (N := 7) hx hb hts hinX0 hown hK hP 9 rfl rfl 2 (by decide) (hts (.fieldLink RX3 67 "LedgerShares$Book" "as" "[I") (List.mem_of_getElem? (i := 6) rfl)) (fun _ h9 => h9) rfl dX3_setUnderWay_33 ?_
  refine lv_iload_n hx hb dX3_setUnderWay_36 rfl (lv_at hl 1 rfl) ?_
  refine x_iald hx hb hE hP 10 rfl (k) hk (by decide) (rfl) dX3_setUnderWay_37 ?_
  refine vp_callSl (va_Run.run (va_runV (As := [.int (nI k), .int (ak k)]) (rest := [.int (nI k), .ref q3]) ⟨hx, hb, hml, hown, hts⟩ (k_standing l D cI cJ cZ h hB q1 q2 q3 q4 q5 q6 q7 q8 q9 q10 q11 q12 q13 (upd st k 1) ca cb ga gb b1 b2 b3 b4 b5 b6 bz ak bk (ak k) k (by omega)) (cwV 2 hts gX3_setUnderWay_X3_standing rfl rfl rfl (by decide +kernel) ⟨Nat.le_of_ble_eq_true rfl, Nat.le_of_ble_eq_true rfl⟩) ⟨bl_ro, va_recv hK (hP.sub (ws' := [(h, .inr (3, [.ref hB, .ref q1, .ref q2, .ref q3, .ref q4, .ref q5, .ref q6, .ref q7, .ref q8, .ref q9, .ref q10, .ref q11, .ref q12, .ref q13])), (q1, .inl (cI, 40, .inl (upd st k 1))), (q5, .inl (cZ, 40, .inl ca)), (q6, .inl (cZ, 40, .inl cb)), (q7, .inl (cJ, 40, .inr (.inl ga))), (q8, .inl (cJ, 40, .inr (.inl gb))), (hB, .inr (0, [.int bz, .ref b1, .ref b2, .ref b3, .ref b4, .ref b5, .ref b6])), (b2, .inl (cI, 40, .inl ak)), (b3, .inl (cI, 40, .inl bk))]) [0, 1, 5, 6, 7, 8, 9, 10, 11] rfl) (ci := 3) (q0 := 0) rfl rfl, fun U hU hW => ⟨rfl, by rw [hU]; exact (hP.sub (ws' := [(h, .inr (3, [.ref hB, .ref q1, .ref q2, .ref q3, .ref q4, .ref q5, .ref q6, .ref q7, .ref q8, .ref q9, .ref q10, .ref q11, .ref q12, .ref q13])), (q1, .inl (cI, 40, .inl (upd st k 1))), (q5, .inl (cZ, 40, .inl ca)), (q6, .inl (cZ, 40, .inl cb)), (q7, .inl (cJ, 40, .inr (.inl ga))), (q8, .inl (cJ, 40, .inr (.inl gb))), (hB, .inr (0, [.int bz, .ref b1, .ref b2, .ref b3, .ref b4, .ref b5, .ref b6])), (b2, .inl (cI, 40, .inl ak)), (b3, .inl (cI, 40, .inl bk))]) [0, 1, 5, 6, 7, 8, 9, 10, 11] rfl), hE.warm2 hW⟩⟩ rfl rfl hl.1 rfl (lv_room (Nat.le_of_ble_eq_true rfl)) dX3_setUnderWay_38 ⟨Nat.zero_le _, Nat.zero_le _⟩)) (fun r38 hr38 => ?_)
  subst hr38
  refine x_last hx hb hE hP hD hS 3 rfl (k) hk (by decide) (rfl) (ws' := [(h, .inr (3, [.ref hB, .ref q1, .ref q2, .ref q3, .ref q4, .ref q5, .ref q6, .ref q7, .ref q8, .ref q9, .ref q10, .ref q11, .ref q12, .ref q13])), (q1, .inl (cI, 40, .inl (upd st k 1))), (q2, .inl (cI, 40, .inl (upd sl k (sk k)))), (q3, .inl (cJ, 40, .inr (.inl (vp_updL ra k (stnd (upd st k 1) ca ak cb bk ga gb (ak k) k))))), (q4, .inl (cJ, 40, .inr (.inl rb))), (q5, .inl (cZ, 40, .inl ca)), (q6, .inl (cZ, 40, .inl cb)), (q7, .inl (cJ, 40, .inr (.inl ga))), (q8, .inl (cJ, 40, .inr (.inl gb))), (hB, .inr (0, [.int bz, .ref b1, .ref b2, .ref b3, .ref b4, .ref b5, .ref b6])), (b2, .inl (cI, 40, .inl ak)), (b3, .inl (cI, 40, .inl bk)), (b5, .inl (cI, 40, .inl sk))]) (rfl) dX3_setUnderWay_41 (fun H locs hP hD hS => ?_)
  refine lv_aload_n hx hb dX3_setUnderWay_42 rfl (lv_at hl 0 rfl) ?_
  refine va_get (D := D) (ci := 3) (v := .ref q4) (C := RX3) (T := TX3) (N := 14) hx hb hts hinX3 hown hK hP 0 rfl rfl 4 (by decide) (hts (.fieldLink RX3 22 "LedgerShares$Sheet" "readB" "[J") (List.mem_of_getElem? (i := 7) rfl)) (fun _ h9 => h9) rfl dX3_setUnderWay_43 ?_
  refine lv_iload_n hx hb dX3_setUnderWay_46 rfl (lv_at hl 1 rfl) ?_
  refine lv_aload_n hx hb dX3_setUnderWay_47 rfl (lv_at hl 0 rfl) ?_
  refine lv_iload_n hx hb dX3_setUnderWay_48 rfl (lv_at hl 1 rfl) ?_
  refine lv_aload_n hx hb dX3_setUnderWay_49 rfl (lv_at hl 0 rfl) ?_
  refine va_get (D := D) (ci := 3) (v := .ref hB) (C := RX3) (T := TX3) (N := 14) hx hb hts hinX3 hown hK hP 0 rfl rfl 0 (by decide) (hts (.fieldLink RX3 53 "LedgerShares$Sheet" "book" "LLedgerShares$Book;") (List.mem_of_getElem? (i := 3) rfl)) (fun _ h9 => h9) rfl dX3_setUnderWay_50 ?_
  refine va_get (D := D) (ci := 0) (v := .ref b3) (C := RX0) (T := TX0) (N := 7) hx hb hts hinX0 hown hK hP 9 rfl rfl 3 (by decide) (hts (.fieldLink RX3 72 "LedgerShares$Book" "bs" "[I") (List.mem_of_getElem? (i := 8) rfl)) (fun _ h9 => h9) rfl dX3_setUnderWay_53 ?_
  refine lv_iload_n hx hb dX3_setUnderWay_56 rfl (lv_at hl 1 rfl) ?_
  refine x_iald hx hb hE hP 11 rfl (k) hk (by decide) (rfl) dX3_setUnderWay_57 ?_
  refine vp_callSl (va_Run.run (va_runV (As := [.int (nI k), .int (bk k)]) (rest := [.int (nI k), .ref q4]) ⟨hx, hb, hml, hown, hts⟩ (k_standing l D cI cJ cZ h hB q1 q2 q3 q4 q5 q6 q7 q8 q9 q10 q11 q12 q13 (upd st k 1) ca cb ga gb b1 b2 b3 b4 b5 b6 bz ak bk (bk k) k (by omega)) (cwV 2 hts gX3_setUnderWay_X3_standing rfl rfl rfl (by decide +kernel) ⟨Nat.le_of_ble_eq_true rfl, Nat.le_of_ble_eq_true rfl⟩) ⟨bl_ro, va_recv hK (hP.sub (ws' := [(h, .inr (3, [.ref hB, .ref q1, .ref q2, .ref q3, .ref q4, .ref q5, .ref q6, .ref q7, .ref q8, .ref q9, .ref q10, .ref q11, .ref q12, .ref q13])), (q1, .inl (cI, 40, .inl (upd st k 1))), (q5, .inl (cZ, 40, .inl ca)), (q6, .inl (cZ, 40, .inl cb)), (q7, .inl (cJ, 40, .inr (.inl ga))), (q8, .inl (cJ, 40, .inr (.inl gb))), (hB, .inr (0, [.int bz, .ref b1, .ref b2, .ref b3, .ref b4, .ref b5, .ref b6])), (b2, .inl (cI, 40, .inl ak)), (b3, .inl (cI, 40, .inl bk))]) [0, 1, 5, 6, 7, 8, 9, 10, 11] rfl) (ci := 3) (q0 := 0) rfl rfl, fun U hU hW => ⟨rfl, by rw [hU]; exact (hP.sub (ws' := [(h, .inr (3, [.ref hB, .ref q1, .ref q2, .ref q3, .ref q4, .ref q5, .ref q6, .ref q7, .ref q8, .ref q9, .ref q10, .ref q11, .ref q12, .ref q13])), (q1, .inl (cI, 40, .inl (upd st k 1))), (q5, .inl (cZ, 40, .inl ca)), (q6, .inl (cZ, 40, .inl cb)), (q7, .inl (cJ, 40, .inr (.inl ga))), (q8, .inl (cJ, 40, .inr (.inl gb))), (hB, .inr (0, [.int bz, .ref b1, .ref b2, .ref b3, .ref b4, .ref b5, .ref b6])), (b2, .inl (cI, 40, .inl ak)), (b3, .inl (cI, 40, .inl bk))]) [0, 1, 5, 6, 7, 8, 9, 10, 11] rfl), hE.warm2 hW⟩⟩ rfl rfl hl.1 rfl (lv_room (Nat.le_of_ble_eq_true rfl)) dX3_setUnderWay_58 ⟨Nat.zero_le _, Nat.zero_le _⟩)) (fun r58 hr58 => ?_)
  subst hr58
  refine x_last hx hb hE hP hD hS 4 rfl (k) hk (by decide) (rfl) (ws' := [(h, .inr (3, [.ref hB, .ref q1, .ref q2, .ref q3, .ref q4, .ref q5, .ref q6, .ref q7, .ref q8, .ref q9, .ref q10, .ref q11, .ref q12, .ref q13])), (q1, .inl (cI, 40, .inl (upd st k 1))), (q2, .inl (cI, 40, .inl (upd sl k (sk k)))), (q3, .inl (cJ, 40, .inr (.inl (vp_updL ra k (stnd (upd st k 1) ca ak cb bk ga gb (ak k) k))))), (q4, .inl (cJ, 40, .inr (.inl (vp_updL rb k (stnd (upd st k 1) ca ak cb bk ga gb (bk k) k))))), (q5, .inl (cZ, 40, .inl ca)), (q6, .inl (cZ, 40, .inl cb)), (q7, .inl (cJ, 40, .inr (.inl ga))), (q8, .inl (cJ, 40, .inr (.inl gb))), (hB, .inr (0, [.int bz, .ref b1, .ref b2, .ref b3, .ref b4, .ref b5, .ref b6])), (b2, .inl (cI, 40, .inl ak)), (b3, .inl (cI, 40, .inl bk)), (b5, .inl (cI, 40, .inl sk))]) (rfl) dX3_setUnderWay_61 (fun H locs hP hD hS => ?_)
  exact W.vret hx hb hr (fun t ht hW => ⟨⟨(), rfl, trivial, by rw [ht]; exact hP, by exact hD⟩, hS.F ht⟩) hS.2.2 dX3_setUnderWay_62
set_option maxHeartbeats 4000000 in
set_option maxRecDepth 100000 in
theorem k_giveA (l : Launch) (D : va_G) (cI cJ cZ : ClassId) (sz : Nat) (h hB q1 q2 q3 q4 q5 q6 q7 q8 q9 q10 q11 q12 q13 : Nat) (ca : Nat → Int32) (ga : Nat → Int64) (k : Nat) (hk : k < 40) (x : Int64) : Met l yX3_giveA wsX3_giveA ({ frames := 0, cells := 0, slots := 0, locals := 0 }) (PcRW [.ref h, .int (nI k), .long x] sz D cI cJ cZ [(h, .inr (3, [.ref hB, .ref q1, .ref q2, .ref q3, .ref q4, .ref q5, .ref q6, .ref q7, .ref q8, .ref q9, .ref q10, .ref q11, .ref q12, .ref q13])), (q5, .inl (cZ, 40, .inl ca)), (q7, .inl (cJ, 40, .inr (.inl ga)))]) (QcV D (va_A [(h, .inr (3, [.ref hB, .ref q1, .ref q2, .ref q3, .ref q4, .ref q5, .ref q6, .ref q7, .ref q8, .ref q9, .ref q10, .ref q11, .ref q12, .ref q13])), (q5, .inl (cZ, 40, .inl ca)), (q7, .inl (cJ, 40, .inr (.inl ga)))] sz) [(h, .inr (3, [.ref hB, .ref q1, .ref q2, .ref q3, .ref q4, .ref q5, .ref q6, .ref q7, .ref q8, .ref q9, .ref q10, .ref q11, .ref q12, .ref q13])), (q5, .inl (cZ, 40, .inl (upd ca k 1))), (q7, .inl (cJ, 40, .inr (.inl (vp_updL ga k x))))]) 0 0 (va_A [(h, .inr (3, [.ref hB, .ref q1, .ref q2, .ref q3, .ref q4, .ref q5, .ref q6, .ref q7, .ref q8, .ref q9, .ref q10, .ref q11, .ref q12, .ref q13])), (q5, .inl (cZ, 40, .inl ca)), (q7, .inl (cJ, 40, .inr (.inl ga)))] sz) := by
  refine Met.ofW (cc := cX3_giveA) (maxL := 4) (ret := none) (by decide) rfl ?_
  intro p e s m args below meth c s₁ B hml hv
  obtain ⟨rfl, hsz, hP, hE, hD0⟩ := hv
  have hx := B.exec
  have hb := B.bytes
  have hr := B.returns
  have hts := atoms_spec (ws := wsX3_giveA) B.pre
  have hown : s.vm.findClass RX3 = some m.cls := findClass_of_methodNamed B.named
  have hlocks := B.notSynchronized
  have hK := hE.1
  subst hsz
  have hD := hD0.self (sz := s.heap.size)
  generalize hAe : va_A [(h, .inr (3, [.ref hB, .ref q1, .ref q2, .ref q3, .ref q4, .ref q5, .ref q6, .ref q7, .ref q8, .ref q9, .ref q10, .ref q11, .ref q12, .ref q13])), (q5, .inl (cZ, 40, .inl ca)), (q7, .inl (cJ, 40, .inr (.inl ga)))] s.heap.size = A at hD ⊢
  have hA : ∀ q : Nat, s.heap.size ≤ q → A q := fun q h => by rw [← hAe]; exact Or.inr h
  have hS : va_S A s.heap s.heap [] := va_S.rf
  have hl := lv_entry ([.ref h, .int (nI k), .long x]) (n := 4) (Nat.le_of_ble_eq_true rfl)
  rw [lg_entry_eq]
  generalize (lg_sl ([.ref h, .int (nI k), .long x]) ++ List.replicate (4 - (lg_sl ([.ref h, .int (nI k), .long x])).length) Slot.unset).toArray = ls at hl ⊢
  have hl : lv_has ls 4 [(0, .ref h), (1, .int (nI k)), (2, .long x)] := hl
  have hinX3 : ∀ w ∈ u_ws RX3 TX3 14, w ∈ wsX3_giveA := fun _ h => List.mem_cons_of_mem _ (List.mem_append_right _ h)
  refine lv_aload_n hx hb dX3_giveA_0 rfl (lv_at hl 0 rfl) ?_
  refine va_get (D := D) (ci := 3) (v := .ref q5) (C := RX3) (T := TX3) (N := 14) hx hb hts hinX3 hown hK hP 0 rfl rfl 5 (by decide) (hts (.fieldLink RX3 25 "LedgerShares$Sheet" "changesA" "[Z") (List.mem_of_getElem? (i := 1) rfl)) (fun _ h9 => h9) rfl dX3_giveA_1 ?_
  refine lv_iload_n hx hb dX3_giveA_4 rfl (lv_at hl 1 rfl) ?_
  refine lv_iconst (v := 1) hx hb dX3_giveA_5 (by decide) ?_
  refine x_zast hx hb hE hP hD hS 1 rfl (k) hk (by decide) (rfl) (by decide) (ws' := [(h, .inr (3, [.ref hB, .ref q1, .ref q2, .ref q3, .ref q4, .ref q5, .ref q6, .ref q7, .ref q8, .ref q9, .ref q10, .ref q11, .ref q12, .ref q13])), (q5, .inl (cZ, 40, .inl (upd ca k 1))), (q7, .inl (cJ, 40, .inr (.inl ga)))]) (rfl) dX3_giveA_6 (fun H locs hP hD hS => ?_)
  refine lv_aload_n hx hb dX3_giveA_7 rfl (lv_at hl 0 rfl) ?_
  refine va_get (D := D) (ci := 3) (v := .ref q7) (C := RX3) (T := TX3) (N := 14) hx hb hts hinX3 hown hK hP 0 rfl rfl 7 (by decide) (hts (.fieldLink RX3 32 "LedgerShares$Sheet" "givesA" "[J") (List.mem_of_getElem? (i := 2) rfl)) (fun _ h9 => h9) rfl dX3_giveA_8 ?_
  refine lv_iload_n hx hb dX3_giveA_11 rfl (lv_at hl 1 rfl) ?_
  refine lv_lload_n hx hb dX3_giveA_12 rfl (lv_at hl 2 rfl) ?_
  refine x_last hx hb hE hP hD hS 2 rfl (k) hk (by decide) (rfl) (ws' := [(h, .inr (3, [.ref hB, .ref q1, .ref q2, .ref q3, .ref q4, .ref q5, .ref q6, .ref q7, .ref q8, .ref q9, .ref q10, .ref q11, .ref q12, .ref q13])), (q5, .inl (cZ, 40, .inl (upd ca k 1))), (q7, .inl (cJ, 40, .inr (.inl (vp_updL ga k x))))]) (rfl) dX3_giveA_13 (fun H locs hP hD hS => ?_)
  exact W.vret hx hb hr (fun t ht hW => ⟨⟨(), rfl, trivial, by rw [ht]; exact hP, by exact hD⟩, hS.F ht⟩) hS.2.2 dX3_giveA_14
set_option maxHeartbeats 4000000 in
set_option maxRecDepth 100000 in
theorem k_giveB (l : Launch) (D : va_G) (cI cJ cZ : ClassId) (sz : Nat) (h hB q1 q2 q3 q4 q5 q6 q7 q8 q9 q10 q11 q12 q13 : Nat) (cb : Nat → Int32) (gb : Nat → Int64) (k : Nat) (hk : k < 40) (x : Int64) : Met l yX3_giveB wsX3_giveB ({ frames := 0, cells := 0, slots := 0, locals := 0 }) (PcRW [.ref h, .int (nI k), .long x] sz D cI cJ cZ [(h, .inr (3, [.ref hB, .ref q1, .ref q2, .ref q3, .ref q4, .ref q5, .ref q6, .ref q7, .ref q8, .ref q9, .ref q10, .ref q11, .ref q12, .ref q13])), (q6, .inl (cZ, 40, .inl cb)), (q8, .inl (cJ, 40, .inr (.inl gb)))]) (QcV D (va_A [(h, .inr (3, [.ref hB, .ref q1, .ref q2, .ref q3, .ref q4, .ref q5, .ref q6, .ref q7, .ref q8, .ref q9, .ref q10, .ref q11, .ref q12, .ref q13])), (q6, .inl (cZ, 40, .inl cb)), (q8, .inl (cJ, 40, .inr (.inl gb)))] sz) [(h, .inr (3, [.ref hB, .ref q1, .ref q2, .ref q3, .ref q4, .ref q5, .ref q6, .ref q7, .ref q8, .ref q9, .ref q10, .ref q11, .ref q12, .ref q13])), (q6, .inl (cZ, 40, .inl (upd cb k 1))), (q8, .inl (cJ, 40, .inr (.inl (vp_updL gb k x))))]) 0 0 (va_A [(h, .inr (3, [.ref hB, .ref q1, .ref q2, .ref q3, .ref q4, .ref q5, .ref q6, .ref q7, .ref q8, .ref q9, .ref q10, .ref q11, .ref q12, .ref q13])), (q6, .inl (cZ, 40, .inl cb)), (q8, .inl (cJ, 40, .inr (.inl gb)))] sz) := by
  refine Met.ofW (cc := cX3_giveB) (maxL := 4) (ret := none) (by decide) rfl ?_
  intro p e s m args below meth c s₁ B hml hv
  obtain ⟨rfl, hsz, hP, hE, hD0⟩ := hv
  have hx := B.exec
  have hb := B.bytes
  have hr := B.returns
  have hts := atoms_spec (ws := wsX3_giveB) B.pre
  have hown : s.vm.findClass RX3 = some m.cls := findClass_of_methodNamed B.named
  have hlocks := B.notSynchronized
  have hK := hE.1
  subst hsz
  have hD := hD0.self (sz := s.heap.size)
  generalize hAe : va_A [(h, .inr (3, [.ref hB, .ref q1, .ref q2, .ref q3, .ref q4, .ref q5, .ref q6, .ref q7, .ref q8, .ref q9, .ref q10, .ref q11, .ref q12, .ref q13])), (q6, .inl (cZ, 40, .inl cb)), (q8, .inl (cJ, 40, .inr (.inl gb)))] s.heap.size = A at hD ⊢
  have hA : ∀ q : Nat, s.heap.size ≤ q → A q := fun q h => by rw [← hAe]; exact Or.inr h
  have hS : va_S A s.heap s.heap [] := va_S.rf
  have hl := lv_entry ([.ref h, .int (nI k), .long x]) (n := 4) (Nat.le_of_ble_eq_true rfl)
  rw [lg_entry_eq]
  generalize (lg_sl ([.ref h, .int (nI k), .long x]) ++ List.replicate (4 - (lg_sl ([.ref h, .int (nI k), .long x])).length) Slot.unset).toArray = ls at hl ⊢
  have hl : lv_has ls 4 [(0, .ref h), (1, .int (nI k)), (2, .long x)] := hl
  have hinX3 : ∀ w ∈ u_ws RX3 TX3 14, w ∈ wsX3_giveB := fun _ h => List.mem_cons_of_mem _ (List.mem_append_right _ h)
  refine lv_aload_n hx hb dX3_giveB_0 rfl (lv_at hl 0 rfl) ?_
  refine va_get (D := D) (ci := 3) (v := .ref q6) (C := RX3) (T := TX3) (N := 14) hx hb hts hinX3 hown hK hP 0 rfl rfl 6 (by decide) (hts (.fieldLink RX3 29 "LedgerShares$Sheet" "changesB" "[Z") (List.mem_of_getElem? (i := 1) rfl)) (fun _ h9 => h9) rfl dX3_giveB_1 ?_
  refine lv_iload_n hx hb dX3_giveB_4 rfl (lv_at hl 1 rfl) ?_
  refine lv_iconst (v := 1) hx hb dX3_giveB_5 (by decide) ?_
  refine x_zast hx hb hE hP hD hS 1 rfl (k) hk (by decide) (rfl) (by decide) (ws' := [(h, .inr (3, [.ref hB, .ref q1, .ref q2, .ref q3, .ref q4, .ref q5, .ref q6, .ref q7, .ref q8, .ref q9, .ref q10, .ref q11, .ref q12, .ref q13])), (q6, .inl (cZ, 40, .inl (upd cb k 1))), (q8, .inl (cJ, 40, .inr (.inl gb)))]) (rfl) dX3_giveB_6 (fun H locs hP hD hS => ?_)
  refine lv_aload_n hx hb dX3_giveB_7 rfl (lv_at hl 0 rfl) ?_
  refine va_get (D := D) (ci := 3) (v := .ref q8) (C := RX3) (T := TX3) (N := 14) hx hb hts hinX3 hown hK hP 0 rfl rfl 8 (by decide) (hts (.fieldLink RX3 35 "LedgerShares$Sheet" "givesB" "[J") (List.mem_of_getElem? (i := 2) rfl)) (fun _ h9 => h9) rfl dX3_giveB_8 ?_
  refine lv_iload_n hx hb dX3_giveB_11 rfl (lv_at hl 1 rfl) ?_
  refine lv_lload_n hx hb dX3_giveB_12 rfl (lv_at hl 2 rfl) ?_
  refine x_last hx hb hE hP hD hS 2 rfl (k) hk (by decide) (rfl) (ws' := [(h, .inr (3, [.ref hB, .ref q1, .ref q2, .ref q3, .ref q4, .ref q5, .ref q6, .ref q7, .ref q8, .ref q9, .ref q10, .ref q11, .ref q12, .ref q13])), (q6, .inl (cZ, 40, .inl (upd cb k 1))), (q8, .inl (cJ, 40, .inr (.inl (vp_updL gb k x))))]) (rfl) dX3_giveB_13 (fun H locs hP hD hS => ?_)
  exact W.vret hx hb hr (fun t ht hW => ⟨⟨(), rfl, trivial, by rw [ht]; exact hP, by exact hD⟩, hS.F ht⟩) hS.2.2 dX3_giveB_14
set_option maxHeartbeats 4000000 in
set_option maxRecDepth 100000 in
theorem k_fail1 (l : Launch) (D : va_G) (cI cJ cZ : ClassId) (sz : Nat) (h hB q1 q2 q3 q4 q5 q6 q7 q8 q9 q10 q11 q12 q13 : Nat) (oc : Nat → Int32) (k : Nat) (hk : k < 40) : Met l yX3_failUnless wsX3_failUnless ({ frames := 0, cells := 0, slots := 0, locals := 0 }) (PcRW [.ref h, .int (nI k), .int 1] sz D cI cJ cZ [(h, .inr (3, [.ref hB, .ref q1, .ref q2, .ref q3, .ref q4, .ref q5, .ref q6, .ref q7, .ref q8, .ref q9, .ref q10, .ref q11, .ref q12, .ref q13])), (q9, .inl (cI, 40, .inl oc))]) (QcV D (va_A [(h, .inr (3, [.ref hB, .ref q1, .ref q2, .ref q3, .ref q4, .ref q5, .ref q6, .ref q7, .ref q8, .ref q9, .ref q10, .ref q11, .ref q12, .ref q13])), (q9, .inl (cI, 40, .inl oc))] sz) [(h, .inr (3, [.ref hB, .ref q1, .ref q2, .ref q3, .ref q4, .ref q5, .ref q6, .ref q7, .ref q8, .ref q9, .ref q10, .ref q11, .ref q12, .ref q13])), (q9, .inl (cI, 40, .inl oc))]) 0 0 (va_A [(h, .inr (3, [.ref hB, .ref q1, .ref q2, .ref q3, .ref q4, .ref q5, .ref q6, .ref q7, .ref q8, .ref q9, .ref q10, .ref q11, .ref q12, .ref q13])), (q9, .inl (cI, 40, .inl oc))] sz) := by
  refine Met.ofW (cc := cX3_failUnless) (maxL := 3) (ret := none) (by decide) rfl ?_
  intro p e s m args below meth c s₁ B hml hv
  obtain ⟨rfl, hsz, hP, hE, hD0⟩ := hv
  have hx := B.exec
  have hb := B.bytes
  have hr := B.returns
  have hts := atoms_spec (ws := wsX3_failUnless) B.pre
  have hown : s.vm.findClass RX3 = some m.cls := findClass_of_methodNamed B.named
  have hlocks := B.notSynchronized
  have hK := hE.1
  subst hsz
  have hD := hD0.self (sz := s.heap.size)
  generalize hAe : va_A [(h, .inr (3, [.ref hB, .ref q1, .ref q2, .ref q3, .ref q4, .ref q5, .ref q6, .ref q7, .ref q8, .ref q9, .ref q10, .ref q11, .ref q12, .ref q13])), (q9, .inl (cI, 40, .inl oc))] s.heap.size = A at hD ⊢
  have hA : ∀ q : Nat, s.heap.size ≤ q → A q := fun q h => by rw [← hAe]; exact Or.inr h
  have hS : va_S A s.heap s.heap [] := va_S.rf
  have hl := lv_entry ([.ref h, .int (nI k), .int 1]) (n := 3) (Nat.le_of_ble_eq_true rfl)
  rw [lg_entry_eq]
  generalize (lg_sl ([.ref h, .int (nI k), .int 1]) ++ List.replicate (3 - (lg_sl ([.ref h, .int (nI k), .int 1])).length) Slot.unset).toArray = ls at hl ⊢
  have hl : lv_has ls 3 [(0, .ref h), (1, .int (nI k)), (2, .int 1)] := hl
  have hinX3 : ∀ w ∈ u_ws RX3 TX3 14, w ∈ wsX3_failUnless := fun _ h => List.mem_cons_of_mem _ (List.mem_append_right _ h)
  refine lv_iload_n hx hb dX3_failUnless_0 rfl (lv_at hl 2 rfl) ?_
  refine lv_if_ne (tgt := 11) hx hb dX3_failUnless_1 (by decide) (fun c1 => ?_) (fun c1 => absurd c1 (by decide))
  exact W.vret hx hb hr (fun t ht hW => ⟨⟨(), rfl, trivial, by rw [ht]; exact hP, by exact hD⟩, hS.F ht⟩) hS.2.2 dX3_failUnless_11
set_option maxHeartbeats 4000000 in
set_option maxRecDepth 100000 in
theorem k_fail0 (l : Launch) (D : va_G) (cI cJ cZ : ClassId) (sz : Nat) (h hB q1 q2 q3 q4 q5 q6 q7 q8 q9 q10 q11 q12 q13 : Nat) (oc : Nat → Int32) (k : Nat) (hk : k < 40) : Met l yX3_failUnless wsX3_failUnless ({ frames := 0, cells := 0, slots := 0, locals := 0 }) (PcRW [.ref h, .int (nI k), .int 0] sz D cI cJ cZ [(h, .inr (3, [.ref hB, .ref q1, .ref q2, .ref q3, .ref q4, .ref q5, .ref q6, .ref q7, .ref q8, .ref q9, .ref q10, .ref q11, .ref q12, .ref q13])), (q9, .inl (cI, 40, .inl oc))]) (QcV D (va_A [(h, .inr (3, [.ref hB, .ref q1, .ref q2, .ref q3, .ref q4, .ref q5, .ref q6, .ref q7, .ref q8, .ref q9, .ref q10, .ref q11, .ref q12, .ref q13])), (q9, .inl (cI, 40, .inl oc))] sz) [(h, .inr (3, [.ref hB, .ref q1, .ref q2, .ref q3, .ref q4, .ref q5, .ref q6, .ref q7, .ref q8, .ref q9, .ref q10, .ref q11, .ref q12, .ref q13])), (q9, .inl (cI, 40, .inl (upd oc k 2)))]) 0 0 (va_A [(h, .inr (3, [.ref hB, .ref q1, .ref q2, .ref q3, .ref q4, .ref q5, .ref q6, .ref q7, .ref q8, .ref q9, .ref q10, .ref q11, .ref q12, .ref q13])), (q9, .inl (cI, 40, .inl oc))] sz) := by
  refine Met.ofW (cc := cX3_failUnless) (maxL := 3) (ret := none) (by decide) rfl ?_
  intro p e s m args below meth c s₁ B hml hv
  obtain ⟨rfl, hsz, hP, hE, hD0⟩ := hv
  have hx := B.exec
  have hb := B.bytes
  have hr := B.returns
  have hts := atoms_spec (ws := wsX3_failUnless) B.pre
  have hown : s.vm.findClass RX3 = some m.cls := findClass_of_methodNamed B.named
  have hlocks := B.notSynchronized
  have hK := hE.1
  subst hsz
  have hD := hD0.self (sz := s.heap.size)
  generalize hAe : va_A [(h, .inr (3, [.ref hB, .ref q1, .ref q2, .ref q3, .ref q4, .ref q5, .ref q6, .ref q7, .ref q8, .ref q9, .ref q10, .ref q11, .ref q12, .ref q13])), (q9, .inl (cI, 40, .inl oc))] s.heap.size = A at hD ⊢
  have hA : ∀ q : Nat, s.heap.size ≤ q → A q := fun q h => by rw [← hAe]; exact Or.inr h
  have hS : va_S A s.heap s.heap [] := va_S.rf
  have hl := lv_entry ([.ref h, .int (nI k), .int 0]) (n := 3) (Nat.le_of_ble_eq_true rfl)
  rw [lg_entry_eq]
  generalize (lg_sl ([.ref h, .int (nI k), .int 0]) ++ List.replicate (3 - (lg_sl ([.ref h, .int (nI k), .int 0])).length) Slot.unset).toArray = ls at hl ⊢
  have hl : lv_has ls 3 [(0, .ref h), (1, .int (nI k)), (2, .int 0)] := hl
  have hinX3 : ∀ w ∈ u_ws RX3 TX3 14, w ∈ wsX3_failUnless := fun _ h => List.mem_cons_of_mem _ (List.mem_append_right _ h)
  refine lv_iload_n hx hb dX3_failUnless_0 rfl (lv_at hl 2 rfl) ?_
  refine lv_if_ne (tgt := 11) hx hb dX3_failUnless_1 (by decide) (fun c1 => absurd (by decide) c1) (fun c1 => ?_)
  refine lv_aload_n hx hb dX3_failUnless_4 rfl (lv_at hl 0 rfl) ?_
  refine va_get (D := D) (ci := 3) (v := .ref q9) (C := RX3) (T := TX3) (N := 14) hx hb hts hinX3 hown hK hP 0 rfl rfl 9 (by decide) (hts (.fieldLink RX3 38 "LedgerShares$Sheet" "outcomes" "[I") (List.mem_of_getElem? (i := 1) rfl)) (fun _ h9 => h9) rfl dX3_failUnless_5 ?_
  refine lv_iload_n hx hb dX3_failUnless_8 rfl (lv_at hl 1 rfl) ?_
  refine lv_iconst (v := 2) hx hb dX3_failUnless_9 (by decide) ?_
  refine x_iast hx hb hE hP hD hS 1 rfl (k) hk (by decide) (rfl) (ws' := [(h, .inr (3, [.ref hB, .ref q1, .ref q2, .ref q3, .ref q4, .ref q5, .ref q6, .ref q7, .ref q8, .ref q9, .ref q10, .ref q11, .ref q12, .ref q13])), (q9, .inl (cI, 40, .inl (upd oc k 2)))]) (rfl) dX3_failUnless_10 (fun H locs hP hD hS => ?_)
  exact W.vret hx hb hr (fun t ht hW => ⟨⟨(), rfl, trivial, by rw [ht]; exact hP, by exact hD⟩, hS.F ht⟩) hS.2.2 dX3_failUnless_11
set_option maxHeartbeats 4000000 in
set_option maxRecDepth 100000 in
theorem k_meet1 (l : Launch) (D : va_G) (cI cJ cZ : ClassId) (sz : Nat) (h hB q1 q2 q3 q4 q5 q6 q7 q8 q9 q10 q11 q12 q13 : Nat) (oc cb : Nat → Int32) (gb : Nat → Int64) (k : Nat) (hk : k < 40) (y : Int64) : Met l yX3_meet wsX3_meet ({ frames := 1, cells := 0, slots := 0, locals := 23 }) (PcRW [.ref h, .int (nI k), .int 1, .long y] sz D cI cJ cZ [(h, .inr (3, [.ref hB, .ref q1, .ref q2, .ref q3, .ref q4, .ref q5, .ref q6, .ref q7, .ref q8, .ref q9, .ref q10, .ref q11, .ref q12, .ref q13])), (q9, .inl (cI, 40, .inl oc)), (q6, .inl (cZ, 40, .inl cb)), (q8, .inl (cJ, 40, .inr (.inl gb)))]) (QcV D (va_A [(h, .inr (3, [.ref hB, .ref q1, .ref q2, .ref q3, .ref q4, .ref q5, .ref q6, .ref q7, .ref q8, .ref q9, .ref q10, .ref q11, .ref q12, .ref q13])), (q9, .inl (cI, 40, .inl oc)), (q6, .inl (cZ, 40, .inl cb)), (q8, .inl (cJ, 40, .inr (.inl gb)))] sz) [(h, .inr (3, [.ref hB, .ref q1, .ref q2, .ref q3, .ref q4, .ref q5, .ref q6, .ref q7, .ref q8, .ref q9, .ref q10, .ref q11, .ref q12, .ref q13])), (q9, .inl (cI, 40, .inl oc)), (q6, .inl (cZ, 40, .inl (upd cb k 1))), (q8, .inl (cJ, 40, .inr (.inl (vp_updL gb k y))))]) 0 0 (va_A [(h, .inr (3, [.ref hB, .ref q1, .ref q2, .ref q3, .ref q4, .ref q5, .ref q6, .ref q7, .ref q8, .ref q9, .ref q10, .ref q11, .ref q12, .ref q13])), (q9, .inl (cI, 40, .inl oc)), (q6, .inl (cZ, 40, .inl cb)), (q8, .inl (cJ, 40, .inr (.inl gb)))] sz) := by
  refine Met.ofW (cc := cX3_meet) (maxL := 5) (ret := none) (by decide) rfl ?_
  intro p e s m args below meth c s₁ B hml hv
  obtain ⟨rfl, hsz, hP, hE, hD0⟩ := hv
  have hx := B.exec
  have hb := B.bytes
  have hr := B.returns
  have hts := atoms_spec (ws := wsX3_meet) B.pre
  have hown : s.vm.findClass RX3 = some m.cls := findClass_of_methodNamed B.named
  have hlocks := B.notSynchronized
  have hK := hE.1
  subst hsz
  have hD := hD0.self (sz := s.heap.size)
  generalize hAe : va_A [(h, .inr (3, [.ref hB, .ref q1, .ref q2, .ref q3, .ref q4, .ref q5, .ref q6, .ref q7, .ref q8, .ref q9, .ref q10, .ref q11, .ref q12, .ref q13])), (q9, .inl (cI, 40, .inl oc)), (q6, .inl (cZ, 40, .inl cb)), (q8, .inl (cJ, 40, .inr (.inl gb)))] s.heap.size = A at hD ⊢
  have hA : ∀ q : Nat, s.heap.size ≤ q → A q := fun q h => by rw [← hAe]; exact Or.inr h
  have hS : va_S A s.heap s.heap [] := va_S.rf
  have hl := lv_entry ([.ref h, .int (nI k), .int 1, .long y]) (n := 5) (Nat.le_of_ble_eq_true rfl)
  rw [lg_entry_eq]
  generalize (lg_sl ([.ref h, .int (nI k), .int 1, .long y]) ++ List.replicate (5 - (lg_sl ([.ref h, .int (nI k), .int 1, .long y])).length) Slot.unset).toArray = ls at hl ⊢
  have hl : lv_has ls 5 [(0, .ref h), (1, .int (nI k)), (2, .int 1), (3, .long y)] := hl
  refine lv_aload_n hx hb dX3_meet_0 rfl (lv_at hl 0 rfl) ?_
  refine lv_iload_n hx hb dX3_meet_1 rfl (lv_at hl 1 rfl) ?_
  refine lv_iload_n hx hb dX3_meet_2 rfl (lv_at hl 2 rfl) ?_
  refine x_callv (wc := [(h, .inr (3, [.ref hB, .ref q1, .ref q2, .ref q3, .ref q4, .ref q5, .ref q6, .ref q7, .ref q8, .ref q9, .ref q10, .ref q11, .ref q12, .ref q13])), (q9, .inl (cI, 40, .inl oc))]) (wc' := [(h, .inr (3, [.ref hB, .ref q1, .ref q2, .ref q3, .ref q4, .ref q5, .ref q6, .ref q7, .ref q8, .ref q9, .ref q10, .ref q11, .ref q12, .ref q13])), (q9, .inl (cI, 40, .inl oc))]) (wr := [(q6, .inl (cZ, 40, .inl cb)), (q8, .inl (cJ, 40, .inr (.inl gb)))]) (ws' := [(h, .inr (3, [.ref hB, .ref q1, .ref q2, .ref q3, .ref q4, .ref q5, .ref q6, .ref q7, .ref q8, .ref q9, .ref q10, .ref q11, .ref q12, .ref q13])), (q9, .inl (cI, 40, .inl oc)), (q6, .inl (cZ, 40, .inl cb)), (q8, .inl (cJ, 40, .inr (.inl gb)))]) hP hD hS hA [0, 1] [2, 3] rfl rfl (by decide) (by decide) [2, 3, 0, 1] (by decide) rfl (va_runV (As := [.int (nI k), .int 1]) (rest := []) ⟨hx, hb, hml, hown, hts⟩ (k_fail1 l D cI cJ cZ s.heap.size h hB q1 q2 q3 q4 q5 q6 q7 q8 q9 q10 q11 q12 q13 oc k hk) (cwV 2 hts gX3_meet_X3_failUnless rfl rfl rfl (by decide +kernel) ⟨Nat.le_of_ble_eq_true rfl, Nat.le_of_ble_eq_true rfl⟩) ⟨bl_rw, va_recv hK (hP.sub (ws' := [(h, .inr (3, [.ref hB, .ref q1, .ref q2, .ref q3, .ref q4, .ref q5, .ref q6, .ref q7, .ref q8, .ref q9, .ref q10, .ref q11, .ref q12, .ref q13])), (q9, .inl (cI, 40, .inl oc))]) [0, 1] rfl) (ci := 3) (q0 := 0) rfl rfl, fun U hU hW => ⟨rfl, by rw [hU], by rw [hU]; exact (hP.sub (ws' := [(h, .inr (3, [.ref hB, .ref q1, .ref q2, .ref q3, .ref q4, .ref q5, .ref q6, .ref q7, .ref q8, .ref q9, .ref q10, .ref q11, .ref q12, .ref q13])), (q9, .inl (cI, 40, .inl oc))]) [0, 1] rfl), hE.warm2 hW, (hD.sub (ws' := [(h, .inr (3, [.ref hB, .ref q1, .ref q2, .ref q3, .ref q4, .ref q5, .ref q6, .ref q7, .ref q8, .ref q9, .ref q10, .ref q11, .ref q12, .ref q13])), (q9, .inl (cI, 40, .inl oc))]) [0, 1] (by decide) rfl).weaken (fun _ _ _ _ => trivial)⟩⟩ rfl rfl hl.1 rfl (lv_room (Nat.le_of_ble_eq_true rfl)) dX3_meet_3 ⟨Nat.zero_le _, Nat.zero_le _⟩) (fun H locs hP hD hS => ?_)
  refine lv_iload_n hx hb dX3_meet_6 rfl (lv_at hl 2 rfl) ?_
  refine lv_if_eq (tgt := 16) hx hb dX3_meet_7 (by decide) (fun c7 => absurd c7 (by decide)) (fun c7 => ?_)
  refine lv_aload_n hx hb dX3_meet_10 rfl (lv_at hl 0 rfl) ?_
  refine lv_iload_n hx hb dX3_meet_11 rfl (lv_at hl 1 rfl) ?_
  refine lv_lload_n hx hb dX3_meet_12 rfl (lv_at hl 3 rfl) ?_
  refine x_callv (wc := [(h, .inr (3, [.ref hB, .ref q1, .ref q2, .ref q3, .ref q4, .ref q5, .ref q6, .ref q7, .ref q8, .ref q9, .ref q10, .ref q11, .ref q12, .ref q13])), (q6, .inl (cZ, 40, .inl cb)), (q8, .inl (cJ, 40, .inr (.inl gb)))]) (wc' := [(h, .inr (3, [.ref hB, .ref q1, .ref q2, .ref q3, .ref q4, .ref q5, .ref q6, .ref q7, .ref q8, .ref q9, .ref q10, .ref q11, .ref q12, .ref q13])), (q6, .inl (cZ, 40, .inl (upd cb k 1))), (q8, .inl (cJ, 40, .inr (.inl (vp_updL gb k y))))]) (wr := [(q9, .inl (cI, 40, .inl oc))]) (ws' := [(h, .inr (3, [.ref hB, .ref q1, .ref q2, .ref q3, .ref q4, .ref q5, .ref q6, .ref q7, .ref q8, .ref q9, .ref q10, .ref q11, .ref q12, .ref q13])), (q9, .inl (cI, 40, .inl oc)), (q6, .inl (cZ, 40, .inl (upd cb k 1))), (q8, .inl (cJ, 40, .inr (.inl (vp_updL gb k y))))]) hP hD hS hA [0, 2, 3] [1] rfl rfl (by decide) (by decide) [1, 0, 2, 3] (by decide) rfl (va_runV (As := [.int (nI k), .long y]) (rest := []) ⟨hx, hb, hml, hown, hts⟩ (k_giveB l D cI cJ cZ H.size h hB q1 q2 q3 q4 q5 q6 q7 q8 q9 q10 q11 q12 q13 cb gb k hk (y)) (cwV 2 hts gX3_meet_X3_giveB rfl rfl rfl (by decide +kernel) ⟨Nat.le_of_ble_eq_true rfl, Nat.le_of_ble_eq_true rfl⟩) ⟨bl_rw, va_recv hK (hP.sub (ws' := [(h, .inr (3, [.ref hB, .ref q1, .ref q2, .ref q3, .ref q4, .ref q5, .ref q6, .ref q7, .ref q8, .ref q9, .ref q10, .ref q11, .ref q12, .ref q13])), (q6, .inl (cZ, 40, .inl cb)), (q8, .inl (cJ, 40, .inr (.inl gb)))]) [0, 2, 3] rfl) (ci := 3) (q0 := 0) rfl rfl, fun U hU hW => ⟨rfl, by rw [hU], by rw [hU]; exact (hP.sub (ws' := [(h, .inr (3, [.ref hB, .ref q1, .ref q2, .ref q3, .ref q4, .ref q5, .ref q6, .ref q7, .ref q8, .ref q9, .ref q10, .ref q11, .ref q12, .ref q13])), (q6, .inl (cZ, 40, .inl cb)), (q8, .inl (cJ, 40, .inr (.inl gb)))]) [0, 2, 3] rfl), hE.warm2 hW, (hD.sub (ws' := [(h, .inr (3, [.ref hB, .ref q1, .ref q2, .ref q3, .ref q4, .ref q5, .ref q6, .ref q7, .ref q8, .ref q9, .ref q10, .ref q11, .ref q12, .ref q13])), (q6, .inl (cZ, 40, .inl cb)), (q8, .inl (cJ, 40, .inr (.inl gb)))]) [0, 2, 3] (by decide) rfl).weaken (fun _ _ _ _ => trivial)⟩⟩ rfl rfl hl.1 rfl (lv_room (Nat.le_of_ble_eq_true rfl)) dX3_meet_13 ⟨Nat.zero_le _, Nat.zero_le _⟩) (fun H locs hP hD hS => ?_)
  exact W.vret hx hb hr (fun t ht hW => ⟨⟨(), rfl, trivial, by rw [ht]; exact hP, by exact hD⟩, hS.F ht⟩) hS.2.2 dX3_meet_16
set_option maxHeartbeats 4000000 in
set_option maxRecDepth 100000 in
theorem k_meet0 (l : Launch) (D : va_G) (cI cJ cZ : ClassId) (sz : Nat) (h hB q1 q2 q3 q4 q5 q6 q7 q8 q9 q10 q11 q12 q13 : Nat) (oc cb : Nat → Int32) (gb : Nat → Int64) (k : Nat) (hk : k < 40) (y : Int64) : Met l yX3_meet wsX3_meet ({ frames := 1, cells := 0, slots := 0, locals := 23 }) (PcRW [.ref h, .int (nI k), .int 0, .long y] sz D cI cJ cZ [(h, .inr (3, [.ref hB, .ref q1, .ref q2, .ref q3, .ref q4, .ref q5, .ref q6, .ref q7, .ref q8, .ref q9, .ref q10, .ref q11, .ref q12, .ref q13])), (q9, .inl (cI, 40, .inl oc)), (q6, .inl (cZ, 40, .inl cb)), (q8, .inl (cJ, 40, .inr (.inl gb)))]) (QcV D (va_A [(h, .inr (3, [.ref hB, .ref q1, .ref q2, .ref q3, .ref q4, .ref q5, .ref q6, .ref q7, .ref q8, .ref q9, .ref q10, .ref q11, .ref q12, .ref q13])), (q9, .inl (cI, 40, .inl oc)), (q6, .inl (cZ, 40, .inl cb)), (q8, .inl (cJ, 40, .inr (.inl gb)))] sz) [(h, .inr (3, [.ref hB, .ref q1, .ref q2, .ref q3, .ref q4, .ref q5, .ref q6, .ref q7, .ref q8, .ref q9, .ref q10, .ref q11, .ref q12, .ref q13])), (q9, .inl (cI, 40, .inl (upd oc k 2))), (q6, .inl (cZ, 40, .inl cb)), (q8, .inl (cJ, 40, .inr (.inl gb)))]) 0 0 (va_A [(h, .inr (3, [.ref hB, .ref q1, .ref q2, .ref q3, .ref q4, .ref q5, .ref q6, .ref q7, .ref q8, .ref q9, .ref q10, .ref q11, .ref q12, .ref q13])), (q9, .inl (cI, 40, .inl oc)), (q6, .inl (cZ, 40, .inl cb)), (q8, .inl (cJ, 40, .inr (.inl gb)))] sz) := by
  refine Met.ofW (cc := cX3_meet) (maxL := 5) (ret := none) (by decide) rfl ?_
  intro p e s m args below meth c s₁ B hml hv
  obtain ⟨rfl, hsz, hP, hE, hD0⟩ := hv
  have hx := B.exec
  have hb := B.bytes
  have hr := B.returns
  have hts := atoms_spec (ws := wsX3_meet) B.pre
  have hown : s.vm.findClass RX3 = some m.cls := findClass_of_methodNamed B.named
  have hlocks := B.notSynchronized
  have hK := hE.1
  subst hsz
  have hD := hD0.self (sz := s.heap.size)
  generalize hAe : va_A [(h, .inr (3, [.ref hB, .ref q1, .ref q2, .ref q3, .ref q4, .ref q5, .ref q6, .ref q7, .ref q8, .ref q9, .ref q10, .ref q11, .ref q12, .ref q13])), (q9, .inl (cI, 40, .inl oc)), (q6, .inl (cZ, 40, .inl cb)), (q8, .inl (cJ, 40, .inr (.inl gb)))] s.heap.size = A at hD ⊢
  have hA : ∀ q : Nat, s.heap.size ≤ q → A q := fun q h => by rw [← hAe]; exact Or.inr h
  have hS : va_S A s.heap s.heap [] := va_S.rf
  have hl := lv_entry ([.ref h, .int (nI k), .int 0, .long y]) (n := 5) (Nat.le_of_ble_eq_true rfl)
  rw [lg_entry_eq]
  generalize (lg_sl ([.ref h, .int (nI k), .int 0, .long y]) ++ List.replicate (5 - (lg_sl ([.ref h, .int (nI k), .int 0, .long y])).length) Slot.unset).toArray = ls at hl ⊢
  have hl : lv_has ls 5 [(0, .ref h), (1, .int (nI k)), (2, .int 0), (3, .long y)] := hl
  refine lv_aload_n hx hb dX3_meet_0 rfl (lv_at hl 0 rfl) ?_
  refine lv_iload_n hx hb dX3_meet_1 rfl (lv_at hl 1 rfl) ?_
  refine lv_iload_n hx hb dX3_meet_2 rfl (lv_at hl 2 rfl) ?_
  refine x_callv (wc := [(h, .inr (3, [.ref hB, .ref q1, .ref q2, .ref q3, .ref q4, .ref q5, .ref q6, .ref q7, .ref q8, .ref q9, .ref q10, .ref q11, .ref q12, .ref q13])), (q9, .inl (cI, 40, .inl oc))]) (wc' := [(h, .inr (3, [.ref hB, .ref q1, .ref q2, .ref q3, .ref q4, .ref q5, .ref q6, .ref q7, .ref q8, .ref q9, .ref q10, .ref q11, .ref q12, .ref q13])), (q9, .inl (cI, 40, .inl (upd oc k 2)))]) (wr := [(q6, .inl (cZ, 40, .inl cb)), (q8, .inl (cJ, 40, .inr (.inl gb)))]) (ws' := [(h, .inr (3, [.ref hB, .ref q1, .ref q2, .ref q3, .ref q4, .ref q5, .ref q6, .ref q7, .ref q8, .ref q9, .ref q10, .ref q11, .ref q12, .ref q13])), (q9, .inl (cI, 40, .inl (upd oc k 2))), (q6, .inl (cZ, 40, .inl cb)), (q8, .inl (cJ, 40, .inr (.inl gb)))]) hP hD hS hA [0, 1] [2, 3] rfl rfl (by decide) (by decide) [2, 3, 0, 1] (by decide) rfl (va_runV (As := [.int (nI k), .int 0]) (rest := []) ⟨hx, hb, hml, hown, hts⟩ (k_fail0 l D cI cJ cZ s.heap.size h hB q1 q2 q3 q4 q5 q6 q7 q8 q9 q10 q11 q12 q13 oc k hk) (cwV 2 hts gX3_meet_X3_failUnless rfl rfl rfl (by decide +kernel) ⟨Nat.le_of_ble_eq_true rfl, Nat.le_of_ble_eq_true rfl⟩) ⟨bl_rw, va_recv hK (hP.sub (ws' := [(h, .inr (3, [.ref hB, .ref q1, .ref q2, .ref q3, .ref q4, .ref q5, .ref q6, .ref q7, .ref q8, .ref q9, .ref q10, .ref q11, .ref q12, .ref q13])), (q9, .inl (cI, 40, .inl oc))]) [0, 1] rfl) (ci := 3) (q0 := 0) rfl rfl, fun U hU hW => ⟨rfl, by rw [hU], by rw [hU]; exact (hP.sub (ws' := [(h, .inr (3, [.ref hB, .ref q1, .ref q2, .ref q3, .ref q4, .ref q5, .ref q6, .ref q7, .ref q8, .ref q9, .ref q10, .ref q11, .ref q12, .ref q13])), (q9, .inl (cI, 40, .inl oc))]) [0, 1] rfl), hE.warm2 hW, (hD.sub (ws' := [(h, .inr (3, [.ref hB, .ref q1, .ref q2, .ref q3, .ref q4, .ref q5, .ref q6, .ref q7, .ref q8, .ref q9, .ref q10, .ref q11, .ref q12, .ref q13])), (q9, .inl (cI, 40, .inl oc))]) [0, 1] (by decide) rfl).weaken (fun _ _ _ _ => trivial)⟩⟩ rfl rfl hl.1 rfl (lv_room (Nat.le_of_ble_eq_true rfl)) dX3_meet_3 ⟨Nat.zero_le _, Nat.zero_le _⟩) (fun H locs hP hD hS => ?_)
  refine lv_iload_n hx hb dX3_meet_6 rfl (lv_at hl 2 rfl) ?_
  refine lv_if_eq (tgt := 16) hx hb dX3_meet_7 (by decide) (fun c7 => ?_) (fun c7 => absurd c7 (by decide))
  exact W.vret hx hb hr (fun t ht hW => ⟨⟨(), rfl, trivial, by rw [ht]; exact hP, by exact hD⟩, hS.F ht⟩) hS.2.2 dX3_meet_16
set_option maxHeartbeats 4000000 in
set_option maxRecDepth 100000 in
theorem k_pay (l : Launch) (D : va_G) (cI cJ cZ : ClassId) (sz : Nat) (h hB q1 q2 q3 q4 q5 q6 q7 q8 q9 q10 q11 q12 q13 : Nat) (oc ca cb : Nat → Int32) (ga gb : Nat → Int64) (b1 b2 b3 b4 b5 b6 : Nat) (bz : Int32) (ak bk : Nat → Int32) (k : Nat) (hk : k < 40) (x y z : Int64) (ho : oc k = 1) : Met l yX3_pay wsX3_pay ({ frames := 1, cells := 0, slots := 0, locals := 23 }) (PcRW [.ref h, .int (nI k), .long x, .long y, .long z] sz D cI cJ cZ [(h, .inr (3, [.ref hB, .ref q1, .ref q2, .ref q3, .ref q4, .ref q5, .ref q6, .ref q7, .ref q8, .ref q9, .ref q10, .ref q11, .ref q12, .ref q13])), (q9, .inl (cI, 40, .inl oc)), (q5, .inl (cZ, 40, .inl ca)), (q6, .inl (cZ, 40, .inl cb)), (q7, .inl (cJ, 40, .inr (.inl ga))), (q8, .inl (cJ, 40, .inr (.inl gb))), (hB, .inr (0, [.int bz, .ref b1, .ref b2, .ref b3, .ref b4, .ref b5, .ref b6])), (b2, .inl (cI, 40, .inl ak)), (b3, .inl (cI, 40, .inl bk))]) (QcV D (va_A [(h, .inr (3, [.ref hB, .ref q1, .ref q2, .ref q3, .ref q4, .ref q5, .ref q6, .ref q7, .ref q8, .ref q9, .ref q10, .ref q11, .ref q12, .ref q13])), (q9, .inl (cI, 40, .inl oc)), (q5, .inl (cZ, 40, .inl ca)), (q6, .inl (cZ, 40, .inl cb)), (q7, .inl (cJ, 40, .inr (.inl ga))), (q8, .inl (cJ, 40, .inr (.inl gb))), (hB, .inr (0, [.int bz, .ref b1, .ref b2, .ref b3, .ref b4, .ref b5, .ref b6])), (b2, .inl (cI, 40, .inl ak)), (b3, .inl (cI, 40, .inl bk))] sz) [(h, .inr (3, [.ref hB, .ref q1, .ref q2, .ref q3, .ref q4, .ref q5, .ref q6, .ref q7, .ref q8, .ref q9, .ref q10, .ref q11, .ref q12, .ref q13])), (q9, .inl (cI, 40, .inl (if x < z ∨ z < 0 then upd oc k 2 else oc))), (q5, .inl (cZ, 40, .inl (if (x < z ∨ z < 0) ∨ ak k = bk k then ca else upd ca k 1))), (q6, .inl (cZ, 40, .inl (if (x < z ∨ z < 0) ∨ ak k = bk k then cb else upd cb k 1))), (q7, .inl (cJ, 40, .inr (.inl (if (x < z ∨ z < 0) ∨ ak k = bk k then ga else vp_updL ga k (x - z))))), (q8, .inl (cJ, 40, .inr (.inl (if (x < z ∨ z < 0) ∨ ak k = bk k then gb else vp_updL gb k (y + z))))), (hB, .inr (0, [.int bz, .ref b1, .ref b2, .ref b3, .ref b4, .ref b5, .ref b6])), (b2, .inl (cI, 40, .inl ak)), (b3, .inl (cI, 40, .inl bk))]) 0 0 (va_A [(h, .inr (3, [.ref hB, .ref q1, .ref q2, .ref q3, .ref q4, .ref q5, .ref q6, .ref q7, .ref q8, .ref q9, .ref q10, .ref q11, .ref q12, .ref q13])), (q9, .inl (cI, 40, .inl oc)), (q5, .inl (cZ, 40, .inl ca)), (q6, .inl (cZ, 40, .inl cb)), (q7, .inl (cJ, 40, .inr (.inl ga))), (q8, .inl (cJ, 40, .inr (.inl gb))), (hB, .inr (0, [.int bz, .ref b1, .ref b2, .ref b3, .ref b4, .ref b5, .ref b6])), (b2, .inl (cI, 40, .inl ak)), (b3, .inl (cI, 40, .inl bk))] sz) := by
  refine Met.ofW (cc := cX3_pay) (maxL := 8) (ret := none) (by decide) rfl ?_
  intro p e s m args below meth c s₁ B hml hv
  obtain ⟨rfl, hsz, hP, hE, hD0⟩ := hv
  have hx := B.exec
  have hb := B.bytes
  have hr := B.returns
  have hts := atoms_spec (ws := wsX3_pay) B.pre
  have hown : s.vm.findClass RX3 = some m.cls := findClass_of_methodNamed B.named
  have hlocks := B.notSynchronized
  have hK := hE.1
  subst hsz
  have hD := hD0.self (sz := s.heap.size)
  generalize hAe : va_A [(h, .inr (3, [.ref hB, .ref q1, .ref q2, .ref q3, .ref q4, .ref q5, .ref q6, .ref q7, .ref q8, .ref q9, .ref q10, .ref q11, .ref q12, .ref q13])), (q9, .inl (cI, 40, .inl oc)), (q5, .inl (cZ, 40, .inl ca)), (q6, .inl (cZ, 40, .inl cb)), (q7, .inl (cJ, 40, .inr (.inl ga))), (q8, .inl (cJ, 40, .inr (.inl gb))), (hB, .inr (0, [.int bz, .ref b1, .ref b2, .ref b3, .ref b4, .ref b5, .ref b6])), (b2, .inl (cI, 40, .inl ak)), (b3, .inl (cI, 40, .inl bk))] s.heap.size = A at hD ⊢
  have hA : ∀ q : Nat, s.heap.size ≤ q → A q := fun q h => by rw [← hAe]; exact Or.inr h
  have hS : va_S A s.heap s.heap [] := va_S.rf
  have hl := lv_entry ([.ref h, .int (nI k), .long x, .long y, .long z]) (n := 8) (Nat.le_of_ble_eq_true rfl)
  rw [lg_entry_eq]
  generalize (lg_sl ([.ref h, .int (nI k), .long x, .long y, .long z]) ++ List.replicate (8 - (lg_sl ([.ref h, .int (nI k), .long x, .long y, .long z])).length) Slot.unset).toArray = ls at hl ⊢
  have hl : lv_has ls 8 [(0, .ref h), (1, .int (nI k)), (2, .long x), (4, .long y), (6, .long z)] := hl
  have hinX0 : ∀ w ∈ u_ws RX0 TX0 7, w ∈ wsX3_pay := fun _ h => List.mem_cons_of_mem _ (List.mem_append_right _ h)
  have hinX3 : ∀ w ∈ u_ws RX3 TX3 14, w ∈ wsX3_pay := fun _ h => List.mem_cons_of_mem _ (List.mem_append_left _ (List.mem_append_right _ h))
  refine lv_aload_n hx hb dX3_pay_0 rfl (lv_at hl 0 rfl) ?_
  refine lv_iload_n hx hb dX3_pay_1 rfl (lv_at hl 1 rfl) ?_
  refine lv_lload_n hx hb dX3_pay_2 rfl (lv_at hl 2 rfl) ?_
  refine lv_lload hx hb dX3_pay_3 (lv_at hl 4 rfl) ?_
  refine W.lcmp hx hb dX3_pay_5 ?_
  refine lv_if_lt (tgt := 20) hx hb dX3_pay_6 (by decide) (fun c6 => ?_) (fun c6 => ?_)
  · have c6 := (lg_cmp_lt _ _).mp c6
    refine lv_iconst (v := 0) hx hb dX3_pay_20 (by decide) ?_
    refine x_callv (wc := [(h, .inr (3, [.ref hB, .ref q1, .ref q2, .ref q3, .ref q4, .ref q5, .ref q6, .ref q7, .ref q8, .ref q9, .ref q10, .ref q11, .ref q12, .ref q13])), (q9, .inl (cI, 40, .inl oc))]) (wc' := [(h, .inr (3, [.ref hB, .ref q1, .ref q2, .ref q3, .ref q4, .ref q5, .ref q6, .ref q7, .ref q8, .ref q9, .ref q10, .ref q11, .ref q12, .ref q13])), (q9, .inl (cI, 40, .inl (upd oc k 2)))]) (wr := [(q5, .inl (cZ, 40, .inl ca)), (q6, .inl (cZ, 40, .inl cb)), (q7, .inl (cJ, 40, .inr (.inl ga))), (q8, .inl (cJ, 40, .inr (.inl gb))), (hB, .inr (0, [.int bz, .ref b1, .ref b2, .ref b3, .ref b4, .ref b5, .ref b6])), (b2, .inl (cI, 40, .inl ak)), (b3, .inl (cI, 40, .inl bk))]) (ws' := [(h, .inr (3, [.ref hB, .ref q1, .ref q2, .ref q3, .ref q4, .ref q5, .ref q6, .ref q7, .ref q8, .ref q9, .ref q10, .ref q11, .ref q12, .ref q13])), (q9, .inl (cI, 40, .inl (upd oc k 2))), (q5, .inl (cZ, 40, .inl ca)), (q6, .inl (cZ, 40, .inl cb)), (q7, .inl (cJ, 40, .inr (.inl ga))), (q8, .inl (cJ, 40, .inr (.inl gb))), (hB, .inr (0, [.int bz, .ref b1, .ref b2, .ref b3, .ref b4, .ref b5, .ref b6])), (b2, .inl (cI, 40, .inl ak)), (b3, .inl (cI, 40, .inl bk))]) hP hD hS hA [0, 1] [2, 3, 4, 5, 6, 7, 8] rfl rfl (by decide) (by decide) [7, 8, 0, 1, 2, 3, 4, 5, 6] (by decide) rfl (va_runV (As := [.int (nI k), .int 0]) (rest := []) ⟨hx, hb, hml, hown, hts⟩ (k_fail0 l D cI cJ cZ s.heap.size h hB q1 q2 q3 q4 q5 q6 q7 q8 q9 q10 q11 q12 q13 oc k hk) (cwV 2 hts gX3_pay_X3_failUnless rfl rfl rfl (by decide +kernel) ⟨Nat.le_of_ble_eq_true rfl, Nat.le_of_ble_eq_true rfl⟩) ⟨bl_rw, va_recv hK (hP.sub (ws' := [(h, .inr (3, [.ref hB, .ref q1, .ref q2, .ref q3, .ref q4, .ref q5, .ref q6, .ref q7, .ref q8, .ref q9, .ref q10, .ref q11, .ref q12, .ref q13])), (q9, .inl (cI, 40, .inl oc))]) [0, 1] rfl) (ci := 3) (q0 := 0) rfl rfl, fun U hU hW => ⟨rfl, by rw [hU], by rw [hU]; exact (hP.sub (ws' := [(h, .inr (3, [.ref hB, .ref q1, .ref q2, .ref q3, .ref q4, .ref q5, .ref q6, .ref q7, .ref q8, .ref q9, .ref q10, .ref q11, .ref q12, .ref q13])), (q9, .inl (cI, 40, .inl oc))]) [0, 1] rfl), hE.warm2 hW, (hD.sub (ws' := [(h, .inr (3, [.ref hB, .ref q1, .ref q2, .ref q3, .ref q4, .ref q5, .ref q6, .ref q7, .ref q8, .ref q9, .ref q10, .ref q11, .ref q12, .ref q13])), (q9, .inl (cI, 40, .inl oc))]) [0, 1] (by decide) rfl).weaken (fun _ _ _ _ => trivial)⟩⟩ rfl rfl hl.1 rfl (lv_room (Nat.le_of_ble_eq_true rfl)) dX3_pay_21 ⟨Nat.zero_le _, Nat.zero_le _⟩) (fun H locs hP hD hS => ?_)
    refine lv_aload_n hx hb dX3_pay_24 rfl (lv_at hl 0 rfl) ?_
    refine va_get (D := D) (ci := 3) (v := .ref q9) (C := RX3) (T := TX3) (N := 14) hx hb hts hinX3 hown hK hP 0 rfl rfl 9 (by decide) (hts (.fieldLink RX3 38 "LedgerShares$Sheet" "outcomes" "[I") (List.mem_of_getElem? (i := 1) rfl)) (fun _ h9 => h9) rfl dX3_pay_25 ?_
    refine lv_iload_n hx hb dX3_pay_28 rfl (lv_at hl 1 rfl) ?_
    refine x_iald hx hb hE hP 1 rfl (k) hk (by decide) (rfl) dX3_pay_29 ?_
    refine x_topi (y := 2) (upd_s _ _ _) ?_
    refine lv_iconst (v := 1) hx hb dX3_pay_30 (by decide) ?_
    refine lv_icmp_ne (tgt := 74) hx hb dX3_pay_31 (by decide) (fun c31 => ?_) (fun c31 => absurd c31 (by decide))
    exact W.vret hx hb hr (fun t ht hW => ⟨⟨(), rfl, trivial, by rw [ht]; simp only [if_pos (show x < z ∨ z < 0 from Or.inl c6), if_pos (show (x < z ∨ z < 0) ∨ ak k = bk k from Or.inl (Or.inl c6))]; exact hP, by simp only [if_pos (show x < z ∨ z < 0 from Or.inl c6), if_pos (show (x < z ∨ z < 0) ∨ ak k = bk k from Or.inl (Or.inl c6))]; exact hD⟩, hS.F ht⟩) hS.2.2 dX3_pay_74
  · have c6 := mt (lg_cmp_lt _ _).mpr c6
    refine lv_lload hx hb dX3_pay_9 (lv_at hl 4 rfl) ?_
    refine lv_lconst (v := 0) hx hb dX3_pay_11 (by decide) ?_
    refine W.lcmp hx hb dX3_pay_12 ?_
    refine lv_if_lt (tgt := 20) hx hb dX3_pay_13 (by decide) (fun c13 => ?_) (fun c13 => ?_)
    · have c13 := (lg_cmp_lt _ _).mp c13
      refine lv_iconst (v := 0) hx hb dX3_pay_20 (by decide) ?_
      refine x_callv (wc := [(h, .inr (3, [.ref hB, .ref q1, .ref q2, .ref q3, .ref q4, .ref q5, .ref q6, .ref q7, .ref q8, .ref q9, .ref q10, .ref q11, .ref q12, .ref q13])), (q9, .inl (cI, 40, .inl oc))]) (wc' := [(h, .inr (3, [.ref hB, .ref q1, .ref q2, .ref q3, .ref q4, .ref q5, .ref q6, .ref q7, .ref q8, .ref q9, .ref q10, .ref q11, .ref q12, .ref q13])), (q9, .inl (cI, 40, .inl (upd oc k 2)))]) (wr := [(q5, .inl (cZ, 40, .inl ca)), (q6, .inl (cZ, 40, .inl cb)), (q7, .inl (cJ, 40, .inr (.inl ga))), (q8, .inl (cJ, 40, .inr (.inl gb))), (hB, .inr (0, [.int bz, .ref b1, .ref b2, .ref b3, .ref b4, .ref b5, .ref b6])), (b2, .inl (cI, 40, .inl ak)), (b3, .inl (cI, 40, .inl bk))]) (ws' := [(h, .inr (3, [.ref hB, .ref q1, .ref q2, .ref q3, .ref q4, .ref q5, .ref q6, .ref q7, .ref q8, .ref q9, .ref q10, .ref q11, .ref q12, .ref q13])), (q9, .inl (cI, 40, .inl (upd oc k 2))), (q5, .inl (cZ, 40, .inl ca)), (q6, .inl (cZ, 40, .inl cb)), (q7, .inl (cJ, 40, .inr (.inl ga))), (q8, .inl (cJ, 40, .inr (.inl gb))), (hB, .inr (0, [.int bz, .ref b1, .ref b2, .ref b3, .ref b4, .ref b5, .ref b6])), (b2, .inl (cI, 40, .inl ak)), (b3, .inl (cI, 40, .inl bk))]) hP hD hS hA [0, 1] [2, 3, 4, 5, 6, 7, 8] rfl rfl (by decide) (by decide) [7, 8, 0, 1, 2, 3, 4, 5, 6] (by decide) rfl (va_runV (As := [.int (nI k), .int 0]) (rest := []) ⟨hx, hb, hml, hown, hts⟩ (k_fail0 l D cI cJ cZ s.heap.size h hB q1 q2 q3 q4 q5 q6 q7 q8 q9 q10 q11 q12 q13 oc k hk) (cwV 2 hts gX3_pay_X3_failUnless rfl rfl rfl (by decide +kernel) ⟨Nat.le_of_ble_eq_true rfl, Nat.le_of_ble_eq_true rfl⟩) ⟨bl_rw, va_recv hK (hP.sub (ws' := [(h, .inr (3, [.ref hB, .ref q1, .ref q2, .ref q3, .ref q4, .ref q5, .ref q6, .ref q7, .ref q8, .ref q9, .ref q10, .ref q11, .ref q12, .ref q13])), (q9, .inl (cI, 40, .inl oc))]) [0, 1] rfl) (ci := 3) (q0 := 0) rfl rfl, fun U hU hW => ⟨rfl, by rw [hU], by rw [hU]; exact (hP.sub (ws' := [(h, .inr (3, [.ref hB, .ref q1, .ref q2, .ref q3, .ref q4, .ref q5, .ref q6, .ref q7, .ref q8, .ref q9, .ref q10, .ref q11, .ref q12, .ref q13])), (q9, .inl (cI, 40, .inl oc))]) [0, 1] rfl), hE.warm2 hW, (hD.sub (ws' := [(h, .inr (3, [.ref hB, .ref q1, .ref q2, .ref q3, .ref q4, .ref q5, .ref q6, .ref q7, .ref q8, .ref q9, .ref q10, .ref q11, .ref q12, .ref q13])), (q9, .inl (cI, 40, .inl oc))]) [0, 1] (by decide) rfl).weaken (fun _ _ _ _ => trivial)⟩⟩ rfl rfl hl.1 rfl (lv_room (Nat.le_of_ble_eq_true rfl)) dX3_pay_21 ⟨Nat.zero_le _, Nat.zero_le _⟩) (fun H locs hP hD hS => ?_)
      refine lv_aload_n hx hb dX3_pay_24 rfl (lv_at hl 0 rfl) ?_
      refine va_get (D := D) (ci := 3) (v := .ref q9) (C := RX3) (T := TX3) (N := 14) hx hb hts hinX3 hown hK hP 0 rfl rfl 9 (by decide) (hts (.fieldLink RX3 38 "LedgerShares$Sheet" "outcomes" "[I") (List.mem_of_getElem? (i := 1) rfl)) (fun _ h9 => h9) rfl dX3_pay_25 ?_
      refine lv_iload_n hx hb dX3_pay_28 rfl (lv_at hl 1 rfl) ?_
      refine x_iald hx hb hE hP 1 rfl (k) hk (by decide) (rfl) dX3_pay_29 ?_
      refine x_topi (y := 2) (upd_s _ _ _) ?_
      refine lv_iconst (v := 1) hx hb dX3_pay_30 (by decide) ?_
      refine lv_icmp_ne (tgt := 74) hx hb dX3_pay_31 (by decide) (fun c31 => ?_) (fun c31 => absurd c31 (by decide))
      exact W.vret hx hb hr (fun t ht hW => ⟨⟨(), rfl, trivial, by rw [ht]; simp only [if_pos (show x < z ∨ z < 0 from Or.inr c13), if_pos (show (x < z ∨ z < 0) ∨ ak k = bk k from Or.inl (Or.inr c13))]; exact hP, by simp only [if_pos (show x < z ∨ z < 0 from Or.inr c13), if_pos (show (x < z ∨ z < 0) ∨ ak k = bk k from Or.inl (Or.inr c13))]; exact hD⟩, hS.F ht⟩) hS.2.2 dX3_pay_74
    · have c13 := mt (lg_cmp_lt _ _).mpr c13
      refine lv_iconst (v := 1) hx hb dX3_pay_16 (by decide) ?_
      refine lv_goto (tgt := 21) hx hb dX3_pay_17 (by decide) ?_
      refine x_callv (wc := [(h, .inr (3, [.ref hB, .ref q1, .ref q2, .ref q3, .ref q4, .ref q5, .ref q6, .ref q7, .ref q8, .ref q9, .ref q10, .ref q11, .ref q12, .ref q13])), (q9, .inl (cI, 40, .inl oc))]) (wc' := [(h, .inr (3, [.ref hB, .ref q1, .ref q2, .ref q3, .ref q4, .ref q5, .ref q6, .ref q7, .ref q8, .ref q9, .ref q10, .ref q11, .ref q12, .ref q13])), (q9, .inl (cI, 40, .inl oc))]) (wr := [(q5, .inl (cZ, 40, .inl ca)), (q6, .inl (cZ, 40, .inl cb)), (q7, .inl (cJ, 40, .inr (.inl ga))), (q8, .inl (cJ, 40, .inr (.inl gb))), (hB, .inr (0, [.int bz, .ref b1, .ref b2, .ref b3, .ref b4, .ref b5, .ref b6])), (b2, .inl (cI, 40, .inl ak)), (b3, .inl (cI, 40, .inl bk))]) (ws' := [(h, .inr (3, [.ref hB, .ref q1, .ref q2, .ref q3, .ref q4, .ref q5, .ref q6, .ref q7, .ref q8, .ref q9, .ref q10, .ref q11, .ref q12, .ref q13])), (q9, .inl (cI, 40, .inl oc)), (q5, .inl (cZ, 40, .inl ca)), (q6, .inl (cZ, 40, .inl cb)), (q7, .inl (cJ, 40, .inr (.inl ga))), (q8, .inl (cJ, 40, .inr (.inl gb))), (hB, .inr (0, [.int bz, .ref b1, .ref b2, .ref b3, .ref b4, .ref b5, .ref b6])), (b2, .inl (cI, 40, .inl ak)), (b3, .inl (cI, 40, .inl bk))]) hP hD hS hA [0, 1] [2, 3, 4, 5, 6, 7, 8] rfl rfl (by decide) (by decide) [7, 8, 0, 1, 2, 3, 4, 5, 6] (by decide) rfl (va_runV (As := [.int (nI k), .int 1]) (rest := []) ⟨hx, hb, hml, hown, hts⟩ (k_fail1 l D cI cJ cZ s.heap.size h hB q1 q2 q3 q4 q5 q6 q7 q8 q9 q10 q11 q12 q13 oc k hk) (cwV 2 hts gX3_pay_X3_failUnless rfl rfl rfl (by decide +kernel) ⟨Nat.le_of_ble_eq_true rfl, Nat.le_of_ble_eq_true rfl⟩) ⟨bl_rw, va_recv hK (hP.sub (ws' := [(h, .inr (3, [.ref hB, .ref q1, .ref q2, .ref q3, .ref q4, .ref q5, .ref q6, .ref q7, .ref q8, .ref q9, .ref q10, .ref q11, .ref q12, .ref q13])), (q9, .inl (cI, 40, .inl oc))]) [0, 1] rfl) (ci := 3) (q0 := 0) rfl rfl, fun U hU hW => ⟨rfl, by rw [hU], by rw [hU]; exact (hP.sub (ws' := [(h, .inr (3, [.ref hB, .ref q1, .ref q2, .ref q3, .ref q4, .ref q5, .ref q6, .ref q7, .ref q8, .ref q9, .ref q10, .ref q11, .ref q12, .ref q13])), (q9, .inl (cI, 40, .inl oc))]) [0, 1] rfl), hE.warm2 hW, (hD.sub (ws' := [(h, .inr (3, [.ref hB, .ref q1, .ref q2, .ref q3, .ref q4, .ref q5, .ref q6, .ref q7, .ref q8, .ref q9, .ref q10, .ref q11, .ref q12, .ref q13])), (q9, .inl (cI, 40, .inl oc))]) [0, 1] (by decide) rfl).weaken (fun _ _ _ _ => trivial)⟩⟩ rfl rfl hl.1 rfl (lv_room (Nat.le_of_ble_eq_true rfl)) dX3_pay_21 ⟨Nat.zero_le _, Nat.zero_le _⟩) (fun H locs hP hD hS => ?_)
      refine lv_aload_n hx hb dX3_pay_24 rfl (lv_at hl 0 rfl) ?_
      refine va_get (D := D) (ci := 3) (v := .ref q9) (C := RX3) (T := TX3) (N := 14) hx hb hts hinX3 hown hK hP 0 rfl rfl 9 (by decide) (hts (.fieldLink RX3 38 "LedgerShares$Sheet" "outcomes" "[I") (List.mem_of_getElem? (i := 1) rfl)) (fun _ h9 => h9) rfl dX3_pay_25 ?_
      refine lv_iload_n hx hb dX3_pay_28 rfl (lv_at hl 1 rfl) ?_
      refine x_iald hx hb hE hP 1 rfl (k) hk (by decide) (rfl) dX3_pay_29 ?_
      refine x_topi (y := 1) (ho) ?_
      refine lv_iconst (v := 1) hx hb dX3_pay_30 (by decide) ?_
      refine lv_icmp_ne (tgt := 74) hx hb dX3_pay_31 (by decide) (fun c31 => absurd (by decide) c31) (fun c31 => ?_)
      refine lv_aload_n hx hb dX3_pay_34 rfl (lv_at hl 0 rfl) ?_
      refine va_get (D := D) (ci := 3) (v := .ref hB) (C := RX3) (T := TX3) (N := 14) hx hb hts hinX3 hown hK hP 0 rfl rfl 0 (by decide) (hts (.fieldLink RX3 53 "LedgerShares$Sheet" "book" "LLedgerShares$Book;") (List.mem_of_getElem? (i := 2) rfl)) (fun _ h9 => h9) rfl dX3_pay_35 ?_
      refine va_get (D := D) (ci := 0) (v := .ref b2) (C := RX0) (T := TX0) (N := 7) hx hb hts hinX0 hown hK hP 6 rfl rfl 2 (by decide) (hts (.fieldLink RX3 67 "LedgerShares$Book" "as" "[I") (List.mem_of_getElem? (i := 3) rfl)) (fun _ h9 => h9) rfl dX3_pay_38 ?_
      refine lv_iload_n hx hb dX3_pay_41 rfl (lv_at hl 1 rfl) ?_
      refine x_iald hx hb hE hP 7 rfl (k) hk (by decide) (rfl) dX3_pay_42 ?_
      refine lv_aload_n hx hb dX3_pay_43 rfl (lv_at hl 0 rfl) ?_
      refine va_get (D := D) (ci := 3) (v := .ref hB) (C := RX3) (T := TX3) (N := 14) hx hb hts hinX3 hown hK hP 0 rfl rfl 0 (by decide) (hts (.fieldLink RX3 53 "LedgerShares$Sheet" "book" "LLedgerShares$Book;") (List.mem_of_getElem? (i := 2) rfl)) (fun _ h9 => h9) rfl dX3_pay_44 ?_
      refine va_get (D := D) (ci := 0) (v := .ref b3) (C := RX0) (T := TX0) (N := 7) hx hb hts hinX0 hown hK hP 6 rfl rfl 3 (by decide) (hts (.fieldLink RX3 72 "LedgerShares$Book" "bs" "[I") (List.mem_of_getElem? (i := 4) rfl)) (fun _ h9 => h9) rfl dX3_pay_47 ?_
      refine lv_iload_n hx hb dX3_pay_50 rfl (lv_at hl 1 rfl) ?_
      refine x_iald hx hb hE hP 8 rfl (k) hk (by decide) (rfl) dX3_pay_51 ?_
      refine lv_icmp_eq (tgt := 74) hx hb dX3_pay_52 (by decide) (fun c52 => ?_) (fun c52 => ?_)
      · exact W.vret hx hb hr (fun t ht hW => ⟨⟨(), rfl, trivial, by rw [ht]; simp only [if_neg (show ¬ (x < z ∨ z < 0) from fun z9 => z9.elim c6 c13), if_pos (show (x < z ∨ z < 0) ∨ ak k = bk k from Or.inr c52)]; exact hP, by simp only [if_neg (show ¬ (x < z ∨ z < 0) from fun z9 => z9.elim c6 c13), if_pos (show (x < z ∨ z < 0) ∨ ak k = bk k from Or.inr c52)]; exact hD⟩, hS.F ht⟩) hS.2.2 dX3_pay_74
      · refine lv_aload_n hx hb dX3_pay_55 rfl (lv_at hl 0 rfl) ?_
        refine lv_iload_n hx hb dX3_pay_56 rfl (lv_at hl 1 rfl) ?_
        refine lv_lload_n hx hb dX3_pay_57 rfl (lv_at hl 2 rfl) ?_
        refine lv_lload hx hb dX3_pay_58 (lv_at hl 4 rfl) ?_
        refine lv_lsub hx hb dX3_pay_60 ?_
        refine x_callv (wc := [(h, .inr (3, [.ref hB, .ref q1, .ref q2, .ref q3, .ref q4, .ref q5, .ref q6, .ref q7, .ref q8, .ref q9, .ref q10, .ref q11, .ref q12, .ref q13])), (q5, .inl (cZ, 40, .inl ca)), (q7, .inl (cJ, 40, .inr (.inl ga)))]) (wc' := [(h, .inr (3, [.ref hB, .ref q1, .ref q2, .ref q3, .ref q4, .ref q5, .ref q6, .ref q7, .ref q8, .ref q9, .ref q10, .ref q11, .ref q12, .ref q13])), (q5, .inl (cZ, 40, .inl (upd ca k 1))), (q7, .inl (cJ, 40, .inr (.inl (vp_updL ga k (x - z)))))]) (wr := [(q9, .inl (cI, 40, .inl oc)), (q6, .inl (cZ, 40, .inl cb)), (q8, .inl (cJ, 40, .inr (.inl gb))), (hB, .inr (0, [.int bz, .ref b1, .ref b2, .ref b3, .ref b4, .ref b5, .ref b6])), (b2, .inl (cI, 40, .inl ak)), (b3, .inl (cI, 40, .inl bk))]) (ws' := [(h, .inr (3, [.ref hB, .ref q1, .ref q2, .ref q3, .ref q4, .ref q5, .ref q6, .ref q7, .ref q8, .ref q9, .ref q10, .ref q11, .ref q12, .ref q13])), (q9, .inl (cI, 40, .inl oc)), (q5, .inl (cZ, 40, .inl (upd ca k 1))), (q6, .inl (cZ, 40, .inl cb)), (q7, .inl (cJ, 40, .inr (.inl (vp_updL ga k (x - z))))), (q8, .inl (cJ, 40, .inr (.inl gb))), (hB, .inr (0, [.int bz, .ref b1, .ref b2, .ref b3, .ref b4, .ref b5, .ref b6])), (b2, .inl (cI, 40, .inl ak)), (b3, .inl (cI, 40, .inl bk))]) hP hD hS hA [0, 2, 4] [1, 3, 5, 6, 7, 8] rfl rfl (by decide) (by decide) [6, 0, 7, 1, 8, 2, 3, 4, 5] (by decide) rfl (va_runV (As := [.int (nI k), .long (x - z)]) (rest := []) ⟨hx, hb, hml, hown, hts⟩ (k_giveA l D cI cJ cZ H.size h hB q1 q2 q3 q4 q5 q6 q7 q8 q9 q10 q11 q12 q13 ca ga k hk (x - z)) (cwV 2 hts gX3_pay_X3_giveA rfl rfl rfl (by decide +kernel) ⟨Nat.le_of_ble_eq_true rfl, Nat.le_of_ble_eq_true rfl⟩) ⟨bl_rw, va_recv hK (hP.sub (ws' := [(h, .inr (3, [.ref hB, .ref q1, .ref q2, .ref q3, .ref q4, .ref q5, .ref q6, .ref q7, .ref q8, .ref q9, .ref q10, .ref q11, .ref q12, .ref q13])), (q5, .inl (cZ, 40, .inl ca)), (q7, .inl (cJ, 40, .inr (.inl ga)))]) [0, 2, 4] rfl) (ci := 3) (q0 := 0) rfl rfl, fun U hU hW => ⟨rfl, by rw [hU], by rw [hU]; exact (hP.sub (ws' := [(h, .inr (3, [.ref hB, .ref q1, .ref q2, .ref q3, .ref q4, .ref q5, .ref q6, .ref q7, .ref q8, .ref q9, .ref q10, .ref q11, .ref q12, .ref q13])), (q5, .inl (cZ, 40, .inl ca)), (q7, .inl (cJ, 40, .inr (.inl ga)))]) [0, 2, 4] rfl), hE.warm2 hW, (hD.sub (ws' := [(h, .inr (3, [.ref hB, .ref q1, .ref q2, .ref q3, .ref q4, .ref q5, .ref q6, .ref q7, .ref q8, .ref q9, .ref q10, .ref q11, .ref q12, .ref q13])), (q5, .inl (cZ, 40, .inl ca)), (q7, .inl (cJ, 40, .inr (.inl ga)))]) [0, 2, 4] (by decide) rfl).weaken (fun _ _ _ _ => trivial)⟩⟩ rfl rfl hl.1 rfl (lv_room (Nat.le_of_ble_eq_true rfl)) dX3_pay_61 ⟨Nat.zero_le _, Nat.zero_le _⟩) (fun H locs hP hD hS => ?_)
        refine lv_aload_n hx hb dX3_pay_64 rfl (lv_at hl 0 rfl) ?_
        refine lv_iload_n hx hb dX3_pay_65 rfl (lv_at hl 1 rfl) ?_
        refine lv_lload hx hb dX3_pay_66 (lv_at hl 3 rfl) ?_
        refine lv_lload hx hb dX3_pay_68 (lv_at hl 4 rfl) ?_
        refine lv_ladd hx hb dX3_pay_70 ?_
        refine x_callv (wc := [(h, .inr (3, [.ref hB, .ref q1, .ref q2, .ref q3, .ref q4, .ref q5, .ref q6, .ref q7, .ref q8, .ref q9, .ref q10, .ref q11, .ref q12, .ref q13])), (q6, .inl (cZ, 40, .inl cb)), (q8, .inl (cJ, 40, .inr (.inl gb)))]) (wc' := [(h, .inr (3, [.ref hB, .ref q1, .ref q2, .ref q3, .ref q4, .ref q5, .ref q6, .ref q7, .ref q8, .ref q9, .ref q10, .ref q11, .ref q12, .ref q13])), (q6, .inl (cZ, 40, .inl (upd cb k 1))), (q8, .inl (cJ, 40, .inr (.inl (vp_updL gb k (y + z)))))]) (wr := [(q9, .inl (cI, 40, .inl oc)), (q5, .inl (cZ, 40, .inl (upd ca k 1))), (q7, .inl (cJ, 40, .inr (.inl (vp_updL ga k (x - z))))), (hB, .inr (0, [.int bz, .ref b1, .ref b2, .ref b3, .ref b4, .ref b5, .ref b6])), (b2, .inl (cI, 40, .inl ak)), (b3, .inl (cI, 40, .inl bk))]) (ws' := [(h, .inr (3, [.ref hB, .ref q1, .ref q2, .ref q3, .ref q4, .ref q5, .ref q6, .ref q7, .ref q8, .ref q9, .ref q10, .ref q11, .ref q12, .ref q13])), (q9, .inl (cI, 40, .inl oc)), (q5, .inl (cZ, 40, .inl (upd ca k 1))), (q6, .inl (cZ, 40, .inl (upd cb k 1))), (q7, .inl (cJ, 40, .inr (.inl (vp_updL ga k (x - z))))), (q8, .inl (cJ, 40, .inr (.inl (vp_updL gb k (y + z))))), (hB, .inr (0, [.int bz, .ref b1, .ref b2, .ref b3, .ref b4, .ref b5, .ref b6])), (b2, .inl (cI, 40, .inl ak)), (b3, .inl (cI, 40, .inl bk))]) hP hD hS hA [0, 3, 5] [1, 2, 4, 6, 7, 8] rfl rfl (by decide) (by decide) [6, 0, 1, 7, 2, 8, 3, 4, 5] (by decide) rfl (va_runV (As := [.int (nI k), .long (y + z)]) (rest := []) ⟨hx, hb, hml, hown, hts⟩ (k_giveB l D cI cJ cZ H.size h hB q1 q2 q3 q4 q5 q6 q7 q8 q9 q10 q11 q12 q13 cb gb k hk (y + z)) (cwV 2 hts gX3_pay_X3_giveB rfl rfl rfl (by decide +kernel) ⟨Nat.le_of_ble_eq_true rfl, Nat.le_of_ble_eq_true rfl⟩) ⟨bl_rw, va_recv hK (hP.sub (ws' := [(h, .inr (3, [.ref hB, .ref q1, .ref q2, .ref q3, .ref q4, .ref q5, .ref q6, .ref q7, .ref q8, .ref q9, .ref q10, .ref q11, .ref q12, .ref q13])), (q6, .inl (cZ, 40, .inl cb)), (q8, .inl (cJ, 40, .inr (.inl gb)))]) [0, 3, 5] rfl) (ci := 3) (q0 := 0) rfl rfl, fun U hU hW => ⟨rfl, by rw [hU], by rw [hU]; exact (hP.sub (ws' := [(h, .inr (3, [.ref hB, .ref q1, .ref q2, .ref q3, .ref q4, .ref q5, .ref q6, .ref q7, .ref q8, .ref q9, .ref q10, .ref q11, .ref q12, .ref q13])), (q6, .inl (cZ, 40, .inl cb)), (q8, .inl (cJ, 40, .inr (.inl gb)))]) [0, 3, 5] rfl), hE.warm2 hW, (hD.sub (ws' := [(h, .inr (3, [.ref hB, .ref q1, .ref q2, .ref q3, .ref q4, .ref q5, .ref q6, .ref q7, .ref q8, .ref q9, .ref q10, .ref q11, .ref q12, .ref q13])), (q6, .inl (cZ, 40, .inl cb)), (q8, .inl (cJ, 40, .inr (.inl gb)))]) [0, 3, 5] (by decide) rfl).weaken (fun _ _ _ _ => trivial)⟩⟩ rfl rfl hl.1 rfl (lv_room (Nat.le_of_ble_eq_true rfl)) dX3_pay_71 ⟨Nat.zero_le _, Nat.zero_le _⟩) (fun H locs hP hD hS => ?_)
        exact W.vret hx hb hr (fun t ht hW => ⟨⟨(), rfl, trivial, by rw [ht]; simp only [if_neg (show ¬ (x < z ∨ z < 0) from fun z9 => z9.elim c6 c13), if_neg (show ¬ ((x < z ∨ z < 0) ∨ ak k = bk k) from fun z9 => z9.elim (fun z8 => z8.elim c6 c13) c52)]; exact hP, by simp only [if_neg (show ¬ (x < z ∨ z < 0) from fun z9 => z9.elim c6 c13), if_neg (show ¬ ((x < z ∨ z < 0) ∨ ak k = bk k) from fun z9 => z9.elim (fun z8 => z8.elim c6 c13) c52)]; exact hD⟩, hS.F ht⟩) hS.2.2 dX3_pay_74
set_option maxHeartbeats 4000000 in
set_option maxRecDepth 100000 in
theorem k_work (l : Launch) (D : va_G) (cI cJ cZ : ClassId) (sz : Nat) (h hB q1 q2 q3 q4 q5 q6 q7 q8 q9 q10 q11 q12 q13 : Nat) (oc ca cb : Nat → Int32) (ra rb ga gb : Nat → Int64) (b1 b2 b3 b4 b5 b6 : Nat) (bz : Int32) (ok ak bk ck : Nat → Int32) (k : Nat) (hk : k < 40) : Met l yX3_work wsX3_work ({ frames := 2, cells := 0, slots := 0, locals := 50 }) (PcRW [.ref h, .int (nI k)] sz D cI cJ cZ [(h, .inr (3, [.ref hB, .ref q1, .ref q2, .ref q3, .ref q4, .ref q5, .ref q6, .ref q7, .ref q8, .ref q9, .ref q10, .ref q11, .ref q12, .ref q13])), (q3, .inl (cJ, 40, .inr (.inl ra))), (q4, .inl (cJ, 40, .inr (.inl rb))), (q9, .inl (cI, 40, .inl oc)), (q5, .inl (cZ, 40, .inl ca)), (q6, .inl (cZ, 40, .inl cb)), (q7, .inl (cJ, 40, .inr (.inl ga))), (q8, .inl (cJ, 40, .inr (.inl gb))), (hB, .inr (0, [.int bz, .ref b1, .ref b2, .ref b3, .ref b4, .ref b5, .ref b6])), (b1, .inl (cI, 40, .inl ok)), (b2, .inl (cI, 40, .inl ak)), (b3, .inl (cI, 40, .inl bk)), (b4, .inl (cI, 40, .inl ck))]) (QcV D (va_A [(h, .inr (3, [.ref hB, .ref q1, .ref q2, .ref q3, .ref q4, .ref q5, .ref q6, .ref q7, .ref q8, .ref q9, .ref q10, .ref q11, .ref q12, .ref q13])), (q3, .inl (cJ, 40, .inr (.inl ra))), (q4, .inl (cJ, 40, .inr (.inl rb))), (q9, .inl (cI, 40, .inl oc)), (q5, .inl (cZ, 40, .inl ca)), (q6, .inl (cZ, 40, .inl cb)), (q7, .inl (cJ, 40, .inr (.inl ga))), (q8, .inl (cJ, 40, .inr (.inl gb))), (hB, .inr (0, [.int bz, .ref b1, .ref b2, .ref b3, .ref b4, .ref b5, .ref b6])), (b1, .inl (cI, 40, .inl ok)), (b2, .inl (cI, 40, .inl ak)), (b3, .inl (cI, 40, .inl bk)), (b4, .inl (cI, 40, .inl ck))] sz) [(h, .inr (3, [.ref hB, .ref q1, .ref q2, .ref q3, .ref q4, .ref q5, .ref q6, .ref q7, .ref q8, .ref q9, .ref q10, .ref q11, .ref q12, .ref q13])), (q3, .inl (cJ, 40, .inr (.inl ra))), (q4, .inl (cJ, 40, .inr (.inl rb))), (q9, .inl (cI, 40, .inl (upd oc k (wOut (ok k) (ra k) (rb k) (Int32.toInt64 (ck k)))))), (q5, .inl (cZ, 40, .inl (upd ca k (wChA (ok k) (ak k) (bk k) (ra k) (Int32.toInt64 (ck k)))))), (q6, .inl (cZ, 40, .inl (upd cb k (wChB (ok k) (ak k) (bk k) (ra k) (rb k) (Int32.toInt64 (ck k)))))), (q7, .inl (cJ, 40, .inr (.inl (if wChA (ok k) (ak k) (bk k) (ra k) (Int32.toInt64 (ck k)) = 1 then vp_updL ga k (wGA (ok k) (ra k) (rb k) (Int32.toInt64 (ck k))) else ga)))), (q8, .inl (cJ, 40, .inr (.inl (if wChB (ok k) (ak k) (bk k) (ra k) (rb k) (Int32.toInt64 (ck k)) = 1 then vp_updL gb k (wGB (ok k) (ra k) (rb k) (Int32.toInt64 (ck k))) else gb)))), (hB, .inr (0, [.int bz, .ref b1, .ref b2, .ref b3, .ref b4, .ref b5, .ref b6])), (b1, .inl (cI, 40, .inl ok)), (b2, .inl (cI, 40, .inl ak)), (b3, .inl (cI, 40, .inl bk)), (b4, .inl (cI, 40, .inl ck))]) 0 0 (va_A [(h, .inr (3, [.ref hB, .ref q1, .ref q2, .ref q3, .ref q4, .ref q5, .ref q6, .ref q7, .ref q8, .ref q9, .ref q10, .ref q11, .ref q12, .ref q13])), (q3, .inl (cJ, 40, .inr (.inl ra))), (q4, .inl (cJ, 40, .inr (.inl rb))), (q9, .inl (cI, 40, .inl oc)), (q5, .inl (cZ, 40, .inl ca)), (q6, .inl (cZ, 40, .inl cb)), (q7, .inl (cJ, 40, .inr (.inl ga))), (q8, .inl (cJ, 40, .inr (.inl gb))), (hB, .inr (0, [.int bz, .ref b1, .ref b2, .ref b3, .ref b4, .ref b5, .ref b6])), (b1, .inl (cI, 40, .inl ok)), (b2, .inl (cI, 40, .inl ak)), (b3, .inl (cI, 40, .inl bk)), (b4, .inl (cI, 40, .inl ck))] sz) := by
  refine Met.ofW (cc := cX3_work) (maxL := 8) (ret := none) (by decide) rfl ?_
  intro p e s m args below meth c s₁ B hml hv
  obtain ⟨rfl, hsz, hP, hE, hD0⟩ := hv
  have hx := B.exec
  have hb := B.bytes
  have hr := B.returns
  have hts := atoms_spec (ws := wsX3_work) B.pre
  have hown : s.vm.findClass RX3 = some m.cls := findClass_of_methodNamed B.named
  have hlocks := B.notSynchronized
  have hK := hE.1
  subst hsz
  have hD := hD0.self (sz := s.heap.size)
  generalize hAe : va_A [(h, .inr (3, [.ref hB, .ref q1, .ref q2, .ref q3, .ref q4, .ref q5, .ref q6, .ref q7, .ref q8, .ref q9, .ref q10, .ref q11, .ref q12, .ref q13])), (q3, .inl (cJ, 40, .inr (.inl ra))), (q4, .inl (cJ, 40, .inr (.inl rb))), (q9, .inl (cI, 40, .inl oc)), (q5, .inl (cZ, 40, .inl ca)), (q6, .inl (cZ, 40, .inl cb)), (q7, .inl (cJ, 40, .inr (.inl ga))), (q8, .inl (cJ, 40, .inr (.inl gb))), (hB, .inr (0, [.int bz, .ref b1, .ref b2, .ref b3, .ref b4, .ref b5, .ref b6])), (b1, .inl (cI, 40, .inl ok)), (b2, .inl (cI, 40, .inl ak)), (b3, .inl (cI, 40, .inl bk)), (b4, .inl (cI, 40, .inl ck))] s.heap.size = A at hD ⊢
  have hA : ∀ q : Nat, s.heap.size ≤ q → A q := fun q h => by rw [← hAe]; exact Or.inr h
  have hS : va_S A s.heap s.heap [] := va_S.rf
  have hl := lv_entry ([.ref h, .int (nI k)]) (n := 8) (Nat.le_of_ble_eq_true rfl)
  rw [lg_entry_eq]
  generalize (lg_sl ([.ref h, .int (nI k)]) ++ List.replicate (8 - (lg_sl ([.ref h, .int (nI k)])).length) Slot.unset).toArray = ls at hl ⊢
  have hl : lv_has ls 8 [(0, .ref h), (1, .int (nI k))] := hl
  have hinX0 : ∀ w ∈ u_ws RX0 TX0 7, w ∈ wsX3_work := fun _ h => List.mem_cons_of_mem _ (List.mem_append_right _ h)
  have hinX3 : ∀ w ∈ u_ws RX3 TX3 14, w ∈ wsX3_work := fun _ h => List.mem_cons_of_mem _ (List.mem_append_left _ (List.mem_append_right _ h))
  refine lv_aload_n hx hb dX3_work_0 rfl (lv_at hl 0 rfl) ?_
  refine va_get (D := D) (ci := 3) (v := .ref q3) (C := RX3) (T := TX3) (N := 14) hx hb hts hinX3 hown hK hP 0 rfl rfl 3 (by decide) (hts (.fieldLink RX3 18 "LedgerShares$Sheet" "readA" "[J") (List.mem_of_getElem? (i := 1) rfl)) (fun _ h9 => h9) rfl dX3_work_1 ?_
  refine lv_iload_n hx hb dX3_work_4 rfl (lv_at hl 1 rfl) ?_
  refine x_lald hx hb hE hP 1 rfl (k) hk (by decide) (rfl) dX3_work_5 ?_
  refine lv_lstore_n (lv' := [(2, .long (ra k)), (0, .ref h), (1, .int (nI k))]) hx hb dX3_work_6 rfl hl (by decide) rfl (fun ls hl => ?_)
  refine lv_aload_n hx hb dX3_work_7 rfl (lv_at hl 1 rfl) ?_
  refine va_get (D := D) (ci := 3) (v := .ref q4) (C := RX3) (T := TX3) (N := 14) hx hb hts hinX3 hown hK hP 0 rfl rfl 4 (by decide) (hts (.fieldLink RX3 22 "LedgerShares$Sheet" "readB" "[J") (List.mem_of_getElem? (i := 2) rfl)) (fun _ h9 => h9) rfl dX3_work_8 ?_
  refine lv_iload_n hx hb dX3_work_11 rfl (lv_at hl 2 rfl) ?_
  refine x_lald hx hb hE hP 2 rfl (k) hk (by decide) (rfl) dX3_work_12 ?_
  refine lv_lstore (lv' := [(4, .long (rb k)), (2, .long (ra k)), (0, .ref h), (1, .int (nI k))]) hx hb dX3_work_13 hl (by decide) rfl (fun ls hl => ?_)
  refine lv_aload_n hx hb dX3_work_15 rfl (lv_at hl 2 rfl) ?_
  refine va_get (D := D) (ci := 3) (v := .ref hB) (C := RX3) (T := TX3) (N := 14) hx hb hts hinX3 hown hK hP 0 rfl rfl 0 (by decide) (hts (.fieldLink RX3 53 "LedgerShares$Sheet" "book" "LLedgerShares$Book;") (List.mem_of_getElem? (i := 3) rfl)) (fun _ h9 => h9) rfl dX3_work_16 ?_
  refine va_get (D := D) (ci := 0) (v := .ref b4) (C := RX0) (T := TX0) (N := 7) hx hb hts hinX0 hown hK hP 8 rfl rfl 4 (by decide) (hts (.fieldLink RX3 93 "LedgerShares$Book" "cs" "[I") (List.mem_of_getElem? (i := 4) rfl)) (fun _ h9 => h9) rfl dX3_work_19 ?_
  refine lv_iload_n hx hb dX3_work_22 rfl (lv_at hl 3 rfl) ?_
  refine x_iald hx hb hE hP 12 rfl (k) hk (by decide) (rfl) dX3_work_23 ?_
  refine lv_i2l (v := Int32.toInt64 (ck k)) hx hb dX3_work_24 rfl ?_
  refine lv_lstore (lv' := [(6, .long (Int32.toInt64 (ck k))), (4, .long (rb k)), (2, .long (ra k)), (0, .ref h), (1, .int (nI k))]) hx hb dX3_work_25 hl (by decide) rfl (fun ls hl => ?_)
  refine lv_aload_n hx hb dX3_work_27 rfl (lv_at hl 3 rfl) ?_
  refine va_get (D := D) (ci := 3) (v := .ref q9) (C := RX3) (T := TX3) (N := 14) hx hb hts hinX3 hown hK hP 0 rfl rfl 9 (by decide) (hts (.fieldLink RX3 38 "LedgerShares$Sheet" "outcomes" "[I") (List.mem_of_getElem? (i := 5) rfl)) (fun _ h9 => h9) rfl dX3_work_28 ?_
  refine lv_iload_n hx hb dX3_work_31 rfl (lv_at hl 4 rfl) ?_
  refine lv_iconst (v := 1) hx hb dX3_work_32 (by decide) ?_
  refine x_iast hx hb hE hP hD hS 3 rfl (k) hk (by decide) (rfl) (ws' := [(h, .inr (3, [.ref hB, .ref q1, .ref q2, .ref q3, .ref q4, .ref q5, .ref q6, .ref q7, .ref q8, .ref q9, .ref q10, .ref q11, .ref q12, .ref q13])), (q3, .inl (cJ, 40, .inr (.inl ra))), (q4, .inl (cJ, 40, .inr (.inl rb))), (q9, .inl (cI, 40, .inl (upd oc k 1))), (q5, .inl (cZ, 40, .inl ca)), (q6, .inl (cZ, 40, .inl cb)), (q7, .inl (cJ, 40, .inr (.inl ga))), (q8, .inl (cJ, 40, .inr (.inl gb))), (hB, .inr (0, [.int bz, .ref b1, .ref b2, .ref b3, .ref b4, .ref b5, .ref b6])), (b1, .inl (cI, 40, .inl ok)), (b2, .inl (cI, 40, .inl ak)), (b3, .inl (cI, 40, .inl bk)), (b4, .inl (cI, 40, .inl ck))]) (rfl) dX3_work_33 (fun H locs hP hD hS => ?_)
  refine lv_aload_n hx hb dX3_work_34 rfl (lv_at hl 3 rfl) ?_
  refine va_get (D := D) (ci := 3) (v := .ref q5) (C := RX3) (T := TX3) (N := 14) hx hb hts hinX3 hown hK hP 0 rfl rfl 5 (by decide) (hts (.fieldLink RX3 25 "LedgerShares$Sheet" "changesA" "[Z") (List.mem_of_getElem? (i := 6) rfl)) (fun _ h9 => h9) rfl dX3_work_35 ?_
  refine lv_iload_n hx hb dX3_work_38 rfl (lv_at hl 4 rfl) ?_
  refine lv_iconst (v := 0) hx hb dX3_work_39 (by decide) ?_
  refine x_zast hx hb hE hP hD hS 4 rfl (k) hk (by decide) (rfl) (by decide) (ws' := [(h, .inr (3, [.ref hB, .ref q1, .ref q2, .ref q3, .ref q4, .ref q5, .ref q6, .ref q7, .ref q8, .ref q9, .ref q10, .ref q11, .ref q12, .ref q13])), (q3, .inl (cJ, 40, .inr (.inl ra))), (q4, .inl (cJ, 40, .inr (.inl rb))), (q9, .inl (cI, 40, .inl (upd oc k 1))), (q5, .inl (cZ, 40, .inl (upd ca k 0))), (q6, .inl (cZ, 40, .inl cb)), (q7, .inl (cJ, 40, .inr (.inl ga))), (q8, .inl (cJ, 40, .inr (.inl gb))), (hB, .inr (0, [.int bz, .ref b1, .ref b2, .ref b3, .ref b4, .ref b5, .ref b6])), (b1, .inl (cI, 40, .inl ok)), (b2, .inl (cI, 40, .inl ak)), (b3, .inl (cI, 40, .inl bk)), (b4, .inl (cI, 40, .inl ck))]) (rfl) dX3_work_40 (fun H locs hP hD hS => ?_)
  refine lv_aload_n hx hb dX3_work_41 rfl (lv_at hl 3 rfl) ?_
  refine va_get (D := D) (ci := 3) (v := .ref q6) (C := RX3) (T := TX3) (N := 14) hx hb hts hinX3 hown hK hP 0 rfl rfl 6 (by decide) (hts (.fieldLink RX3 29 "LedgerShares$Sheet" "changesB" "[Z") (List.mem_of_getElem? (i := 7) rfl)) (fun _ h9 => h9) rfl dX3_work_42 ?_
  refine lv_iload_n hx hb dX3_work_45 rfl (lv_at hl 4 rfl) ?_
  refine lv_iconst (v := 0) hx hb dX3_work_46 (by decide) ?_
  refine x_zast hx hb hE hP hD hS 5 rfl (k) hk (by decide) (rfl) (by decide) (ws' := [(h, .inr (3, [.ref hB, .ref q1, .ref q2, .ref q3, .ref q4, .ref q5, .ref q6, .ref q7, .ref q8, .ref q9, .ref q10, .ref q11, .ref q12, .ref q13])), (q3, .inl (cJ, 40, .inr (.inl ra))), (q4, .inl (cJ, 40, .inr (.inl rb))), (q9, .inl (cI, 40, .inl (upd oc k 1))), (q5, .inl (cZ, 40, .inl (upd ca k 0))), (q6, .inl (cZ, 40, .inl (upd cb k 0))), (q7, .inl (cJ, 40, .inr (.inl ga))), (q8, .inl (cJ, 40, .inr (.inl gb))), (hB, .inr (0, [.int bz, .ref b1, .ref b2, .ref b3, .ref b4, .ref b5, .ref b6])), (b1, .inl (cI, 40, .inl ok)), (b2, .inl (cI, 40, .inl ak)), (b3, .inl (cI, 40, .inl bk)), (b4, .inl (cI, 40, .inl ck))]) (rfl) dX3_work_47 (fun H locs hP hD hS => ?_)
  refine lv_aload_n hx hb dX3_work_48 rfl (lv_at hl 3 rfl) ?_
  refine va_get (D := D) (ci := 3) (v := .ref hB) (C := RX3) (T := TX3) (N := 14) hx hb hts hinX3 hown hK hP 0 rfl rfl 0 (by decide) (hts (.fieldLink RX3 53 "LedgerShares$Sheet" "book" "LLedgerShares$Book;") (List.mem_of_getElem? (i := 3) rfl)) (fun _ h9 => h9) rfl dX3_work_49 ?_
  refine va_get (D := D) (ci := 0) (v := .ref b1) (C := RX0) (T := TX0) (N := 7) hx hb hts hinX0 hown hK hP 8 rfl rfl 1 (by decide) (hts (.fieldLink RX3 96 "LedgerShares$Book" "ops" "[I") (List.mem_of_getElem? (i := 8) rfl)) (fun _ h9 => h9) rfl dX3_work_52 ?_
  refine lv_iload_n hx hb dX3_work_55 rfl (lv_at hl 4 rfl) ?_
  refine x_iald hx hb hE hP 9 rfl (k) hk (by decide) (rfl) dX3_work_56 ?_
  rcases sw4 (ok k) with e57 | e57 | e57 | e57 | e57 | ⟨n0, n1, n2, n3, n4, n5⟩
  · refine lv_tableIn (off := 35) (tgt := 92) hx hb dX3_work_57 (by rw [e57]; decide) (by rw [e57]; decide) (by rw [e57]; rfl) (by decide) ?_
    refine lv_aload_n hx hb dX3_work_92 rfl (lv_at hl 3 rfl) ?_
    refine lv_iload_n hx hb dX3_work_93 rfl (lv_at hl 4 rfl) ?_
    refine lv_lload hx hb dX3_work_94 (lv_at hl 0 rfl) ?_
    refine x_callv (wc := [(h, .inr (3, [.ref hB, .ref q1, .ref q2, .ref q3, .ref q4, .ref q5, .ref q6, .ref q7, .ref q8, .ref q9, .ref q10, .ref q11, .ref q12, .ref q13])), (q6, .inl (cZ, 40, .inl (upd cb k 0))), (q8, .inl (cJ, 40, .inr (.inl gb)))]) (wc' := [(h, .inr (3, [.ref hB, .ref q1, .ref q2, .ref q3, .ref q4, .ref q5, .ref q6, .ref q7, .ref q8, .ref q9, .ref q10, .ref q11, .ref q12, .ref q13])), (q6, .inl (cZ, 40, .inl (upd (upd cb k 0) k 1))), (q8, .inl (cJ, 40, .inr (.inl (vp_updL gb k (Int32.toInt64 (ck k))))))]) (wr := [(q3, .inl (cJ, 40, .inr (.inl ra))), (q4, .inl (cJ, 40, .inr (.inl rb))), (q9, .inl (cI, 40, .inl (upd oc k 1))), (q5, .inl (cZ, 40, .inl (upd ca k 0))), (q7, .inl (cJ, 40, .inr (.inl ga))), (hB, .inr (0, [.int bz, .ref b1, .ref b2, .ref b3, .ref b4, .ref b5, .ref b6])), (b1, .inl (cI, 40, .inl ok)), (b2, .inl (cI, 40, .inl ak)), (b3, .inl (cI, 40, .inl bk)), (b4, .inl (cI, 40, .inl ck))]) (ws' := [(h, .inr (3, [.ref hB, .ref q1, .ref q2, .ref q3, .ref q4, .ref q5, .ref q6, .ref q7, .ref q8, .ref q9, .ref q10, .ref q11, .ref q12, .ref q13])), (q3, .inl (cJ, 40, .inr (.inl ra))), (q4, .inl (cJ, 40, .inr (.inl rb))), (q9, .inl (cI, 40, .inl (upd oc k 1))), (q5, .inl (cZ, 40, .inl (upd ca k 0))), (q6, .inl (cZ, 40, .inl (upd (upd cb k 0) k 1))), (q7, .inl (cJ, 40, .inr (.inl ga))), (q8, .inl (cJ, 40, .inr (.inl (vp_updL gb k (Int32.toInt64 (ck k)))))), (hB, .inr (0, [.int bz, .ref b1, .ref b2, .ref b3, .ref b4, .ref b5, .ref b6])), (b1, .inl (cI, 40, .inl ok)), (b2, .inl (cI, 40, .inl ak)), (b3, .inl (cI, 40, .inl bk)), (b4, .inl (cI, 40, .inl ck))]) hP hD hS hA [0, 5, 7] [1, 2, 3, 4, 6, 8, 9, 10, 11, 12] rfl rfl (by decide) (by decide) [10, 0, 1, 2, 3, 11, 4, 12, 5, 6, 7, 8, 9] (by decide) rfl (va_runV (As := [.int (nI k), .long (Int32.toInt64 (ck k))]) (rest := []) ⟨hx, hb, hml, hown, hts⟩ (k_giveB l D cI cJ cZ H.size h hB q1 q2 q3 q4 q5 q6 q7 q8 q9 q10 q11 q12 q13 (upd cb k 0) gb k hk (Int32.toInt64 (ck k))) (cwV 2 hts gX3_work_X3_giveB rfl rfl rfl (by decide +kernel) ⟨Nat.le_of_ble_eq_true rfl, Nat.le_of_ble_eq_true rfl⟩) ⟨bl_rw, va_recv hK (hP.sub (ws' := [(h, .inr (3, [.ref hB, .ref q1, .ref q2, .ref q3, .ref q4, .ref q5, .ref q6, .ref q7, .ref q8, .ref q9, .ref q10, .ref q11, .ref q12, .ref q13])), (q6, .inl (cZ, 40, .inl (upd cb k 0))), (q8, .inl (cJ, 40, .inr (.inl gb)))]) [0, 5, 7] rfl) (ci := 3) (q0 := 0) rfl rfl, fun U hU hW => ⟨rfl, by rw [hU], by rw [hU]; exact (hP.sub (ws' := [(h, .inr (3, [.ref hB, .ref q1, .ref q2, .ref q3, .ref q4, .ref q5, .ref q6, .ref q7, .ref q8, .ref q9, .ref q10, .ref q11, .ref q12, .ref q13])), (q6, .inl (cZ, 40, .inl (upd cb k 0))), (q8, .inl (cJ, 40, .inr (.inl gb)))]) [0, 5, 7] rfl), hE.warm2 hW, (hD.sub (ws' := [(h, .inr (3, [.ref hB, .ref q1, .ref q2, .ref q3, .ref q4, .ref q5, .ref q6, .ref q7, .ref q8, .ref q9, .ref q10, .ref q11, .ref q12, .ref q13])), (q6, .inl (cZ, 40, .inl (upd cb k 0))), (q8, .inl (cJ, 40, .inr (.inl gb)))]) [0, 5, 7] (by decide) rfl).weaken (fun _ _ _ _ => trivial)⟩⟩ rfl rfl hl.1 rfl (lv_room (Nat.le_of_ble_eq_true rfl)) dX3_work_96 ⟨Nat.zero_le _, Nat.zero_le _⟩) (fun H locs hP hD hS => ?_)
    refine lv_goto (tgt := 185) hx hb dX3_work_99 (by decide) ?_
    have w_outcomes : (upd oc k 1) = (upd oc k (wOut (ok k) (ra k) (rb k) (Int32.toInt64 (ck k)))) := by simp [wOut, wChA, wChB, wGA, wGB, upd_upd, updL_updL, e57]
    have w_changesA : (upd ca k 0) = (upd ca k (wChA (ok k) (ak k) (bk k) (ra k) (Int32.toInt64 (ck k)))) := by simp [wOut, wChA, wChB, wGA, wGB, upd_upd, updL_updL, e57]
    have w_changesB : (upd (upd cb k 0) k 1) = (upd cb k (wChB (ok k) (ak k) (bk k) (ra k) (rb k) (Int32.toInt64 (ck k)))) := by simp [wOut, wChA, wChB, wGA, wGB, upd_upd, updL_updL, e57]
    have w_givesA : ga = (if wChA (ok k) (ak k) (bk k) (ra k) (Int32.toInt64 (ck k)) = 1 then vp_updL ga k (wGA (ok k) (ra k) (rb k) (Int32.toInt64 (ck k))) else ga) := by simp [wOut, wChA, wChB, wGA, wGB, upd_upd, updL_updL, e57]
    have w_givesB : (vp_updL gb k (Int32.toInt64 (ck k))) = (if wChB (ok k) (ak k) (bk k) (ra k) (rb k) (Int32.toInt64 (ck k)) = 1 then vp_updL gb k (wGB (ok k) (ra k) (rb k) (Int32.toInt64 (ck k))) else gb) := by simp [wOut, wChA, wChB, wGA, wGB, upd_upd, updL_updL, e57]
    rw [w_outcomes, w_changesA, w_changesB, w_givesA, w_givesB] at hP hD
    exact W.vret hx hb hr (fun t ht hW => ⟨⟨(), rfl, trivial, by rw [ht]; exact hP, by exact hD⟩, hS.F ht⟩) hS.2.2 dX3_work_185
  · refine lv_tableIn (off := 45) (tgt := 102) hx hb dX3_work_57 (by rw [e57]; decide) (by rw [e57]; decide) (by rw [e57]; rfl) (by decide) ?_
    refine lv_aload_n hx hb dX3_work_102 rfl (lv_at hl 3 rfl) ?_
    refine lv_iload_n hx hb dX3_work_103 rfl (lv_at hl 4 rfl) ?_
    refine lv_lload hx hb dX3_work_104 (lv_at hl 1 rfl) ?_
    refine lv_lload_n hx hb dX3_work_106 rfl (lv_at hl 2 rfl) ?_
    refine lv_ladd hx hb dX3_work_107 ?_
    refine lv_lload hx hb dX3_work_108 (lv_at hl 0 rfl) ?_
    refine lv_ladd hx hb dX3_work_110 ?_
    refine x_callv (wc := [(h, .inr (3, [.ref hB, .ref q1, .ref q2, .ref q3, .ref q4, .ref q5, .ref q6, .ref q7, .ref q8, .ref q9, .ref q10, .ref q11, .ref q12, .ref q13])), (q6, .inl (cZ, 40, .inl (upd cb k 0))), (q8, .inl (cJ, 40, .inr (.inl gb)))]) (wc' := [(h, .inr (3, [.ref hB, .ref q1, .ref q2, .ref q3, .ref q4, .ref q5, .ref q6, .ref q7, .ref q8, .ref q9, .ref q10, .ref q11, .ref q12, .ref q13])), (q6, .inl (cZ, 40, .inl (upd (upd cb k 0) k 1))), (q8, .inl (cJ, 40, .inr (.inl (vp_updL gb k (((rb k) + (ra k)) + (Int32.toInt64 (ck k)))))))]) (wr := [(q3, .inl (cJ, 40, .inr (.inl ra))), (q4, .inl (cJ, 40, .inr (.inl rb))), (q9, .inl (cI, 40, .inl (upd oc k 1))), (q5, .inl (cZ, 40, .inl (upd ca k 0))), (q7, .inl (cJ, 40, .inr (.inl ga))), (hB, .inr (0, [.int bz, .ref b1, .ref b2, .ref b3, .ref b4, .ref b5, .ref b6])), (b1, .inl (cI, 40, .inl ok)), (b2, .inl (cI, 40, .inl ak)), (b3, .inl (cI, 40, .inl bk)), (b4, .inl (cI, 40, .inl ck))]) (ws' := [(h, .inr (3, [.ref hB, .ref q1, .ref q2, .ref q3, .ref q4, .ref q5, .ref q6, .ref q7, .ref q8, .ref q9, .ref q10, .ref q11, .ref q12, .ref q13])), (q3, .inl (cJ, 40, .inr (.inl ra))), (q4, .inl (cJ, 40, .inr (.inl rb))), (q9, .inl (cI, 40, .inl (upd oc k 1))), (q5, .inl (cZ, 40, .inl (upd ca k 0))), (q6, .inl (cZ, 40, .inl (upd (upd cb k 0) k 1))), (q7, .inl (cJ, 40, .inr (.inl ga))), (q8, .inl (cJ, 40, .inr (.inl (vp_updL gb k (((rb k) + (ra k)) + (Int32.toInt64 (ck k))))))), (hB, .inr (0, [.int bz, .ref b1, .ref b2, .ref b3, .ref b4, .ref b5, .ref b6])), (b1, .inl (cI, 40, .inl ok)), (b2, .inl (cI, 40, .inl ak)), (b3, .inl (cI, 40, .inl bk)), (b4, .inl (cI, 40, .inl ck))]) hP hD hS hA [0, 5, 7] [1, 2, 3, 4, 6, 8, 9, 10, 11, 12] rfl rfl (by decide) (by decide) [10, 0, 1, 2, 3, 11, 4, 12, 5, 6, 7, 8, 9] (by decide) rfl (va_runV (As := [.int (nI k), .long (((rb k) + (ra k)) + (Int32.toInt64 (ck k)))]) (rest := []) ⟨hx, hb, hml, hown, hts⟩ (k_giveB l D cI cJ cZ H.size h hB q1 q2 q3 q4 q5 q6 q7 q8 q9 q10 q11 q12 q13 (upd cb k 0) gb k hk (((rb k) + (ra k)) + (Int32.toInt64 (ck k)))) (cwV 2 hts gX3_work_X3_giveB rfl rfl rfl (by decide +kernel) ⟨Nat.le_of_ble_eq_true rfl, Nat.le_of_ble_eq_true rfl⟩) ⟨bl_rw, va_recv hK (hP.sub (ws' := [(h, .inr (3, [.ref hB, .ref q1, .ref q2, .ref q3, .ref q4, .ref q5, .ref q6, .ref q7, .ref q8, .ref q9, .ref q10, .ref q11, .ref q12, .ref q13])), (q6, .inl (cZ, 40, .inl (upd cb k 0))), (q8, .inl (cJ, 40, .inr (.inl gb)))]) [0, 5, 7] rfl) (ci := 3) (q0 := 0) rfl rfl, fun U hU hW => ⟨rfl, by rw [hU], by rw [hU]; exact (hP.sub (ws' := [(h, .inr (3, [.ref hB, .ref q1, .ref q2, .ref q3, .ref q4, .ref q5, .ref q6, .ref q7, .ref q8, .ref q9, .ref q10, .ref q11, .ref q12, .ref q13])), (q6, .inl (cZ, 40, .inl (upd cb k 0))), (q8, .inl (cJ, 40, .inr (.inl gb)))]) [0, 5, 7] rfl), hE.warm2 hW, (hD.sub (ws' := [(h, .inr (3, [.ref hB, .ref q1, .ref q2, .ref q3, .ref q4, .ref q5, .ref q6, .ref q7, .ref q8, .ref q9, .ref q10, .ref q11, .ref q12, .ref q13])), (q6, .inl (cZ, 40, .inl (upd cb k 0))), (q8, .inl (cJ, 40, .inr (.inl gb)))]) [0, 5, 7] (by decide) rfl).weaken (fun _ _ _ _ => trivial)⟩⟩ rfl rfl hl.1 rfl (lv_room (Nat.le_of_ble_eq_true rfl)) dX3_work_111 ⟨Nat.zero_le _, Nat.zero_le _⟩) (fun H locs hP hD hS => ?_)
    refine lv_goto (tgt := 185) hx hb dX3_work_114 (by decide) ?_
    have w_outcomes : (upd oc k 1) = (upd oc k (wOut (ok k) (ra k) (rb k) (Int32.toInt64 (ck k)))) := by simp [wOut, wChA, wChB, wGA, wGB, upd_upd, updL_updL, e57]
    have w_changesA : (upd ca k 0) = (upd ca k (wChA (ok k) (ak k) (bk k) (ra k) (Int32.toInt64 (ck k)))) := by simp [wOut, wChA, wChB, wGA, wGB, upd_upd, updL_updL, e57]
    have w_changesB : (upd (upd cb k 0) k 1) = (upd cb k (wChB (ok k) (ak k) (bk k) (ra k) (rb k) (Int32.toInt64 (ck k)))) := by simp [wOut, wChA, wChB, wGA, wGB, upd_upd, updL_updL, e57]
    have w_givesA : ga = (if wChA (ok k) (ak k) (bk k) (ra k) (Int32.toInt64 (ck k)) = 1 then vp_updL ga k (wGA (ok k) (ra k) (rb k) (Int32.toInt64 (ck k))) else ga) := by simp [wOut, wChA, wChB, wGA, wGB, upd_upd, updL_updL, e57]
    have w_givesB : (vp_updL gb k (((rb k) + (ra k)) + (Int32.toInt64 (ck k)))) = (if wChB (ok k) (ak k) (bk k) (ra k) (rb k) (Int32.toInt64 (ck k)) = 1 then vp_updL gb k (wGB (ok k) (ra k) (rb k) (Int32.toInt64 (ck k))) else gb) := by simp [wOut, wChA, wChB, wGA, wGB, upd_upd, updL_updL, e57]
    rw [w_outcomes, w_changesA, w_changesB, w_givesA, w_givesB] at hP hD
    exact W.vret hx hb hr (fun t ht hW => ⟨⟨(), rfl, trivial, by rw [ht]; exact hP, by exact hD⟩, hS.F ht⟩) hS.2.2 dX3_work_185
  · refine lv_tableIn (off := 60) (tgt := 117) hx hb dX3_work_57 (by rw [e57]; decide) (by rw [e57]; decide) (by rw [e57]; rfl) (by decide) ?_
    refine lv_aload_n hx hb dX3_work_117 rfl (lv_at hl 3 rfl) ?_
    refine lv_iload_n hx hb dX3_work_118 rfl (lv_at hl 4 rfl) ?_
    refine lv_lload_n hx hb dX3_work_119 rfl (lv_at hl 2 rfl) ?_
    refine lv_lload hx hb dX3_work_120 (lv_at hl 1 rfl) ?_
    refine lv_lload hx hb dX3_work_122 (lv_at hl 0 rfl) ?_
    refine x_callv (wc := [(h, .inr (3, [.ref hB, .ref q1, .ref q2, .ref q3, .ref q4, .ref q5, .ref q6, .ref q7, .ref q8, .ref q9, .ref q10, .ref q11, .ref q12, .ref q13])), (q9, .inl (cI, 40, .inl (upd oc k 1))), (q5, .inl (cZ, 40, .inl (upd ca k 0))), (q6, .inl (cZ, 40, .inl (upd cb k 0))), (q7, .inl (cJ, 40, .inr (.inl ga))), (q8, .inl (cJ, 40, .inr (.inl gb))), (hB, .inr (0, [.int bz, .ref b1, .ref b2, .ref b3, .ref b4, .ref b5, .ref b6])), (b2, .inl (cI, 40, .inl ak)), (b3, .inl (cI, 40, .inl bk))]) (wc' := [(h, .inr (3, [.ref hB, .ref q1, .ref q2, .ref q3, .ref q4, .ref q5, .ref q6, .ref q7, .ref q8, .ref q9, .ref q10, .ref q11, .ref q12, .ref q13])), (q9, .inl (cI, 40, .inl (if (ra k) < (Int32.toInt64 (ck k)) ∨ (Int32.toInt64 (ck k)) < 0 then upd (upd oc k 1) k 2 else (upd oc k 1)))), (q5, .inl (cZ, 40, .inl (if ((ra k) < (Int32.toInt64 (ck k)) ∨ (Int32.toInt64 (ck k)) < 0) ∨ ak k = bk k then (upd ca k 0) else upd (upd ca k 0) k 1))), (q6, .inl (cZ, 40, .inl (if ((ra k) < (Int32.toInt64 (ck k)) ∨ (Int32.toInt64 (ck k)) < 0) ∨ ak k = bk k then (upd cb k 0) else upd (upd cb k 0) k 1))), (q7, .inl (cJ, 40, .inr (.inl (if ((ra k) < (Int32.toInt64 (ck k)) ∨ (Int32.toInt64 (ck k)) < 0) ∨ ak k = bk k then ga else vp_updL ga k ((ra k) - (Int32.toInt64 (ck k))))))), (q8, .inl (cJ, 40, .inr (.inl (if ((ra k) < (Int32.toInt64 (ck k)) ∨ (Int32.toInt64 (ck k)) < 0) ∨ ak k = bk k then gb else vp_updL gb k ((rb k) + (Int32.toInt64 (ck k))))))), (hB, .inr (0, [.int bz, .ref b1, .ref b2, .ref b3, .ref b4, .ref b5, .ref b6])), (b2, .inl (cI, 40, .inl ak)), (b3, .inl (cI, 40, .inl bk))]) (wr := [(q3, .inl (cJ, 40, .inr (.inl ra))), (q4, .inl (cJ, 40, .inr (.inl rb))), (b1, .inl (cI, 40, .inl ok)), (b4, .inl (cI, 40, .inl ck))]) (ws' := [(h, .inr (3, [.ref hB, .ref q1, .ref q2, .ref q3, .ref q4, .ref q5, .ref q6, .ref q7, .ref q8, .ref q9, .ref q10, .ref q11, .ref q12, .ref q13])), (q3, .inl (cJ, 40, .inr (.inl ra))), (q4, .inl (cJ, 40, .inr (.inl rb))), (q9, .inl (cI, 40, .inl (if (ra k) < (Int32.toInt64 (ck k)) ∨ (Int32.toInt64 (ck k)) < 0 then upd (upd oc k 1) k 2 else (upd oc k 1)))), (q5, .inl (cZ, 40, .inl (if ((ra k) < (Int32.toInt64 (ck k)) ∨ (Int32.toInt64 (ck k)) < 0) ∨ ak k = bk k then (upd ca k 0) else upd (upd ca k 0) k 1))), (q6, .inl (cZ, 40, .inl (if ((ra k) < (Int32.toInt64 (ck k)) ∨ (Int32.toInt64 (ck k)) < 0) ∨ ak k = bk k then (upd cb k 0) else upd (upd cb k 0) k 1))), (q7, .inl (cJ, 40, .inr (.inl (if ((ra k) < (Int32.toInt64 (ck k)) ∨ (Int32.toInt64 (ck k)) < 0) ∨ ak k = bk k then ga else vp_updL ga k ((ra k) - (Int32.toInt64 (ck k))))))), (q8, .inl (cJ, 40, .inr (.inl (if ((ra k) < (Int32.toInt64 (ck k)) ∨ (Int32.toInt64 (ck k)) < 0) ∨ ak k = bk k then gb else vp_updL gb k ((rb k) + (Int32.toInt64 (ck k))))))), (hB, .inr (0, [.int bz, .ref b1, .ref b2, .ref b3, .ref b4, .ref b5, .ref b6])), (b1, .inl (cI, 40, .inl ok)), (b2, .inl (cI, 40, .inl ak)), (b3, .inl (cI, 40, .inl bk)), (b4, .inl (cI, 40, .inl ck))]) hP hD hS hA [0, 3, 4, 5, 6, 7, 8, 10, 11] [1, 2, 9, 12] rfl rfl (by decide) (by decide) [4, 0, 1, 5, 6, 7, 8, 9, 10, 2, 11, 12, 3] (by decide) rfl (va_runV (As := [.int (nI k), .long (ra k), .long (rb k), .long (Int32.toInt64 (ck k))]) (rest := []) ⟨hx, hb, hml, hown, hts⟩ (k_pay l D cI cJ cZ H.size h hB q1 q2 q3 q4 q5 q6 q7 q8 q9 q10 q11 q12 q13 (upd oc k 1) (upd ca k 0) (upd cb k 0) ga gb b1 b2 b3 b4 b5 b6 bz ak bk k hk (ra k) (rb k) (Int32.toInt64 (ck k)) (upd_s _ _ _)) (cwV 4 hts gX3_work_X3_pay rfl rfl rfl (by decide +kernel) ⟨Nat.le_of_ble_eq_true rfl, Nat.le_of_ble_eq_true rfl⟩) ⟨bl_rw, va_recv hK (hP.sub (ws' := [(h, .inr (3, [.ref hB, .ref q1, .ref q2, .ref q3, .ref q4, .ref q5, .ref q6, .ref q7, .ref q8, .ref q9, .ref q10, .ref q11, .ref q12, .ref q13])), (q9, .inl (cI, 40, .inl (upd oc k 1))), (q5, .inl (cZ, 40, .inl (upd ca k 0))), (q6, .inl (cZ, 40, .inl (upd cb k 0))), (q7, .inl (cJ, 40, .inr (.inl ga))), (q8, .inl (cJ, 40, .inr (.inl gb))), (hB, .inr (0, [.int bz, .ref b1, .ref b2, .ref b3, .ref b4, .ref b5, .ref b6])), (b2, .inl (cI, 40, .inl ak)), (b3, .inl (cI, 40, .inl bk))]) [0, 3, 4, 5, 6, 7, 8, 10, 11] rfl) (ci := 3) (q0 := 0) rfl rfl, fun U hU hW => ⟨rfl, by rw [hU], by rw [hU]; exact (hP.sub (ws' := [(h, .inr (3, [.ref hB, .ref q1, .ref q2, .ref q3, .ref q4, .ref q5, .ref q6, .ref q7, .ref q8, .ref q9, .ref q10, .ref q11, .ref q12, .ref q13])), (q9, .inl (cI, 40, .inl (upd oc k 1))), (q5, .inl (cZ, 40, .inl (upd ca k 0))), (q6, .inl (cZ, 40, .inl (upd cb k 0))), (q7, .inl (cJ, 40, .inr (.inl ga))), (q8, .inl (cJ, 40, .inr (.inl gb))), (hB, .inr (0, [.int bz, .ref b1, .ref b2, .ref b3, .ref b4, .ref b5, .ref b6])), (b2, .inl (cI, 40, .inl ak)), (b3, .inl (cI, 40, .inl bk))]) [0, 3, 4, 5, 6, 7, 8, 10, 11] rfl), hE.warm2 hW, (hD.sub (ws' := [(h, .inr (3, [.ref hB, .ref q1, .ref q2, .ref q3, .ref q4, .ref q5, .ref q6, .ref q7, .ref q8, .ref q9, .ref q10, .ref q11, .ref q12, .ref q13])), (q9, .inl (cI, 40, .inl (upd oc k 1))), (q5, .inl (cZ, 40, .inl (upd ca k 0))), (q6, .inl (cZ, 40, .inl (upd cb k 0))), (q7, .inl (cJ, 40, .inr (.inl ga))), (q8, .inl (cJ, 40, .inr (.inl gb))), (hB, .inr (0, [.int bz, .ref b1, .ref b2, .ref b3, .ref b4, .ref b5, .ref b6])), (b2, .inl (cI, 40, .inl ak)), (b3, .inl (cI, 40, .inl bk))]) [0, 3, 4, 5, 6, 7, 8, 10, 11] (by decide) rfl).weaken (fun _ _ _ _ => trivial)⟩⟩ rfl rfl hl.1 rfl (lv_room (Nat.le_of_ble_eq_true rfl)) dX3_work_124 ⟨Nat.zero_le _, Nat.zero_le _⟩) (fun H locs hP hD hS => ?_)
    refine lv_goto (tgt := 185) hx hb dX3_work_127 (by decide) ?_
    have w_outcomes : (if (ra k) < (Int32.toInt64 (ck k)) ∨ (Int32.toInt64 (ck k)) < 0 then upd (upd oc k 1) k 2 else (upd oc k 1)) = (upd oc k (wOut (ok k) (ra k) (rb k) (Int32.toInt64 (ck k)))) := by by_cases hp : ra k < Int32.toInt64 (ck k) ∨ Int32.toInt64 (ck k) < 0 <;> simp [wOut, e57, hp, upd_upd]
    have w_changesA : (if ((ra k) < (Int32.toInt64 (ck k)) ∨ (Int32.toInt64 (ck k)) < 0) ∨ ak k = bk k then (upd ca k 0) else upd (upd ca k 0) k 1) = (upd ca k (wChA (ok k) (ak k) (bk k) (ra k) (Int32.toInt64 (ck k)))) := by by_cases hp : (ra k < Int32.toInt64 (ck k) ∨ Int32.toInt64 (ck k) < 0) ∨ ak k = bk k <;> simp [wChA, e57, hp, upd_upd]
    have w_changesB : (if ((ra k) < (Int32.toInt64 (ck k)) ∨ (Int32.toInt64 (ck k)) < 0) ∨ ak k = bk k then (upd cb k 0) else upd (upd cb k 0) k 1) = (upd cb k (wChB (ok k) (ak k) (bk k) (ra k) (rb k) (Int32.toInt64 (ck k)))) := by by_cases hp : (ra k < Int32.toInt64 (ck k) ∨ Int32.toInt64 (ck k) < 0) ∨ ak k = bk k <;> simp [wChB, e57, hp, upd_upd]
    have w_givesA : (if ((ra k) < (Int32.toInt64 (ck k)) ∨ (Int32.toInt64 (ck k)) < 0) ∨ ak k = bk k then ga else vp_updL ga k ((ra k) - (Int32.toInt64 (ck k)))) = (if wChA (ok k) (ak k) (bk k) (ra k) (Int32.toInt64 (ck k)) = 1 then vp_updL ga k (wGA (ok k) (ra k) (rb k) (Int32.toInt64 (ck k))) else ga) := by by_cases hp : (ra k < Int32.toInt64 (ck k) ∨ Int32.toInt64 (ck k) < 0) ∨ ak k = bk k <;> simp [wChA, wGA, e57, hp]
    have w_givesB : (if ((ra k) < (Int32.toInt64 (ck k)) ∨ (Int32.toInt64 (ck k)) < 0) ∨ ak k = bk k then gb else vp_updL gb k ((rb k) + (Int32.toInt64 (ck k)))) = (if wChB (ok k) (ak k) (bk k) (ra k) (rb k) (Int32.toInt64 (ck k)) = 1 then vp_updL gb k (wGB (ok k) (ra k) (rb k) (Int32.toInt64 (ck k))) else gb) := by by_cases hp : (ra k < Int32.toInt64 (ck k) ∨ Int32.toInt64 (ck k) < 0) ∨ ak k = bk k <;> simp [wChB, wGB, e57, hp]
    rw [w_outcomes, w_changesA, w_changesB, w_givesA, w_givesB] at hP hD
    exact W.vret hx hb hr (fun t ht hW => ⟨⟨(), rfl, trivial, by rw [ht]; exact hP, by exact hD⟩, hS.F ht⟩) hS.2.2 dX3_work_185
  · refine lv_tableIn (off := 73) (tgt := 130) hx hb dX3_work_57 (by rw [e57]; decide) (by rw [e57]; decide) (by rw [e57]; rfl) (by decide) ?_
    refine lv_aload_n hx hb dX3_work_130 rfl (lv_at hl 3 rfl) ?_
    refine lv_iload_n hx hb dX3_work_131 rfl (lv_at hl 4 rfl) ?_
    refine lv_lload_n hx hb dX3_work_132 rfl (lv_at hl 2 rfl) ?_
    refine lv_lload hx hb dX3_work_133 (lv_at hl 0 rfl) ?_
    refine W.lcmp hx hb dX3_work_135 ?_
    refine lv_if_lt (tgt := 143) hx hb dX3_work_136 (by decide) (fun c136 => ?_) (fun c136 => ?_)
    · have c136 := (lg_cmp_lt _ _).mp c136
      refine lv_iconst (v := 0) hx hb dX3_work_143 (by decide) ?_
      refine x_callv (wc := [(h, .inr (3, [.ref hB, .ref q1, .ref q2, .ref q3, .ref q4, .ref q5, .ref q6, .ref q7, .ref q8, .ref q9, .ref q10, .ref q11, .ref q12, .ref q13])), (q9, .inl (cI, 40, .inl (upd oc k 1)))]) (wc' := [(h, .inr (3, [.ref hB, .ref q1, .ref q2, .ref q3, .ref q4, .ref q5, .ref q6, .ref q7, .ref q8, .ref q9, .ref q10, .ref q11, .ref q12, .ref q13])), (q9, .inl (cI, 40, .inl (upd (upd oc k 1) k 2)))]) (wr := [(q3, .inl (cJ, 40, .inr (.inl ra))), (q4, .inl (cJ, 40, .inr (.inl rb))), (q5, .inl (cZ, 40, .inl (upd ca k 0))), (q6, .inl (cZ, 40, .inl (upd cb k 0))), (q7, .inl (cJ, 40, .inr (.inl ga))), (q8, .inl (cJ, 40, .inr (.inl gb))), (hB, .inr (0, [.int bz, .ref b1, .ref b2, .ref b3, .ref b4, .ref b5, .ref b6])), (b1, .inl (cI, 40, .inl ok)), (b2, .inl (cI, 40, .inl ak)), (b3, .inl (cI, 40, .inl bk)), (b4, .inl (cI, 40, .inl ck))]) (ws' := [(h, .inr (3, [.ref hB, .ref q1, .ref q2, .ref q3, .ref q4, .ref q5, .ref q6, .ref q7, .ref q8, .ref q9, .ref q10, .ref q11, .ref q12, .ref q13])), (q3, .inl (cJ, 40, .inr (.inl ra))), (q4, .inl (cJ, 40, .inr (.inl rb))), (q9, .inl (cI, 40, .inl (upd (upd oc k 1) k 2))), (q5, .inl (cZ, 40, .inl (upd ca k 0))), (q6, .inl (cZ, 40, .inl (upd cb k 0))), (q7, .inl (cJ, 40, .inr (.inl ga))), (q8, .inl (cJ, 40, .inr (.inl gb))), (hB, .inr (0, [.int bz, .ref b1, .ref b2, .ref b3, .ref b4, .ref b5, .ref b6])), (b1, .inl (cI, 40, .inl ok)), (b2, .inl (cI, 40, .inl ak)), (b3, .inl (cI, 40, .inl bk)), (b4, .inl (cI, 40, .inl ck))]) hP hD hS hA [0, 3] [1, 2, 4, 5, 6, 7, 8, 9, 10, 11, 12] rfl rfl (by decide) (by decide) [11, 0, 1, 12, 2, 3, 4, 5, 6, 7, 8, 9, 10] (by decide) rfl (va_runV (As := [.int (nI k), .int 0]) (rest := []) ⟨hx, hb, hml, hown, hts⟩ (k_fail0 l D cI cJ cZ H.size h hB q1 q2 q3 q4 q5 q6 q7 q8 q9 q10 q11 q12 q13 (upd oc k 1) k hk) (cwV 2 hts gX3_work_X3_failUnless rfl rfl rfl (by decide +kernel) ⟨Nat.le_of_ble_eq_true rfl, Nat.le_of_ble_eq_true rfl⟩) ⟨bl_rw, va_recv hK (hP.sub (ws' := [(h, .inr (3, [.ref hB, .ref q1, .ref q2, .ref q3, .ref q4, .ref q5, .ref q6, .ref q7, .ref q8, .ref q9, .ref q10, .ref q11, .ref q12, .ref q13])), (q9, .inl (cI, 40, .inl (upd oc k 1)))]) [0, 3] rfl) (ci := 3) (q0 := 0) rfl rfl, fun U hU hW => ⟨rfl, by rw [hU], by rw [hU]; exact (hP.sub (ws' := [(h, .inr (3, [.ref hB, .ref q1, .ref q2, .ref q3, .ref q4, .ref q5, .ref q6, .ref q7, .ref q8, .ref q9, .ref q10, .ref q11, .ref q12, .ref q13])), (q9, .inl (cI, 40, .inl (upd oc k 1)))]) [0, 3] rfl), hE.warm2 hW, (hD.sub (ws' := [(h, .inr (3, [.ref hB, .ref q1, .ref q2, .ref q3, .ref q4, .ref q5, .ref q6, .ref q7, .ref q8, .ref q9, .ref q10, .ref q11, .ref q12, .ref q13])), (q9, .inl (cI, 40, .inl (upd oc k 1)))]) [0, 3] (by decide) rfl).weaken (fun _ _ _ _ => trivial)⟩⟩ rfl rfl hl.1 rfl (lv_room (Nat.le_of_ble_eq_true rfl)) dX3_work_144 ⟨Nat.zero_le _, Nat.zero_le _⟩) (fun H locs hP hD hS => ?_)
      refine lv_goto (tgt := 185) hx hb dX3_work_147 (by decide) ?_
      have w_outcomes : (upd (upd oc k 1) k 2) = (upd oc k (wOut (ok k) (ra k) (rb k) (Int32.toInt64 (ck k)))) := by simp [wOut, wChA, wChB, wGA, wGB, upd_upd, updL_updL, e57, c136]
      have w_changesA : (upd ca k 0) = (upd ca k (wChA (ok k) (ak k) (bk k) (ra k) (Int32.toInt64 (ck k)))) := by simp [wOut, wChA, wChB, wGA, wGB, upd_upd, updL_updL, e57, c136]
      have w_changesB : (upd cb k 0) = (upd cb k (wChB (ok k) (ak k) (bk k) (ra k) (rb k) (Int32.toInt64 (ck k)))) := by simp [wOut, wChA, wChB, wGA, wGB, upd_upd, updL_updL, e57, c136]
      have w_givesA : ga = (if wChA (ok k) (ak k) (bk k) (ra k) (Int32.toInt64 (ck k)) = 1 then vp_updL ga k (wGA (ok k) (ra k) (rb k) (Int32.toInt64 (ck k))) else ga) := by simp [wOut, wChA, wChB, wGA, wGB, upd_upd, updL_updL, e57, c136]
      have w_givesB : gb = (if wChB (ok k) (ak k) (bk k) (ra k) (rb k) (Int32.toInt64 (ck k)) = 1 then vp_updL gb k (wGB (ok k) (ra k) (rb k) (Int32.toInt64 (ck k))) else gb) := by simp [wOut, wChA, wChB, wGA, wGB, upd_upd, updL_updL, e57, c136]
      rw [w_outcomes, w_changesA, w_changesB, w_givesA, w_givesB] at hP hD
      exact W.vret hx hb hr (fun t ht hW => ⟨⟨(), rfl, trivial, by rw [ht]; exact hP, by exact hD⟩, hS.F ht⟩) hS.2.2 dX3_work_185
    · have c136 := mt (lg_cmp_lt _ _).mpr c136
      refine lv_iconst (v := 1) hx hb dX3_work_139 (by decide) ?_
      refine lv_goto (tgt := 144) hx hb dX3_work_140 (by decide) ?_
      refine x_callv (wc := [(h, .inr (3, [.ref hB, .ref q1, .ref q2, .ref q3, .ref q4, .ref q5, .ref q6, .ref q7, .ref q8, .ref q9, .ref q10, .ref q11, .ref q12, .ref q13])), (q9, .inl (cI, 40, .inl (upd oc k 1)))]) (wc' := [(h, .inr (3, [.ref hB, .ref q1, .ref q2, .ref q3, .ref q4, .ref q5, .ref q6, .ref q7, .ref q8, .ref q9, .ref q10, .ref q11, .ref q12, .ref q13])), (q9, .inl (cI, 40, .inl (upd oc k 1)))]) (wr := [(q3, .inl (cJ, 40, .inr (.inl ra))), (q4, .inl (cJ, 40, .inr (.inl rb))), (q5, .inl (cZ, 40, .inl (upd ca k 0))), (q6, .inl (cZ, 40, .inl (upd cb k 0))), (q7, .inl (cJ, 40, .inr (.inl ga))), (q8, .inl (cJ, 40, .inr (.inl gb))), (hB, .inr (0, [.int bz, .ref b1, .ref b2, .ref b3, .ref b4, .ref b5, .ref b6])), (b1, .inl (cI, 40, .inl ok)), (b2, .inl (cI, 40, .inl ak)), (b3, .inl (cI, 40, .inl bk)), (b4, .inl (cI, 40, .inl ck))]) (ws' := [(h, .inr (3, [.ref hB, .ref q1, .ref q2, .ref q3, .ref q4, .ref q5, .ref q6, .ref q7, .ref q8, .ref q9, .ref q10, .ref q11, .ref q12, .ref q13])), (q3, .inl (cJ, 40, .inr (.inl ra))), (q4, .inl (cJ, 40, .inr (.inl rb))), (q9, .inl (cI, 40, .inl (upd oc k 1))), (q5, .inl (cZ, 40, .inl (upd ca k 0))), (q6, .inl (cZ, 40, .inl (upd cb k 0))), (q7, .inl (cJ, 40, .inr (.inl ga))), (q8, .inl (cJ, 40, .inr (.inl gb))), (hB, .inr (0, [.int bz, .ref b1, .ref b2, .ref b3, .ref b4, .ref b5, .ref b6])), (b1, .inl (cI, 40, .inl ok)), (b2, .inl (cI, 40, .inl ak)), (b3, .inl (cI, 40, .inl bk)), (b4, .inl (cI, 40, .inl ck))]) hP hD hS hA [0, 3] [1, 2, 4, 5, 6, 7, 8, 9, 10, 11, 12] rfl rfl (by decide) (by decide) [11, 0, 1, 12, 2, 3, 4, 5, 6, 7, 8, 9, 10] (by decide) rfl (va_runV (As := [.int (nI k), .int 1]) (rest := []) ⟨hx, hb, hml, hown, hts⟩ (k_fail1 l D cI cJ cZ H.size h hB q1 q2 q3 q4 q5 q6 q7 q8 q9 q10 q11 q12 q13 (upd oc k 1) k hk) (cwV 2 hts gX3_work_X3_failUnless rfl rfl rfl (by decide +kernel) ⟨Nat.le_of_ble_eq_true rfl, Nat.le_of_ble_eq_true rfl⟩) ⟨bl_rw, va_recv hK (hP.sub (ws' := [(h, .inr (3, [.ref hB, .ref q1, .ref q2, .ref q3, .ref q4, .ref q5, .ref q6, .ref q7, .ref q8, .ref q9, .ref q10, .ref q11, .ref q12, .ref q13])), (q9, .inl (cI, 40, .inl (upd oc k 1)))]) [0, 3] rfl) (ci := 3) (q0 := 0) rfl rfl, fun U hU hW => ⟨rfl, by rw [hU], by rw [hU]; exact (hP.sub (ws' := [(h, .inr (3, [.ref hB, .ref q1, .ref q2, .ref q3, .ref q4, .ref q5, .ref q6, .ref q7, .ref q8, .ref q9, .ref q10, .ref q11, .ref q12, .ref q13])), (q9, .inl (cI, 40, .inl (upd oc k 1)))]) [0, 3] rfl), hE.warm2 hW, (hD.sub (ws' := [(h, .inr (3, [.ref hB, .ref q1, .ref q2, .ref q3, .ref q4, .ref q5, .ref q6, .ref q7, .ref q8, .ref q9, .ref q10, .ref q11, .ref q12, .ref q13])), (q9, .inl (cI, 40, .inl (upd oc k 1)))]) [0, 3] (by decide) rfl).weaken (fun _ _ _ _ => trivial)⟩⟩ rfl rfl hl.1 rfl (lv_room (Nat.le_of_ble_eq_true rfl)) dX3_work_144 ⟨Nat.zero_le _, Nat.zero_le _⟩) (fun H locs hP hD hS => ?_)
      refine lv_goto (tgt := 185) hx hb dX3_work_147 (by decide) ?_
      have w_outcomes : (upd oc k 1) = (upd oc k (wOut (ok k) (ra k) (rb k) (Int32.toInt64 (ck k)))) := by simp [wOut, wChA, wChB, wGA, wGB, upd_upd, updL_updL, e57, c136]
      have w_changesA : (upd ca k 0) = (upd ca k (wChA (ok k) (ak k) (bk k) (ra k) (Int32.toInt64 (ck k)))) := by simp [wOut, wChA, wChB, wGA, wGB, upd_upd, updL_updL, e57, c136]
      have w_changesB : (upd cb k 0) = (upd cb k (wChB (ok k) (ak k) (bk k) (ra k) (rb k) (Int32.toInt64 (ck k)))) := by simp [wOut, wChA, wChB, wGA, wGB, upd_upd, updL_updL, e57, c136]
      have w_givesA : ga = (if wChA (ok k) (ak k) (bk k) (ra k) (Int32.toInt64 (ck k)) = 1 then vp_updL ga k (wGA (ok k) (ra k) (rb k) (Int32.toInt64 (ck k))) else ga) := by simp [wOut, wChA, wChB, wGA, wGB, upd_upd, updL_updL, e57, c136]
      have w_givesB : gb = (if wChB (ok k) (ak k) (bk k) (ra k) (rb k) (Int32.toInt64 (ck k)) = 1 then vp_updL gb k (wGB (ok k) (ra k) (rb k) (Int32.toInt64 (ck k))) else gb) := by simp [wOut, wChA, wChB, wGA, wGB, upd_upd, updL_updL, e57, c136]
      rw [w_outcomes, w_changesA, w_changesB, w_givesA, w_givesB] at hP hD
      exact W.vret hx hb hr (fun t ht hW => ⟨⟨(), rfl, trivial, by rw [ht]; exact hP, by exact hD⟩, hS.F ht⟩) hS.2.2 dX3_work_185
  · refine lv_tableIn (off := 93) (tgt := 150) hx hb dX3_work_57 (by rw [e57]; decide) (by rw [e57]; decide) (by rw [e57]; rfl) (by decide) ?_
    refine lv_aload_n hx hb dX3_work_150 rfl (lv_at hl 3 rfl) ?_
    refine lv_iload_n hx hb dX3_work_151 rfl (lv_at hl 4 rfl) ?_
    refine lv_lload hx hb dX3_work_152 (lv_at hl 1 rfl) ?_
    refine x_callv (wc := [(h, .inr (3, [.ref hB, .ref q1, .ref q2, .ref q3, .ref q4, .ref q5, .ref q6, .ref q7, .ref q8, .ref q9, .ref q10, .ref q11, .ref q12, .ref q13])), (q5, .inl (cZ, 40, .inl (upd ca k 0))), (q7, .inl (cJ, 40, .inr (.inl ga)))]) (wc' := [(h, .inr (3, [.ref hB, .ref q1, .ref q2, .ref q3, .ref q4, .ref q5, .ref q6, .ref q7, .ref q8, .ref q9, .ref q10, .ref q11, .ref q12, .ref q13])), (q5, .inl (cZ, 40, .inl (upd (upd ca k 0) k 1))), (q7, .inl (cJ, 40, .inr (.inl (vp_updL ga k (rb k)))))]) (wr := [(q3, .inl (cJ, 40, .inr (.inl ra))), (q4, .inl (cJ, 40, .inr (.inl rb))), (q9, .inl (cI, 40, .inl (upd oc k 1))), (q6, .inl (cZ, 40, .inl (upd cb k 0))), (q8, .inl (cJ, 40, .inr (.inl gb))), (hB, .inr (0, [.int bz, .ref b1, .ref b2, .ref b3, .ref b4, .ref b5, .ref b6])), (b1, .inl (cI, 40, .inl ok)), (b2, .inl (cI, 40, .inl ak)), (b3, .inl (cI, 40, .inl bk)), (b4, .inl (cI, 40, .inl ck))]) (ws' := [(h, .inr (3, [.ref hB, .ref q1, .ref q2, .ref q3, .ref q4, .ref q5, .ref q6, .ref q7, .ref q8, .ref q9, .ref q10, .ref q11, .ref q12, .ref q13])), (q3, .inl (cJ, 40, .inr (.inl ra))), (q4, .inl (cJ, 40, .inr (.inl rb))), (q9, .inl (cI, 40, .inl (upd oc k 1))), (q5, .inl (cZ, 40, .inl (upd (upd ca k 0) k 1))), (q6, .inl (cZ, 40, .inl (upd cb k 0))), (q7, .inl (cJ, 40, .inr (.inl (vp_updL ga k (rb k))))), (q8, .inl (cJ, 40, .inr (.inl gb))), (hB, .inr (0, [.int bz, .ref b1, .ref b2, .ref b3, .ref b4, .ref b5, .ref b6])), (b1, .inl (cI, 40, .inl ok)), (b2, .inl (cI, 40, .inl ak)), (b3, .inl (cI, 40, .inl bk)), (b4, .inl (cI, 40, .inl ck))]) hP hD hS hA [0, 4, 6] [1, 2, 3, 5, 7, 8, 9, 10, 11, 12] rfl rfl (by decide) (by decide) [10, 0, 1, 2, 11, 3, 12, 4, 5, 6, 7, 8, 9] (by decide) rfl (va_runV (As := [.int (nI k), .long (rb k)]) (rest := []) ⟨hx, hb, hml, hown, hts⟩ (k_giveA l D cI cJ cZ H.size h hB q1 q2 q3 q4 q5 q6 q7 q8 q9 q10 q11 q12 q13 (upd ca k 0) ga k hk (rb k)) (cwV 2 hts gX3_work_X3_giveA rfl rfl rfl (by decide +kernel) ⟨Nat.le_of_ble_eq_true rfl, Nat.le_of_ble_eq_true rfl⟩) ⟨bl_rw, va_recv hK (hP.sub (ws' := [(h, .inr (3, [.ref hB, .ref q1, .ref q2, .ref q3, .ref q4, .ref q5, .ref q6, .ref q7, .ref q8, .ref q9, .ref q10, .ref q11, .ref q12, .ref q13])), (q5, .inl (cZ, 40, .inl (upd ca k 0))), (q7, .inl (cJ, 40, .inr (.inl ga)))]) [0, 4, 6] rfl) (ci := 3) (q0 := 0) rfl rfl, fun U hU hW => ⟨rfl, by rw [hU], by rw [hU]; exact (hP.sub (ws' := [(h, .inr (3, [.ref hB, .ref q1, .ref q2, .ref q3, .ref q4, .ref q5, .ref q6, .ref q7, .ref q8, .ref q9, .ref q10, .ref q11, .ref q12, .ref q13])), (q5, .inl (cZ, 40, .inl (upd ca k 0))), (q7, .inl (cJ, 40, .inr (.inl ga)))]) [0, 4, 6] rfl), hE.warm2 hW, (hD.sub (ws' := [(h, .inr (3, [.ref hB, .ref q1, .ref q2, .ref q3, .ref q4, .ref q5, .ref q6, .ref q7, .ref q8, .ref q9, .ref q10, .ref q11, .ref q12, .ref q13])), (q5, .inl (cZ, 40, .inl (upd ca k 0))), (q7, .inl (cJ, 40, .inr (.inl ga)))]) [0, 4, 6] (by decide) rfl).weaken (fun _ _ _ _ => trivial)⟩⟩ rfl rfl hl.1 rfl (lv_room (Nat.le_of_ble_eq_true rfl)) dX3_work_154 ⟨Nat.zero_le _, Nat.zero_le _⟩) (fun H locs hP hD hS => ?_)
    refine lv_aload_n hx hb dX3_work_157 rfl (lv_at hl 3 rfl) ?_
    refine lv_iload_n hx hb dX3_work_158 rfl (lv_at hl 4 rfl) ?_
    refine lv_lload_n hx hb dX3_work_159 rfl (lv_at hl 2 rfl) ?_
    refine x_callv (wc := [(h, .inr (3, [.ref hB, .ref q1, .ref q2, .ref q3, .ref q4, .ref q5, .ref q6, .ref q7, .ref q8, .ref q9, .ref q10, .ref q11, .ref q12, .ref q13])), (q6, .inl (cZ, 40, .inl (upd cb k 0))), (q8, .inl (cJ, 40, .inr (.inl gb)))]) (wc' := [(h, .inr (3, [.ref hB, .ref q1, .ref q2, .ref q3, .ref q4, .ref q5, .ref q6, .ref q7, .ref q8, .ref q9, .ref q10, .ref q11, .ref q12, .ref q13])), (q6, .inl (cZ, 40, .inl (upd (upd cb k 0) k 1))), (q8, .inl (cJ, 40, .inr (.inl (vp_updL gb k (ra k)))))]) (wr := [(q3, .inl (cJ, 40, .inr (.inl ra))), (q4, .inl (cJ, 40, .inr (.inl rb))), (q9, .inl (cI, 40, .inl (upd oc k 1))), (q5, .inl (cZ, 40, .inl (upd (upd ca k 0) k 1))), (q7, .inl (cJ, 40, .inr (.inl (vp_updL ga k (rb k))))), (hB, .inr (0, [.int bz, .ref b1, .ref b2, .ref b3, .ref b4, .ref b5, .ref b6])), (b1, .inl (cI, 40, .inl ok)), (b2, .inl (cI, 40, .inl ak)), (b3, .inl (cI, 40, .inl bk)), (b4, .inl (cI, 40, .inl ck))]) (ws' := [(h, .inr (3, [.ref hB, .ref q1, .ref q2, .ref q3, .ref q4, .ref q5, .ref q6, .ref q7, .ref q8, .ref q9, .ref q10, .ref q11, .ref q12, .ref q13])), (q3, .inl (cJ, 40, .inr (.inl ra))), (q4, .inl (cJ, 40, .inr (.inl rb))), (q9, .inl (cI, 40, .inl (upd oc k 1))), (q5, .inl (cZ, 40, .inl (upd (upd ca k 0) k 1))), (q6, .inl (cZ, 40, .inl (upd (upd cb k 0) k 1))), (q7, .inl (cJ, 40, .inr (.inl (vp_updL ga k (rb k))))), (q8, .inl (cJ, 40, .inr (.inl (vp_updL gb k (ra k))))), (hB, .inr (0, [.int bz, .ref b1, .ref b2, .ref b3, .ref b4, .ref b5, .ref b6])), (b1, .inl (cI, 40, .inl ok)), (b2, .inl (cI, 40, .inl ak)), (b3, .inl (cI, 40, .inl bk)), (b4, .inl (cI, 40, .inl ck))]) hP hD hS hA [0, 5, 7] [1, 2, 3, 4, 6, 8, 9, 10, 11, 12] rfl rfl (by decide) (by decide) [10, 0, 1, 2, 3, 11, 4, 12, 5, 6, 7, 8, 9] (by decide) rfl (va_runV (As := [.int (nI k), .long (ra k)]) (rest := []) ⟨hx, hb, hml, hown, hts⟩ (k_giveB l D cI cJ cZ H.size h hB q1 q2 q3 q4 q5 q6 q7 q8 q9 q10 q11 q12 q13 (upd cb k 0) gb k hk (ra k)) (cwV 2 hts gX3_work_X3_giveB rfl rfl rfl (by decide +kernel) ⟨Nat.le_of_ble_eq_true rfl, Nat.le_of_ble_eq_true rfl⟩) ⟨bl_rw, va_recv hK (hP.sub (ws' := [(h, .inr (3, [.ref hB, .ref q1, .ref q2, .ref q3, .ref q4, .ref q5, .ref q6, .ref q7, .ref q8, .ref q9, .ref q10, .ref q11, .ref q12, .ref q13])), (q6, .inl (cZ, 40, .inl (upd cb k 0))), (q8, .inl (cJ, 40, .inr (.inl gb)))]) [0, 5, 7] rfl) (ci := 3) (q0 := 0) rfl rfl, fun U hU hW => ⟨rfl, by rw [hU], by rw [hU]; exact (hP.sub (ws' := [(h, .inr (3, [.ref hB, .ref q1, .ref q2, .ref q3, .ref q4, .ref q5, .ref q6, .ref q7, .ref q8, .ref q9, .ref q10, .ref q11, .ref q12, .ref q13])), (q6, .inl (cZ, 40, .inl (upd cb k 0))), (q8, .inl (cJ, 40, .inr (.inl gb)))]) [0, 5, 7] rfl), hE.warm2 hW, (hD.sub (ws' := [(h, .inr (3, [.ref hB, .ref q1, .ref q2, .ref q3, .ref q4, .ref q5, .ref q6, .ref q7, .ref q8, .ref q9, .ref q10, .ref q11, .ref q12, .ref q13])), (q6, .inl (cZ, 40, .inl (upd cb k 0))), (q8, .inl (cJ, 40, .inr (.inl gb)))]) [0, 5, 7] (by decide) rfl).weaken (fun _ _ _ _ => trivial)⟩⟩ rfl rfl hl.1 rfl (lv_room (Nat.le_of_ble_eq_true rfl)) dX3_work_160 ⟨Nat.zero_le _, Nat.zero_le _⟩) (fun H locs hP hD hS => ?_)
    refine lv_goto (tgt := 185) hx hb dX3_work_163 (by decide) ?_
    have w_outcomes : (upd oc k 1) = (upd oc k (wOut (ok k) (ra k) (rb k) (Int32.toInt64 (ck k)))) := by simp [wOut, wChA, wChB, wGA, wGB, upd_upd, updL_updL, e57]
    have w_changesA : (upd (upd ca k 0) k 1) = (upd ca k (wChA (ok k) (ak k) (bk k) (ra k) (Int32.toInt64 (ck k)))) := by simp [wOut, wChA, wChB, wGA, wGB, upd_upd, updL_updL, e57]
    have w_changesB : (upd (upd cb k 0) k 1) = (upd cb k (wChB (ok k) (ak k) (bk k) (ra k) (rb k) (Int32.toInt64 (ck k)))) := by simp [wOut, wChA, wChB, wGA, wGB, upd_upd, updL_updL, e57]
    have w_givesA : (vp_updL ga k (rb k)) = (if wChA (ok k) (ak k) (bk k) (ra k) (Int32.toInt64 (ck k)) = 1 then vp_updL ga k (wGA (ok k) (ra k) (rb k) (Int32.toInt64 (ck k))) else ga) := by simp [wOut, wChA, wChB, wGA, wGB, upd_upd, updL_updL, e57]
    have w_givesB : (vp_updL gb k (ra k)) = (if wChB (ok k) (ak k) (bk k) (ra k) (rb k) (Int32.toInt64 (ck k)) = 1 then vp_updL gb k (wGB (ok k) (ra k) (rb k) (Int32.toInt64 (ck k))) else gb) := by simp [wOut, wChA, wChB, wGA, wGB, upd_upd, updL_updL, e57]
    rw [w_outcomes, w_changesA, w_changesB, w_givesA, w_givesB] at hP hD
    exact W.vret hx hb hr (fun t ht hW => ⟨⟨(), rfl, trivial, by rw [ht]; exact hP, by exact hD⟩, hS.F ht⟩) hS.2.2 dX3_work_185
  · refine lv_tableOut (tgt := 166) hx hb dX3_work_57 (n5) (by decide) ?_
    refine lv_aload_n hx hb dX3_work_166 rfl (lv_at hl 3 rfl) ?_
    refine lv_iload_n hx hb dX3_work_167 rfl (lv_at hl 4 rfl) ?_
    refine lv_lload_n hx hb dX3_work_168 rfl (lv_at hl 2 rfl) ?_
    refine lv_lload hx hb dX3_work_169 (lv_at hl 1 rfl) ?_
    refine W.lcmp hx hb dX3_work_171 ?_
    refine lv_if_ne (tgt := 179) hx hb dX3_work_172 (by decide) (fun c172 => ?_) (fun c172 => ?_)
    · have c172 := mt (lg_cmp_eq _ _).mpr c172
      refine lv_iconst (v := 0) hx hb dX3_work_179 (by decide) ?_
      refine lv_lload hx hb dX3_work_180 (lv_at hl 0 rfl) ?_
      refine x_callv (wc := [(h, .inr (3, [.ref hB, .ref q1, .ref q2, .ref q3, .ref q4, .ref q5, .ref q6, .ref q7, .ref q8, .ref q9, .ref q10, .ref q11, .ref q12, .ref q13])), (q9, .inl (cI, 40, .inl (upd oc k 1))), (q6, .inl (cZ, 40, .inl (upd cb k 0))), (q8, .inl (cJ, 40, .inr (.inl gb)))]) (wc' := [(h, .inr (3, [.ref hB, .ref q1, .ref q2, .ref q3, .ref q4, .ref q5, .ref q6, .ref q7, .ref q8, .ref q9, .ref q10, .ref q11, .ref q12, .ref q13])), (q9, .inl (cI, 40, .inl (upd (upd oc k 1) k 2))), (q6, .inl (cZ, 40, .inl (upd cb k 0))), (q8, .inl (cJ, 40, .inr (.inl gb)))]) (wr := [(q3, .inl (cJ, 40, .inr (.inl ra))), (q4, .inl (cJ, 40, .inr (.inl rb))), (q5, .inl (cZ, 40, .inl (upd ca k 0))), (q7, .inl (cJ, 40, .inr (.inl ga))), (hB, .inr (0, [.int bz, .ref b1, .ref b2, .ref b3, .ref b4, .ref b5, .ref b6])), (b1, .inl (cI, 40, .inl ok)), (b2, .inl (cI, 40, .inl ak)), (b3, .inl (cI, 40, .inl bk)), (b4, .inl (cI, 40, .inl ck))]) (ws' := [(h, .inr (3, [.ref hB, .ref q1, .ref q2, .ref q3, .ref q4, .ref q5, .ref q6, .ref q7, .ref q8, .ref q9, .ref q10, .ref q11, .ref q12, .ref q13])), (q3, .inl (cJ, 40, .inr (.inl ra))), (q4, .inl (cJ, 40, .inr (.inl rb))), (q9, .inl (cI, 40, .inl (upd (upd oc k 1) k 2))), (q5, .inl (cZ, 40, .inl (upd ca k 0))), (q6, .inl (cZ, 40, .inl (upd cb k 0))), (q7, .inl (cJ, 40, .inr (.inl ga))), (q8, .inl (cJ, 40, .inr (.inl gb))), (hB, .inr (0, [.int bz, .ref b1, .ref b2, .ref b3, .ref b4, .ref b5, .ref b6])), (b1, .inl (cI, 40, .inl ok)), (b2, .inl (cI, 40, .inl ak)), (b3, .inl (cI, 40, .inl bk)), (b4, .inl (cI, 40, .inl ck))]) hP hD hS hA [0, 3, 5, 7] [1, 2, 4, 6, 8, 9, 10, 11, 12] rfl rfl (by decide) (by decide) [9, 0, 1, 10, 2, 11, 3, 12, 4, 5, 6, 7, 8] (by decide) rfl (va_runV (As := [.int (nI k), .int 0, .long (Int32.toInt64 (ck k))]) (rest := []) ⟨hx, hb, hml, hown, hts⟩ (k_meet0 l D cI cJ cZ H.size h hB q1 q2 q3 q4 q5 q6 q7 q8 q9 q10 q11 q12 q13 (upd oc k 1) (upd cb k 0) gb k hk (Int32.toInt64 (ck k))) (cwV 3 hts gX3_work_X3_meet rfl rfl rfl (by decide +kernel) ⟨Nat.le_of_ble_eq_true rfl, Nat.le_of_ble_eq_true rfl⟩) ⟨bl_rw, va_recv hK (hP.sub (ws' := [(h, .inr (3, [.ref hB, .ref q1, .ref q2, .ref q3, .ref q4, .ref q5, .ref q6, .ref q7, .ref q8, .ref q9, .ref q10, .ref q11, .ref q12, .ref q13])), (q9, .inl (cI, 40, .inl (upd oc k 1))), (q6, .inl (cZ, 40, .inl (upd cb k 0))), (q8, .inl (cJ, 40, .inr (.inl gb)))]) [0, 3, 5, 7] rfl) (ci := 3) (q0 := 0) rfl rfl, fun U hU hW => ⟨rfl, by rw [hU], by rw [hU]; exact (hP.sub (ws' := [(h, .inr (3, [.ref hB, .ref q1, .ref q2, .ref q3, .ref q4, .ref q5, .ref q6, .ref q7, .ref q8, .ref q9, .ref q10, .ref q11, .ref q12, .ref q13])), (q9, .inl (cI, 40, .inl (upd oc k 1))), (q6, .inl (cZ, 40, .inl (upd cb k 0))), (q8, .inl (cJ, 40, .inr (.inl gb)))]) [0, 3, 5, 7] rfl), hE.warm2 hW, (hD.sub (ws' := [(h, .inr (3, [.ref hB, .ref q1, .ref q2, .ref q3, .ref q4, .ref q5, .ref q6, .ref q7, .ref q8, .ref q9, .ref q10, .ref q11, .ref q12, .ref q13])), (q9, .inl (cI, 40, .inl (upd oc k 1))), (q6, .inl (cZ, 40, .inl (upd cb k 0))), (q8, .inl (cJ, 40, .inr (.inl gb)))]) [0, 3, 5, 7] (by decide) rfl).weaken (fun _ _ _ _ => trivial)⟩⟩ rfl rfl hl.1 rfl (lv_room (Nat.le_of_ble_eq_true rfl)) dX3_work_182 ⟨Nat.zero_le _, Nat.zero_le _⟩) (fun H locs hP hD hS => ?_)
      have w_outcomes : (upd (upd oc k 1) k 2) = (upd oc k (wOut (ok k) (ra k) (rb k) (Int32.toInt64 (ck k)))) := by simp [wOut, wChA, wChB, wGA, wGB, upd_upd, updL_updL, n0, n1, n2, n3, n4, c172]
      have w_changesA : (upd ca k 0) = (upd ca k (wChA (ok k) (ak k) (bk k) (ra k) (Int32.toInt64 (ck k)))) := by simp [wOut, wChA, wChB, wGA, wGB, upd_upd, updL_updL, n0, n1, n2, n3, n4, c172]
      have w_changesB : (upd cb k 0) = (upd cb k (wChB (ok k) (ak k) (bk k) (ra k) (rb k) (Int32.toInt64 (ck k)))) := by simp [wOut, wChA, wChB, wGA, wGB, upd_upd, updL_updL, n0, n1, n2, n3, n4, c172]
      have w_givesA : ga = (if wChA (ok k) (ak k) (bk k) (ra k) (Int32.toInt64 (ck k)) = 1 then vp_updL ga k (wGA (ok k) (ra k) (rb k) (Int32.toInt64 (ck k))) else ga) := by simp [wOut, wChA, wChB, wGA, wGB, upd_upd, updL_updL, n0, n1, n2, n3, n4, c172]
      have w_givesB : gb = (if wChB (ok k) (ak k) (bk k) (ra k) (rb k) (Int32.toInt64 (ck k)) = 1 then vp_updL gb k (wGB (ok k) (ra k) (rb k) (Int32.toInt64 (ck k))) else gb) := by simp [wOut, wChA, wChB, wGA, wGB, upd_upd, updL_updL, n0, n1, n2, n3, n4, c172]
      rw [w_outcomes, w_changesA, w_changesB, w_givesA, w_givesB] at hP hD
      exact W.vret hx hb hr (fun t ht hW => ⟨⟨(), rfl, trivial, by rw [ht]; exact hP, by exact hD⟩, hS.F ht⟩) hS.2.2 dX3_work_185
    · have c172 := (lg_cmp_eq _ _).mp c172
      refine lv_iconst (v := 1) hx hb dX3_work_175 (by decide) ?_
      refine lv_goto (tgt := 180) hx hb dX3_work_176 (by decide) ?_
      refine lv_lload hx hb dX3_work_180 (lv_at hl 0 rfl) ?_
      refine x_callv (wc := [(h, .inr (3, [.ref hB, .ref q1, .ref q2, .ref q3, .ref q4, .ref q5, .ref q6, .ref q7, .ref q8, .ref q9, .ref q10, .ref q11, .ref q12, .ref q13])), (q9, .inl (cI, 40, .inl (upd oc k 1))), (q6, .inl (cZ, 40, .inl (upd cb k 0))), (q8, .inl (cJ, 40, .inr (.inl gb)))]) (wc' := [(h, .inr (3, [.ref hB, .ref q1, .ref q2, .ref q3, .ref q4, .ref q5, .ref q6, .ref q7, .ref q8, .ref q9, .ref q10, .ref q11, .ref q12, .ref q13])), (q9, .inl (cI, 40, .inl (upd oc k 1))), (q6, .inl (cZ, 40, .inl (upd (upd cb k 0) k 1))), (q8, .inl (cJ, 40, .inr (.inl (vp_updL gb k (Int32.toInt64 (ck k))))))]) (wr := [(q3, .inl (cJ, 40, .inr (.inl ra))), (q4, .inl (cJ, 40, .inr (.inl rb))), (q5, .inl (cZ, 40, .inl (upd ca k 0))), (q7, .inl (cJ, 40, .inr (.inl ga))), (hB, .inr (0, [.int bz, .ref b1, .ref b2, .ref b3, .ref b4, .ref b5, .ref b6])), (b1, .inl (cI, 40, .inl ok)), (b2, .inl (cI, 40, .inl ak)), (b3, .inl (cI, 40, .inl bk)), (b4, .inl (cI, 40, .inl ck))]) (ws' := [(h, .inr (3, [.ref hB, .ref q1, .ref q2, .ref q3, .ref q4, .ref q5, .ref q6, .ref q7, .ref q8, .ref q9, .ref q10, .ref q11, .ref q12, .ref q13])), (q3, .inl (cJ, 40, .inr (.inl ra))), (q4, .inl (cJ, 40, .inr (.inl rb))), (q9, .inl (cI, 40, .inl (upd oc k 1))), (q5, .inl (cZ, 40, .inl (upd ca k 0))), (q6, .inl (cZ, 40, .inl (upd (upd cb k 0) k 1))), (q7, .inl (cJ, 40, .inr (.inl ga))), (q8, .inl (cJ, 40, .inr (.inl (vp_updL gb k (Int32.toInt64 (ck k)))))), (hB, .inr (0, [.int bz, .ref b1, .ref b2, .ref b3, .ref b4, .ref b5, .ref b6])), (b1, .inl (cI, 40, .inl ok)), (b2, .inl (cI, 40, .inl ak)), (b3, .inl (cI, 40, .inl bk)), (b4, .inl (cI, 40, .inl ck))]) hP hD hS hA [0, 3, 5, 7] [1, 2, 4, 6, 8, 9, 10, 11, 12] rfl rfl (by decide) (by decide) [9, 0, 1, 10, 2, 11, 3, 12, 4, 5, 6, 7, 8] (by decide) rfl (va_runV (As := [.int (nI k), .int 1, .long (Int32.toInt64 (ck k))]) (rest := []) ⟨hx, hb, hml, hown, hts⟩ (k_meet1 l D cI cJ cZ H.size h hB q1 q2 q3 q4 q5 q6 q7 q8 q9 q10 q11 q12 q13 (upd oc k 1) (upd cb k 0) gb k hk (Int32.toInt64 (ck k))) (cwV 3 hts gX3_work_X3_meet rfl rfl rfl (by decide +kernel) ⟨Nat.le_of_ble_eq_true rfl, Nat.le_of_ble_eq_true rfl⟩) ⟨bl_rw, va_recv hK (hP.sub (ws' := [(h, .inr (3, [.ref hB, .ref q1, .ref q2, .ref q3, .ref q4, .ref q5, .ref q6, .ref q7, .ref q8, .ref q9, .ref q10, .ref q11, .ref q12, .ref q13])), (q9, .inl (cI, 40, .inl (upd oc k 1))), (q6, .inl (cZ, 40, .inl (upd cb k 0))), (q8, .inl (cJ, 40, .inr (.inl gb)))]) [0, 3, 5, 7] rfl) (ci := 3) (q0 := 0) rfl rfl, fun U hU hW => ⟨rfl, by rw [hU], by rw [hU]; exact (hP.sub (ws' := [(h, .inr (3, [.ref hB, .ref q1, .ref q2, .ref q3, .ref q4, .ref q5, .ref q6, .ref q7, .ref q8, .ref q9, .ref q10, .ref q11, .ref q12, .ref q13])), (q9, .inl (cI, 40, .inl (upd oc k 1))), (q6, .inl (cZ, 40, .inl (upd cb k 0))), (q8, .inl (cJ, 40, .inr (.inl gb)))]) [0, 3, 5, 7] rfl), hE.warm2 hW, (hD.sub (ws' := [(h, .inr (3, [.ref hB, .ref q1, .ref q2, .ref q3, .ref q4, .ref q5, .ref q6, .ref q7, .ref q8, .ref q9, .ref q10, .ref q11, .ref q12, .ref q13])), (q9, .inl (cI, 40, .inl (upd oc k 1))), (q6, .inl (cZ, 40, .inl (upd cb k 0))), (q8, .inl (cJ, 40, .inr (.inl gb)))]) [0, 3, 5, 7] (by decide) rfl).weaken (fun _ _ _ _ => trivial)⟩⟩ rfl rfl hl.1 rfl (lv_room (Nat.le_of_ble_eq_true rfl)) dX3_work_182 ⟨Nat.zero_le _, Nat.zero_le _⟩) (fun H locs hP hD hS => ?_)
      have w_outcomes : (upd oc k 1) = (upd oc k (wOut (ok k) (ra k) (rb k) (Int32.toInt64 (ck k)))) := by simp [wOut, wChA, wChB, wGA, wGB, upd_upd, updL_updL, n0, n1, n2, n3, n4, c172]
      have w_changesA : (upd ca k 0) = (upd ca k (wChA (ok k) (ak k) (bk k) (ra k) (Int32.toInt64 (ck k)))) := by simp [wOut, wChA, wChB, wGA, wGB, upd_upd, updL_updL, n0, n1, n2, n3, n4, c172]
      have w_changesB : (upd (upd cb k 0) k 1) = (upd cb k (wChB (ok k) (ak k) (bk k) (ra k) (rb k) (Int32.toInt64 (ck k)))) := by simp [wOut, wChA, wChB, wGA, wGB, upd_upd, updL_updL, n0, n1, n2, n3, n4, c172]
      have w_givesA : ga = (if wChA (ok k) (ak k) (bk k) (ra k) (Int32.toInt64 (ck k)) = 1 then vp_updL ga k (wGA (ok k) (ra k) (rb k) (Int32.toInt64 (ck k))) else ga) := by simp [wOut, wChA, wChB, wGA, wGB, upd_upd, updL_updL, n0, n1, n2, n3, n4, c172]
      have w_givesB : (vp_updL gb k (Int32.toInt64 (ck k))) = (if wChB (ok k) (ak k) (bk k) (ra k) (rb k) (Int32.toInt64 (ck k)) = 1 then vp_updL gb k (wGB (ok k) (ra k) (rb k) (Int32.toInt64 (ck k))) else gb) := by simp [wOut, wChA, wChB, wGA, wGB, upd_upd, updL_updL, n0, n1, n2, n3, n4, c172]
      rw [w_outcomes, w_changesA, w_changesB, w_givesA, w_givesB] at hP hD
      exact W.vret hx hb hr (fun t ht hW => ⟨⟨(), rfl, trivial, by rw [ht]; exact hP, by exact hD⟩, hS.F ht⟩) hS.2.2 dX3_work_185
set_option maxHeartbeats 4000000 in
set_option maxRecDepth 100000 in
theorem k_doesLastStep (l : Launch) (D : va_G) (cI cJ cZ : ClassId) (sz : Nat) (h hB q1 q2 q3 q4 q5 q6 q7 q8 q9 q10 q11 q12 q13 : Nat) (st sl oc ca cb eb : Nat → Int32) (ra rb ga gb : Nat → Int64) (b1 b2 b3 b4 b5 b6 : Nat) (bz : Int32) (ok ak bk ck : Nat → Int32) (k : Nat) (hk : k < 40) (w : Int32) : Met l yX3_doesLastStep wsX3_doesLastStep ({ frames := 3, cells := 0, slots := 0, locals := 77 }) (PcRW [.ref h, .int (nI k), .int w] sz D cI cJ cZ [(h, .inr (3, [.ref hB, .ref q1, .ref q2, .ref q3, .ref q4, .ref q5, .ref q6, .ref q7, .ref q8, .ref q9, .ref q10, .ref q11, .ref q12, .ref q13])), (q1, .inl (cI, 40, .inl st)), (q2, .inl (cI, 40, .inl sl)), (q3, .inl (cJ, 40, .inr (.inl ra))), (q4, .inl (cJ, 40, .inr (.inl rb))), (q9, .inl (cI, 40, .inl oc)), (q5, .inl (cZ, 40, .inl ca)), (q6, .inl (cZ, 40, .inl cb)), (q7, .inl (cJ, 40, .inr (.inl ga))), (q8, .inl (cJ, 40, .inr (.inl gb))), (q13, .inl (cI, 40, .inl eb)), (hB, .inr (0, [.int bz, .ref b1, .ref b2, .ref b3, .ref b4, .ref b5, .ref b6])), (b1, .inl (cI, 40, .inl ok)), (b2, .inl (cI, 40, .inl ak)), (b3, .inl (cI, 40, .inl bk)), (b4, .inl (cI, 40, .inl ck))]) (QcI (fun r => r = if 0 < sl k - 1 then 0 else 1) D (va_A [(h, .inr (3, [.ref hB, .ref q1, .ref q2, .ref q3, .ref q4, .ref q5, .ref q6, .ref q7, .ref q8, .ref q9, .ref q10, .ref q11, .ref q12, .ref q13])), (q1, .inl (cI, 40, .inl st)), (q2, .inl (cI, 40, .inl sl)), (q3, .inl (cJ, 40, .inr (.inl ra))), (q4, .inl (cJ, 40, .inr (.inl rb))), (q9, .inl (cI, 40, .inl oc)), (q5, .inl (cZ, 40, .inl ca)), (q6, .inl (cZ, 40, .inl cb)), (q7, .inl (cJ, 40, .inr (.inl ga))), (q8, .inl (cJ, 40, .inr (.inl gb))), (q13, .inl (cI, 40, .inl eb)), (hB, .inr (0, [.int bz, .ref b1, .ref b2, .ref b3, .ref b4, .ref b5, .ref b6])), (b1, .inl (cI, 40, .inl ok)), (b2, .inl (cI, 40, .inl ak)), (b3, .inl (cI, 40, .inl bk)), (b4, .inl (cI, 40, .inl ck))] sz) [(h, .inr (3, [.ref hB, .ref q1, .ref q2, .ref q3, .ref q4, .ref q5, .ref q6, .ref q7, .ref q8, .ref q9, .ref q10, .ref q11, .ref q12, .ref q13])), (q1, .inl (cI, 40, .inl (if 0 < sl k - 1 then st else upd st k 2))), (q2, .inl (cI, 40, .inl (upd sl k (sl k - 1)))), (q3, .inl (cJ, 40, .inr (.inl ra))), (q4, .inl (cJ, 40, .inr (.inl rb))), (q9, .inl (cI, 40, .inl (if 0 < sl k - 1 then oc else upd oc k (wOut (ok k) (ra k) (rb k) (Int32.toInt64 (ck k)))))), (q5, .inl (cZ, 40, .inl (if 0 < sl k - 1 then ca else upd ca k (wChA (ok k) (ak k) (bk k) (ra k) (Int32.toInt64 (ck k)))))), (q6, .inl (cZ, 40, .inl (if 0 < sl k - 1 then cb else upd cb k (wChB (ok k) (ak k) (bk k) (ra k) (rb k) (Int32.toInt64 (ck k)))))), (q7, .inl (cJ, 40, .inr (.inl (if 0 < sl k - 1 then ga else if wChA (ok k) (ak k) (bk k) (ra k) (Int32.toInt64 (ck k)) = 1 then vp_updL ga k (wGA (ok k) (ra k) (rb k) (Int32.toInt64 (ck k))) else ga)))), (q8, .inl (cJ, 40, .inr (.inl (if 0 < sl k - 1 then gb else if wChB (ok k) (ak k) (bk k) (ra k) (rb k) (Int32.toInt64 (ck k)) = 1 then vp_updL gb k (wGB (ok k) (ra k) (rb k) (Int32.toInt64 (ck k))) else gb)))), (q13, .inl (cI, 40, .inl (if 0 < sl k - 1 then eb else upd eb k w))), (hB, .inr (0, [.int bz, .ref b1, .ref b2, .ref b3, .ref b4, .ref b5, .ref b6])), (b1, .inl (cI, 40, .inl ok)), (b2, .inl (cI, 40, .inl ak)), (b3, .inl (cI, 40, .inl bk)), (b4, .inl (cI, 40, .inl ck))]) 0 0 (va_A [(h, .inr (3, [.ref hB, .ref q1, .ref q2, .ref q3, .ref q4, .ref q5, .ref q6, .ref q7, .ref q8, .ref q9, .ref q10, .ref q11, .ref q12, .ref q13])), (q1, .inl (cI, 40, .inl st)), (q2, .inl (cI, 40, .inl sl)), (q3, .inl (cJ, 40, .inr (.inl ra))), (q4, .inl (cJ, 40, .inr (.inl rb))), (q9, .inl (cI, 40, .inl oc)), (q5, .inl (cZ, 40, .inl ca)), (q6, .inl (cZ, 40, .inl cb)), (q7, .inl (cJ, 40, .inr (.inl ga))), (q8, .inl (cJ, 40, .inr (.inl gb))), (q13, .inl (cI, 40, .inl eb)), (hB, .inr (0, [.int bz, .ref b1, .ref b2, .ref b3, .ref b4, .ref b5, .ref b6])), (b1, .inl (cI, 40, .inl ok)), (b2, .inl (cI, 40, .inl ak)), (b3, .inl (cI, 40, .inl bk)), (b4, .inl (cI, 40, .inl ck))] sz) := by
  refine Met.ofW (cc := cX3_doesLastStep) (maxL := 3) (ret := some .boolean) (by decide) rfl ?_
  intro p e s m args below meth c s₁ B hml hv
  obtain ⟨rfl, hsz, hP, hE, hD0⟩ := hv
  have hx := B.exec
  have hb := B.bytes
  have hr := B.returns
  have hts := atoms_spec (ws := wsX3_doesLastStep) B.pre
  have hown : s.vm.findClass RX3 = some m.cls := findClass_of_methodNamed B.named
  have hlocks := B.notSynchronized
  have hK := hE.1
  subst hsz
  have hD := hD0.self (sz := s.heap.size)
  generalize hAe : va_A [(h, .inr (3, [.ref hB, .ref q1, .ref q2, .ref q3, .ref q4, .ref q5, .ref q6, .ref q7, .ref q8, .ref q9, .ref q10, .ref q11, .ref q12, .ref q13])), (q1, .inl (cI, 40, .inl st)), (q2, .inl (cI, 40, .inl sl)), (q3, .inl (cJ, 40, .inr (.inl ra))), (q4, .inl (cJ, 40, .inr (.inl rb))), (q9, .inl (cI, 40, .inl oc)), (q5, .inl (cZ, 40, .inl ca)), (q6, .inl (cZ, 40, .inl cb)), (q7, .inl (cJ, 40, .inr (.inl ga))), (q8, .inl (cJ, 40, .inr (.inl gb))), (q13, .inl (cI, 40, .inl eb)), (hB, .inr (0, [.int bz, .ref b1, .ref b2, .ref b3, .ref b4, .ref b5, .ref b6])), (b1, .inl (cI, 40, .inl ok)), (b2, .inl (cI, 40, .inl ak)), (b3, .inl (cI, 40, .inl bk)), (b4, .inl (cI, 40, .inl ck))] s.heap.size = A at hD ⊢
  have hA : ∀ q : Nat, s.heap.size ≤ q → A q := fun q h => by rw [← hAe]; exact Or.inr h
  have hS : va_S A s.heap s.heap [] := va_S.rf
  have hl := lv_entry ([.ref h, .int (nI k), .int w]) (n := 3) (Nat.le_of_ble_eq_true rfl)
  rw [lg_entry_eq]
  generalize (lg_sl ([.ref h, .int (nI k), .int w]) ++ List.replicate (3 - (lg_sl ([.ref h, .int (nI k), .int w])).length) Slot.unset).toArray = ls at hl ⊢
  have hl : lv_has ls 3 [(0, .ref h), (1, .int (nI k)), (2, .int w)] := hl
  have hinX3 : ∀ w ∈ u_ws RX3 TX3 14, w ∈ wsX3_doesLastStep := fun _ h => List.mem_cons_of_mem _ (List.mem_append_left _ (List.mem_append_right _ h))
  refine lv_aload_n hx hb dX3_doesLastStep_0 rfl (lv_at hl 0 rfl) ?_
  refine va_get (D := D) (ci := 3) (v := .ref q2) (C := RX3) (T := TX3) (N := 14) hx hb hts hinX3 hown hK hP 0 rfl rfl 2 (by decide) (hts (.fieldLink RX3 15 "LedgerShares$Sheet" "stepsLeft" "[I") (List.mem_of_getElem? (i := 1) rfl)) (fun _ h9 => h9) rfl dX3_doesLastStep_1 ?_
  refine lv_iload_n hx hb dX3_doesLastStep_4 rfl (lv_at hl 1 rfl) ?_
  refine lv_dup2_11 hx hb dX3_doesLastStep_5 rfl rfl ?_
  refine x_iald hx hb hE hP 2 rfl (k) hk (by decide) (rfl) dX3_doesLastStep_6 ?_
  refine lv_iconst (v := 1) hx hb dX3_doesLastStep_7 (by decide) ?_
  refine lv_isub hx hb dX3_doesLastStep_8 ?_
  refine x_iast hx hb hE hP hD hS 2 rfl (k) hk (by decide) (rfl) (ws' := [(h, .inr (3, [.ref hB, .ref q1, .ref q2, .ref q3, .ref q4, .ref q5, .ref q6, .ref q7, .ref q8, .ref q9, .ref q10, .ref q11, .ref q12, .ref q13])), (q1, .inl (cI, 40, .inl st)), (q2, .inl (cI, 40, .inl (upd sl k ((sl k) - 1)))), (q3, .inl (cJ, 40, .inr (.inl ra))), (q4, .inl (cJ, 40, .inr (.inl rb))), (q9, .inl (cI, 40, .inl oc)), (q5, .inl (cZ, 40, .inl ca)), (q6, .inl (cZ, 40, .inl cb)), (q7, .inl (cJ, 40, .inr (.inl ga))), (q8, .inl (cJ, 40, .inr (.inl gb))), (q13, .inl (cI, 40, .inl eb)), (hB, .inr (0, [.int bz, .ref b1, .ref b2, .ref b3, .ref b4, .ref b5, .ref b6])), (b1, .inl (cI, 40, .inl ok)), (b2, .inl (cI, 40, .inl ak)), (b3, .inl (cI, 40, .inl bk)), (b4, .inl (cI, 40, .inl ck))]) (rfl) dX3_doesLastStep_9 (fun H locs hP hD hS => ?_)
  refine lv_aload_n hx hb dX3_doesLastStep_10 rfl (lv_at hl 0 rfl) ?_
  refine va_get (D := D) (ci := 3) (v := .ref q2) (C := RX3) (T := TX3) (N := 14) hx hb hts hinX3 hown hK hP 0 rfl rfl 2 (by decide) (hts (.fieldLink RX3 15 "LedgerShares$Sheet" "stepsLeft" "[I") (List.mem_of_getElem? (i := 1) rfl)) (fun _ h9 => h9) rfl dX3_doesLastStep_11 ?_
  refine lv_iload_n hx hb dX3_doesLastStep_14 rfl (lv_at hl 1 rfl) ?_
  refine x_iald hx hb hE hP 2 rfl (k) hk (by decide) (rfl) dX3_doesLastStep_15 ?_
  refine x_topi (y := sl k - 1) (upd_s _ _ _) ?_
  refine lv_if_le (tgt := 21) hx hb dX3_doesLastStep_16 (by decide) (fun c16 => ?_) (fun c16 => ?_)
  · have g16 : ¬ 0 < sl k - 1 := Int32.not_lt.mpr c16
    refine lv_aload_n hx hb dX3_doesLastStep_21 rfl (lv_at hl 0 rfl) ?_
    refine lv_iload_n hx hb dX3_doesLastStep_22 rfl (lv_at hl 1 rfl) ?_
    refine x_callv (wc := [(h, .inr (3, [.ref hB, .ref q1, .ref q2, .ref q3, .ref q4, .ref q5, .ref q6, .ref q7, .ref q8, .ref q9, .ref q10, .ref q11, .ref q12, .ref q13])), (q3, .inl (cJ, 40, .inr (.inl ra))), (q4, .inl (cJ, 40, .inr (.inl rb))), (q9, .inl (cI, 40, .inl oc)), (q5, .inl (cZ, 40, .inl ca)), (q6, .inl (cZ, 40, .inl cb)), (q7, .inl (cJ, 40, .inr (.inl ga))), (q8, .inl (cJ, 40, .inr (.inl gb))), (hB, .inr (0, [.int bz, .ref b1, .ref b2, .ref b3, .ref b4, .ref b5, .ref b6])), (b1, .inl (cI, 40, .inl ok)), (b2, .inl (cI, 40, .inl ak)), (b3, .inl (cI, 40, .inl bk)), (b4, .inl (cI, 40, .inl ck))]) (wc' := [(h, .inr (3, [.ref hB, .ref q1, .ref q2, .ref q3, .ref q4, .ref q5, .ref q6, .ref q7, .ref q8, .ref q9, .ref q10, .ref q11, .ref q12, .ref q13])), (q3, .inl (cJ, 40, .inr (.inl ra))), (q4, .inl (cJ, 40, .inr (.inl rb))), (q9, .inl (cI, 40, .inl (upd oc k (wOut (ok k) (ra k) (rb k) (Int32.toInt64 (ck k)))))), (q5, .inl (cZ, 40, .inl (upd ca k (wChA (ok k) (ak k) (bk k) (ra k) (Int32.toInt64 (ck k)))))), (q6, .inl (cZ, 40, .inl (upd cb k (wChB (ok k) (ak k) (bk k) (ra k) (rb k) (Int32.toInt64 (ck k)))))), (q7, .inl (cJ, 40, .inr (.inl (if wChA (ok k) (ak k) (bk k) (ra k) (Int32.toInt64 (ck k)) = 1 then vp_updL ga k (wGA (ok k) (ra k) (rb k) (Int32.toInt64 (ck k))) else ga)))), (q8, .inl (cJ, 40, .inr (.inl (if wChB (ok k) (ak k) (bk k) (ra k) (rb k) (Int32.toInt64 (ck k)) = 1 then vp_updL gb k (wGB (ok k) (ra k) (rb k) (Int32.toInt64 (ck k))) else gb)))), (hB, .inr (0, [.int bz, .ref b1, .ref b2, .ref b3, .ref b4, .ref b5, .ref b6])), (b1, .inl (cI, 40, .inl ok)), (b2, .inl (cI, 40, .inl ak)), (b3, .inl (cI, 40, .inl bk)), (b4, .inl (cI, 40, .inl ck))]) (wr := [(q1, .inl (cI, 40, .inl st)), (q2, .inl (cI, 40, .inl (upd sl k ((sl k) - 1)))), (q13, .inl (cI, 40, .inl eb))]) (ws' := [(h, .inr (3, [.ref hB, .ref q1, .ref q2, .ref q3, .ref q4, .ref q5, .ref q6, .ref q7, .ref q8, .ref q9, .ref q10, .ref q11, .ref q12, .ref q13])), (q1, .inl (cI, 40, .inl st)), (q2, .inl (cI, 40, .inl (upd sl k ((sl k) - 1)))), (q3, .inl (cJ, 40, .inr (.inl ra))), (q4, .inl (cJ, 40, .inr (.inl rb))), (q9, .inl (cI, 40, .inl (upd oc k (wOut (ok k) (ra k) (rb k) (Int32.toInt64 (ck k)))))), (q5, .inl (cZ, 40, .inl (upd ca k (wChA (ok k) (ak k) (bk k) (ra k) (Int32.toInt64 (ck k)))))), (q6, .inl (cZ, 40, .inl (upd cb k (wChB (ok k) (ak k) (bk k) (ra k) (rb k) (Int32.toInt64 (ck k)))))), (q7, .inl (cJ, 40, .inr (.inl (if wChA (ok k) (ak k) (bk k) (ra k) (Int32.toInt64 (ck k)) = 1 then vp_updL ga k (wGA (ok k) (ra k) (rb k) (Int32.toInt64 (ck k))) else ga)))), (q8, .inl (cJ, 40, .inr (.inl (if wChB (ok k) (ak k) (bk k) (ra k) (rb k) (Int32.toInt64 (ck k)) = 1 then vp_updL gb k (wGB (ok k) (ra k) (rb k) (Int32.toInt64 (ck k))) else gb)))), (q13, .inl (cI, 40, .inl eb)), (hB, .inr (0, [.int bz, .ref b1, .ref b2, .ref b3, .ref b4, .ref b5, .ref b6])), (b1, .inl (cI, 40, .inl ok)), (b2, .inl (cI, 40, .inl ak)), (b3, .inl (cI, 40, .inl bk)), (b4, .inl (cI, 40, .inl ck))]) hP hD hS hA [0, 3, 4, 5, 6, 7, 8, 9, 11, 12, 13, 14, 15] [1, 2, 10] rfl rfl (by decide) (by decide) [3, 0, 1, 4, 5, 6, 7, 8, 9, 10, 2, 11, 12, 13, 14, 15] (by decide) rfl (va_runV (As := [.int (nI k)]) (rest := []) ⟨hx, hb, hml, hown, hts⟩ (k_work l D cI cJ cZ H.size h hB q1 q2 q3 q4 q5 q6 q7 q8 q9 q10 q11 q12 q13 oc ca cb ra rb ga gb b1 b2 b3 b4 b5 b6 bz ok ak bk ck k hk) (cwV 1 hts gX3_doesLastStep_X3_work rfl rfl rfl (by decide +kernel) ⟨Nat.le_of_ble_eq_true rfl, Nat.le_of_ble_eq_true rfl⟩) ⟨bl_rw, va_recv hK (hP.sub (ws' := [(h, .inr (3, [.ref hB, .ref q1, .ref q2, .ref q3, .ref q4, .ref q5, .ref q6, .ref q7, .ref q8, .ref q9, .ref q10, .ref q11, .ref q12, .ref q13])), (q3, .inl (cJ, 40, .inr (.inl ra))), (q4, .inl (cJ, 40, .inr (.inl rb))), (q9, .inl (cI, 40, .inl oc)), (q5, .inl (cZ, 40, .inl ca)), (q6, .inl (cZ, 40, .inl cb)), (q7, .inl (cJ, 40, .inr (.inl ga))), (q8, .inl (cJ, 40, .inr (.inl gb))), (hB, .inr (0, [.int bz, .ref b1, .ref b2, .ref b3, .ref b4, .ref b5, .ref b6])), (b1, .inl (cI, 40, .inl ok)), (b2, .inl (cI, 40, .inl ak)), (b3, .inl (cI, 40, .inl bk)), (b4, .inl (cI, 40, .inl ck))]) [0, 3, 4, 5, 6, 7, 8, 9, 11, 12, 13, 14, 15] rfl) (ci := 3) (q0 := 0) rfl rfl, fun U hU hW => ⟨rfl, by rw [hU], by rw [hU]; exact (hP.sub (ws' := [(h, .inr (3, [.ref hB, .ref q1, .ref q2, .ref q3, .ref q4, .ref q5, .ref q6, .ref q7, .ref q8, .ref q9, .ref q10, .ref q11, .ref q12, .ref q13])), (q3, .inl (cJ, 40, .inr (.inl ra))), (q4, .inl (cJ, 40, .inr (.inl rb))), (q9, .inl (cI, 40, .inl oc)), (q5, .inl (cZ, 40, .inl ca)), (q6, .inl (cZ, 40, .inl cb)), (q7, .inl (cJ, 40, .inr (.inl ga))), (q8, .inl (cJ, 40, .inr (.inl gb))), (hB, .inr (0, [.int bz, .ref b1, .ref b2, .ref b3, .ref b4, .ref b5, .ref b6])), (b1, .inl (cI, 40, .inl ok)), (b2, .inl (cI, 40, .inl ak)), (b3, .inl (cI, 40, .inl bk)), (b4, .inl (cI, 40, .inl ck))]) [0, 3, 4, 5, 6, 7, 8, 9, 11, 12, 13, 14, 15] rfl), hE.warm2 hW, (hD.sub (ws' := [(h, .inr (3, [.ref hB, .ref q1, .ref q2, .ref q3, .ref q4, .ref q5, .ref q6, .ref q7, .ref q8, .ref q9, .ref q10, .ref q11, .ref q12, .ref q13])), (q3, .inl (cJ, 40, .inr (.inl ra))), (q4, .inl (cJ, 40, .inr (.inl rb))), (q9, .inl (cI, 40, .inl oc)), (q5, .inl (cZ, 40, .inl ca)), (q6, .inl (cZ, 40, .inl cb)), (q7, .inl (cJ, 40, .inr (.inl ga))), (q8, .inl (cJ, 40, .inr (.inl gb))), (hB, .inr (0, [.int bz, .ref b1, .ref b2, .ref b3, .ref b4, .ref b5, .ref b6])), (b1, .inl (cI, 40, .inl ok)), (b2, .inl (cI, 40, .inl ak)), (b3, .inl (cI, 40, .inl bk)), (b4, .inl (cI, 40, .inl ck))]) [0, 3, 4, 5, 6, 7, 8, 9, 11, 12, 13, 14, 15] (by decide) rfl).weaken (fun _ _ _ _ => trivial)⟩⟩ rfl rfl hl.1 rfl (lv_room (Nat.le_of_ble_eq_true rfl)) dX3_doesLastStep_23 ⟨Nat.zero_le _, Nat.zero_le _⟩) (fun H locs hP hD hS => ?_)
    refine lv_aload_n hx hb dX3_doesLastStep_26 rfl (lv_at hl 0 rfl) ?_
    refine va_get (D := D) (ci := 3) (v := .ref q1) (C := RX3) (T := TX3) (N := 14) hx hb hts hinX3 hown hK hP 0 rfl rfl 1 (by decide) (hts (.fieldLink RX3 9 "LedgerShares$Sheet" "stages" "[I") (List.mem_of_getElem? (i := 2) rfl)) (fun _ h9 => h9) rfl dX3_doesLastStep_27 ?_
    refine lv_iload_n hx hb dX3_doesLastStep_30 rfl (lv_at hl 1 rfl) ?_
    refine lv_iconst (v := 2) hx hb dX3_doesLastStep_31 (by decide) ?_
    refine x_iast hx hb hE hP hD hS 1 rfl (k) hk (by decide) (rfl) (ws' := [(h, .inr (3, [.ref hB, .ref q1, .ref q2, .ref q3, .ref q4, .ref q5, .ref q6, .ref q7, .ref q8, .ref q9, .ref q10, .ref q11, .ref q12, .ref q13])), (q1, .inl (cI, 40, .inl (upd st k 2))), (q2, .inl (cI, 40, .inl (upd sl k ((sl k) - 1)))), (q3, .inl (cJ, 40, .inr (.inl ra))), (q4, .inl (cJ, 40, .inr (.inl rb))), (q9, .inl (cI, 40, .inl (upd oc k (wOut (ok k) (ra k) (rb k) (Int32.toInt64 (ck k)))))), (q5, .inl (cZ, 40, .inl (upd ca k (wChA (ok k) (ak k) (bk k) (ra k) (Int32.toInt64 (ck k)))))), (q6, .inl (cZ, 40, .inl (upd cb k (wChB (ok k) (ak k) (bk k) (ra k) (rb k) (Int32.toInt64 (ck k)))))), (q7, .inl (cJ, 40, .inr (.inl (if wChA (ok k) (ak k) (bk k) (ra k) (Int32.toInt64 (ck k)) = 1 then vp_updL ga k (wGA (ok k) (ra k) (rb k) (Int32.toInt64 (ck k))) else ga)))), (q8, .inl (cJ, 40, .inr (.inl (if wChB (ok k) (ak k) (bk k) (ra k) (rb k) (Int32.toInt64 (ck k)) = 1 then vp_updL gb k (wGB (ok k) (ra k) (rb k) (Int32.toInt64 (ck k))) else gb)))), (q13, .inl (cI, 40, .inl eb)), (hB, .inr (0, [.int bz, .ref b1, .ref b2, .ref b3, .ref b4, .ref b5, .ref b6])), (b1, .inl (cI, 40, .inl ok)), (b2, .inl (cI, 40, .inl ak)), (b3, .inl (cI, 40, .inl bk)), (b4, .inl (cI, 40, .inl ck))]) (rfl) dX3_doesLastStep_32 (fun H locs hP hD hS => ?_)
    refine lv_aload_n hx hb dX3_doesLastStep_33 rfl (lv_at hl 0 rfl) ?_
    refine va_get (D := D) (ci := 3) (v := .ref q13) (C := RX3) (T := TX3) (N := 14) hx hb hts hinX3 hown hK hP 0 rfl rfl 13 (by decide) (hts (.fieldLink RX3 50 "LedgerShares$Sheet" "endedBy" "[I") (List.mem_of_getElem? (i := 3) rfl)) (fun _ h9 => h9) rfl dX3_doesLastStep_34 ?_
    refine lv_iload_n hx hb dX3_doesLastStep_37 rfl (lv_at hl 1 rfl) ?_
    refine lv_iload_n hx hb dX3_doesLastStep_38 rfl (lv_at hl 2 rfl) ?_
    refine x_iast hx hb hE hP hD hS 10 rfl (k) hk (by decide) (rfl) (ws' := [(h, .inr (3, [.ref hB, .ref q1, .ref q2, .ref q3, .ref q4, .ref q5, .ref q6, .ref q7, .ref q8, .ref q9, .ref q10, .ref q11, .ref q12, .ref q13])), (q1, .inl (cI, 40, .inl (upd st k 2))), (q2, .inl (cI, 40, .inl (upd sl k ((sl k) - 1)))), (q3, .inl (cJ, 40, .inr (.inl ra))), (q4, .inl (cJ, 40, .inr (.inl rb))), (q9, .inl (cI, 40, .inl (upd oc k (wOut (ok k) (ra k) (rb k) (Int32.toInt64 (ck k)))))), (q5, .inl (cZ, 40, .inl (upd ca k (wChA (ok k) (ak k) (bk k) (ra k) (Int32.toInt64 (ck k)))))), (q6, .inl (cZ, 40, .inl (upd cb k (wChB (ok k) (ak k) (bk k) (ra k) (rb k) (Int32.toInt64 (ck k)))))), (q7, .inl (cJ, 40, .inr (.inl (if wChA (ok k) (ak k) (bk k) (ra k) (Int32.toInt64 (ck k)) = 1 then vp_updL ga k (wGA (ok k) (ra k) (rb k) (Int32.toInt64 (ck k))) else ga)))), (q8, .inl (cJ, 40, .inr (.inl (if wChB (ok k) (ak k) (bk k) (ra k) (rb k) (Int32.toInt64 (ck k)) = 1 then vp_updL gb k (wGB (ok k) (ra k) (rb k) (Int32.toInt64 (ck k))) else gb)))), (q13, .inl (cI, 40, .inl (upd eb k w))), (hB, .inr (0, [.int bz, .ref b1, .ref b2, .ref b3, .ref b4, .ref b5, .ref b6])), (b1, .inl (cI, 40, .inl ok)), (b2, .inl (cI, 40, .inl ak)), (b3, .inl (cI, 40, .inl bk)), (b4, .inl (cI, 40, .inl ck))]) (rfl) dX3_doesLastStep_39 (fun H locs hP hD hS => ?_)
    refine lv_iconst (v := 1) hx hb dX3_doesLastStep_40 (by decide) ?_
    exact W.zret hx hb hr (by decide) (fun t ht hW => ⟨⟨_, (), rfl, (if_neg g16).symm, by rw [ht]; simp only [if_neg g16]; exact hP, by simp only [if_neg g16]; exact hD⟩, hS.F ht⟩) hS.2.2 dX3_doesLastStep_41
  · have g16 : 0 < sl k - 1 := Int32.not_le.mp c16
    refine lv_iconst (v := 0) hx hb dX3_doesLastStep_19 (by decide) ?_
    exact W.zret hx hb hr (by decide) (fun t ht hW => ⟨⟨_, (), rfl, (if_pos g16).symm, by rw [ht]; simp only [if_pos g16]; exact hP, by simp only [if_pos g16]; exact hD⟩, hS.F ht⟩) hS.2.2 dX3_doesLastStep_20
set_option maxHeartbeats 4000000 in
set_option maxRecDepth 100000 in
theorem k_waits (l : Launch) (D : va_G) (cI cJ cZ : ClassId) (h hB q1 q2 q3 q4 q5 q6 q7 q8 q9 q10 q11 q12 q13 : Nat) (st : Nat → Int32) (k : Nat) (hk : k < 40) : Met l yX3_waitsToBeKept wsX3_waitsToBeKept ({ frames := 1, cells := 0, slots := 0, locals := 22 }) (PcRO [.ref h, .int (nI k)] D cI cJ cZ [(h, .inr (3, [.ref hB, .ref q1, .ref q2, .ref q3, .ref q4, .ref q5, .ref q6, .ref q7, .ref q8, .ref q9, .ref q10, .ref q11, .ref q12, .ref q13])), (q1, .inl (cI, 40, .inl st))]) (vp_Si (fun r => r = if st k = 2 then 1 else 0)) 0 0 noF := by
  refine Met.ofW (cc := cX3_waitsToBeKept) (maxL := 2) (ret := some .boolean) (by decide) rfl ?_
  intro p e s m args below meth c s₁ B hml hv
  obtain ⟨rfl, hP, hE⟩ := hv
  have hx := B.exec
  have hb := B.bytes
  have hr := B.returns
  have hts := atoms_spec (ws := wsX3_waitsToBeKept) B.pre
  have hown : s.vm.findClass RX3 = some m.cls := findClass_of_methodNamed B.named
  have hlocks := B.notSynchronized
  have hK := hE.1
  have hl := lv_entry ([.ref h, .int (nI k)]) (n := 2) (Nat.le_of_ble_eq_true rfl)
  rw [lg_entry_eq]
  generalize (lg_sl ([.ref h, .int (nI k)]) ++ List.replicate (2 - (lg_sl ([.ref h, .int (nI k)])).length) Slot.unset).toArray = ls at hl ⊢
  have hl : lv_has ls 2 [(0, .ref h), (1, .int (nI k))] := hl
  have hinX3 : ∀ w ∈ u_ws RX3 TX3 14, w ∈ wsX3_waitsToBeKept := fun _ h => List.mem_cons_of_mem _ (List.mem_append_right _ h)
  refine lv_iload_n hx hb dX3_waitsToBeKept_0 rfl (lv_at hl 1 rfl) ?_
  refine lv_iconst (v := 0) hx hb dX3_waitsToBeKept_1 (by decide) ?_
  refine lv_bipush (v := 39) hx hb dX3_waitsToBeKept_2 (by decide) ?_
  refine vp_callSi (va_Run.run (va_runSN (As := [.int (nI k), .int 0, .int 39]) (rest := []) ⟨hx, hb, hml, hown, hts⟩ (k_within l D cI cJ cZ (nI k) 0 39) ⟨va_cnB 3 hts gX3_waitsToBeKept_X4_within_n89 rfl rfl rfl hE.2.2.2.2.2 (hts (.initialized RX4) (List.mem_of_getElem? (i := 3) rfl)) (by decide +kernel) ⟨Nat.le_of_ble_eq_true rfl, Nat.le_of_ble_eq_true rfl⟩, (hts (.static yX4_within) (List.mem_of_getElem? (i := 2) rfl)), trivial⟩ ⟨bl_ro, fun U hU hW => ⟨rfl, by rw [hU]; exact (hP.sub (ws' := []) [] rfl), hE.warm2 hW⟩⟩ rfl rfl hl.1 rfl (lv_room (Nat.le_of_ble_eq_true rfl)) dX3_waitsToBeKept_4 ⟨Nat.zero_le _, Nat.zero_le _⟩)) (fun r4 hr4 => ?_)
  refine lv_if_eq (tgt := 24) hx hb dX3_waitsToBeKept_7 (by decide) (fun c7 => (wi_f (hr4.symm.trans c7) (nI_pos' (by omega)) (nI_le (a := k) (b := 39) (by omega) (by decide))).elim) (fun c7 => ?_)
  refine lv_aload_n hx hb dX3_waitsToBeKept_10 rfl (lv_at hl 0 rfl) ?_
  refine va_get (D := D) (ci := 3) (v := .ref q1) (C := RX3) (T := TX3) (N := 14) hx hb hts hinX3 hown hK hP 0 rfl rfl 1 (by decide) (hts (.fieldLink RX3 9 "LedgerShares$Sheet" "stages" "[I") (List.mem_of_getElem? (i := 1) rfl)) (fun _ h9 => h9) rfl dX3_waitsToBeKept_11 ?_
  refine lv_iload_n hx hb dX3_waitsToBeKept_14 rfl (lv_at hl 1 rfl) ?_
  refine x_iald hx hb hE hP 1 rfl (k) hk (by decide) (rfl) dX3_waitsToBeKept_15 ?_
  refine lv_iconst (v := 2) hx hb dX3_waitsToBeKept_16 (by decide) ?_
  refine lv_icmp_ne (tgt := 24) hx hb dX3_waitsToBeKept_17 (by decide) (fun c17 => ?_) (fun c17 => ?_)
  · refine lv_iconst (v := 0) hx hb dX3_waitsToBeKept_24 (by decide) ?_
    exact W.zret hx hb hr (by decide) (fun t ht hW => ⟨_, rfl, by simp [c17], ht⟩) (fun q h => by cases h) dX3_waitsToBeKept_25
  · refine lv_iconst (v := 1) hx hb dX3_waitsToBeKept_20 (by decide) ?_
    refine lv_goto (tgt := 25) hx hb dX3_waitsToBeKept_21 (by decide) ?_
    exact W.zret hx hb hr (by decide) (fun t ht hW => ⟨_, rfl, by simp [c17], ht⟩) (fun q h => by cases h) dX3_waitsToBeKept_25
set_option maxHeartbeats 4000000 in
set_option maxRecDepth 100000 in
theorem k_settle (l : Launch) (D : va_G) (cI cJ cZ : ClassId) (sz : Nat) (h hB q1 q2 q3 q4 q5 q6 q7 q8 q9 q10 q11 q12 q13 : Nat) (st ca cb ka : Nat → Int32) (ra rb ga gb : Nat → Int64) (b1 b2 b3 b4 b5 b6 : Nat) (bz : Int32) (ak bk : Nat → Int32) (k : Nat) (hk : k < 40) (tick : Int32) : Met l yX3_settle wsX3_settle ({ frames := 2, cells := 0, slots := 0, locals := 44 }) (PcRW [.ref h, .int (nI k), .int tick] sz D cI cJ cZ [(h, .inr (3, [.ref hB, .ref q1, .ref q2, .ref q3, .ref q4, .ref q5, .ref q6, .ref q7, .ref q8, .ref q9, .ref q10, .ref q11, .ref q12, .ref q13])), (q1, .inl (cI, 40, .inl st)), (q3, .inl (cJ, 40, .inr (.inl ra))), (q4, .inl (cJ, 40, .inr (.inl rb))), (q5, .inl (cZ, 40, .inl ca)), (q6, .inl (cZ, 40, .inl cb)), (q7, .inl (cJ, 40, .inr (.inl ga))), (q8, .inl (cJ, 40, .inr (.inl gb))), (q12, .inl (cI, 40, .inl ka)), (hB, .inr (0, [.int bz, .ref b1, .ref b2, .ref b3, .ref b4, .ref b5, .ref b6])), (b2, .inl (cI, 40, .inl ak)), (b3, .inl (cI, 40, .inl bk))]) (QcI (fun r => r = if ra k = stnd st ca ak cb bk ga gb (ak k) k ∧ rb k = stnd st ca ak cb bk ga gb (bk k) k then 1 else 0) D (va_A [(h, .inr (3, [.ref hB, .ref q1, .ref q2, .ref q3, .ref q4, .ref q5, .ref q6, .ref q7, .ref q8, .ref q9, .ref q10, .ref q11, .ref q12, .ref q13])), (q1, .inl (cI, 40, .inl st)), (q3, .inl (cJ, 40, .inr (.inl ra))), (q4, .inl (cJ, 40, .inr (.inl rb))), (q5, .inl (cZ, 40, .inl ca)), (q6, .inl (cZ, 40, .inl cb)), (q7, .inl (cJ, 40, .inr (.inl ga))), (q8, .inl (cJ, 40, .inr (.inl gb))), (q12, .inl (cI, 40, .inl ka)), (hB, .inr (0, [.int bz, .ref b1, .ref b2, .ref b3, .ref b4, .ref b5, .ref b6])), (b2, .inl (cI, 40, .inl ak)), (b3, .inl (cI, 40, .inl bk))] sz) [(h, .inr (3, [.ref hB, .ref q1, .ref q2, .ref q3, .ref q4, .ref q5, .ref q6, .ref q7, .ref q8, .ref q9, .ref q10, .ref q11, .ref q12, .ref q13])), (q1, .inl (cI, 40, .inl (if ra k = stnd st ca ak cb bk ga gb (ak k) k ∧ rb k = stnd st ca ak cb bk ga gb (bk k) k then upd st k 3 else upd st k 0))), (q3, .inl (cJ, 40, .inr (.inl ra))), (q4, .inl (cJ, 40, .inr (.inl rb))), (q5, .inl (cZ, 40, .inl ca)), (q6, .inl (cZ, 40, .inl cb)), (q7, .inl (cJ, 40, .inr (.inl ga))), (q8, .inl (cJ, 40, .inr (.inl gb))), (q12, .inl (cI, 40, .inl (if ra k = stnd st ca ak cb bk ga gb (ak k) k ∧ rb k = stnd st ca ak cb bk ga gb (bk k) k then upd ka k tick else ka))), (hB, .inr (0, [.int bz, .ref b1, .ref b2, .ref b3, .ref b4, .ref b5, .ref b6])), (b2, .inl (cI, 40, .inl ak)), (b3, .inl (cI, 40, .inl bk))]) 0 0 (va_A [(h, .inr (3, [.ref hB, .ref q1, .ref q2, .ref q3, .ref q4, .ref q5, .ref q6, .ref q7, .ref q8, .ref q9, .ref q10, .ref q11, .ref q12, .ref q13])), (q1, .inl (cI, 40, .inl st)), (q3, .inl (cJ, 40, .inr (.inl ra))), (q4, .inl (cJ, 40, .inr (.inl rb))), (q5, .inl (cZ, 40, .inl ca)), (q6, .inl (cZ, 40, .inl cb)), (q7, .inl (cJ, 40, .inr (.inl ga))), (q8, .inl (cJ, 40, .inr (.inl gb))), (q12, .inl (cI, 40, .inl ka)), (hB, .inr (0, [.int bz, .ref b1, .ref b2, .ref b3, .ref b4, .ref b5, .ref b6])), (b2, .inl (cI, 40, .inl ak)), (b3, .inl (cI, 40, .inl bk))] sz) := by
  refine Met.ofW (cc := cX3_settle) (maxL := 4) (ret := some .boolean) (by decide) rfl ?_
  intro p e s m args below meth c s₁ B hml hv
  obtain ⟨rfl, hsz, hP, hE, hD0⟩ := hv
  have hx := B.exec
  have hb := B.bytes
  have hr := B.returns
  have hts := atoms_spec (ws := wsX3_settle) B.pre
  have hown : s.vm.findClass RX3 = some m.cls := findClass_of_methodNamed B.named
  have hlocks := B.notSynchronized
  have hK := hE.1
  subst hsz
  have hD := hD0.self (sz := s.heap.size)
  generalize hAe : va_A [(h, .inr (3, [.ref hB, .ref q1, .ref q2, .ref q3, .ref q4, .ref q5, .ref q6, .ref q7, .ref q8, .ref q9, .ref q10, .ref q11, .ref q12, .ref q13])), (q1, .inl (cI, 40, .inl st)), (q3, .inl (cJ, 40, .inr (.inl ra))), (q4, .inl (cJ, 40, .inr (.inl rb))), (q5, .inl (cZ, 40, .inl ca)), (q6, .inl (cZ, 40, .inl cb)), (q7, .inl (cJ, 40, .inr (.inl ga))), (q8, .inl (cJ, 40, .inr (.inl gb))), (q12, .inl (cI, 40, .inl ka)), (hB, .inr (0, [.int bz, .ref b1, .ref b2, .ref b3, .ref b4, .ref b5, .ref b6])), (b2, .inl (cI, 40, .inl ak)), (b3, .inl (cI, 40, .inl bk))] s.heap.size = A at hD ⊢
  have hA : ∀ q : Nat, s.heap.size ≤ q → A q := fun q h => by rw [← hAe]; exact Or.inr h
  have hS : va_S A s.heap s.heap [] := va_S.rf
  have hl := lv_entry ([.ref h, .int (nI k), .int tick]) (n := 4) (Nat.le_of_ble_eq_true rfl)
  rw [lg_entry_eq]
  generalize (lg_sl ([.ref h, .int (nI k), .int tick]) ++ List.replicate (4 - (lg_sl ([.ref h, .int (nI k), .int tick])).length) Slot.unset).toArray = ls at hl ⊢
  have hl : lv_has ls 4 [(0, .ref h), (1, .int (nI k)), (2, .int tick)] := hl
  have hinX0 : ∀ w ∈ u_ws RX0 TX0 7, w ∈ wsX3_settle := fun _ h => List.mem_cons_of_mem _ (List.mem_append_right _ h)
  have hinX3 : ∀ w ∈ u_ws RX3 TX3 14, w ∈ wsX3_settle := fun _ h => List.mem_cons_of_mem _ (List.mem_append_left _ (List.mem_append_right _ h))
  refine lv_aload_n hx hb dX3_settle_0 rfl (lv_at hl 0 rfl) ?_
  refine va_get (D := D) (ci := 3) (v := .ref q3) (C := RX3) (T := TX3) (N := 14) hx hb hts hinX3 hown hK hP 0 rfl rfl 3 (by decide) (hts (.fieldLink RX3 18 "LedgerShares$Sheet" "readA" "[J") (List.mem_of_getElem? (i := 1) rfl)) (fun _ h9 => h9) rfl dX3_settle_1 ?_
  refine lv_iload_n hx hb dX3_settle_4 rfl (lv_at hl 1 rfl) ?_
  refine x_lald hx hb hE hP 2 rfl (k) hk (by decide) (rfl) dX3_settle_5 ?_
  refine lv_aload_n hx hb dX3_settle_6 rfl (lv_at hl 0 rfl) ?_
  refine lv_iload_n hx hb dX3_settle_7 rfl (lv_at hl 1 rfl) ?_
  refine lv_aload_n hx hb dX3_settle_8 rfl (lv_at hl 0 rfl) ?_
  refine va_get (D := D) (ci := 3) (v := .ref hB) (C := RX3) (T := TX3) (N := 14) hx hb hts hinX3 hown hK hP 0 rfl rfl 0 (by decide) (hts (.fieldLink RX3 53 "LedgerShares$Sheet" "book" "LLedgerShares$Book;") (List.mem_of_getElem? (i := 2) rfl)) (fun _ h9 => h9) rfl dX3_settle_9 ?_
  refine va_get (D := D) (ci := 0) (v := .ref b2) (C := RX0) (T := TX0) (N := 7) hx hb hts hinX0 hown hK hP 9 rfl rfl 2 (by decide) (hts (.fieldLink RX3 67 "LedgerShares$Book" "as" "[I") (List.mem_of_getElem? (i := 3) rfl)) (fun _ h9 => h9) rfl dX3_settle_12 ?_
  refine lv_iload_n hx hb dX3_settle_15 rfl (lv_at hl 1 rfl) ?_
  refine x_iald hx hb hE hP 10 rfl (k) hk (by decide) (rfl) dX3_settle_16 ?_
  refine vp_callSl (va_Run.run (va_runV (As := [.int (nI k), .int (ak k)]) (rest := [.long (ra k)]) ⟨hx, hb, hml, hown, hts⟩ (k_standing l D cI cJ cZ h hB q1 q2 q3 q4 q5 q6 q7 q8 q9 q10 q11 q12 q13 st ca cb ga gb b1 b2 b3 b4 b5 b6 bz ak bk (ak k) k (by omega)) (cwV 2 hts gX3_settle_X3_standing rfl rfl rfl (by decide +kernel) ⟨Nat.le_of_ble_eq_true rfl, Nat.le_of_ble_eq_true rfl⟩) ⟨bl_ro, va_recv hK (hP.sub (ws' := [(h, .inr (3, [.ref hB, .ref q1, .ref q2, .ref q3, .ref q4, .ref q5, .ref q6, .ref q7, .ref q8, .ref q9, .ref q10, .ref q11, .ref q12, .ref q13])), (q1, .inl (cI, 40, .inl st)), (q5, .inl (cZ, 40, .inl ca)), (q6, .inl (cZ, 40, .inl cb)), (q7, .inl (cJ, 40, .inr (.inl ga))), (q8, .inl (cJ, 40, .inr (.inl gb))), (hB, .inr (0, [.int bz, .ref b1, .ref b2, .ref b3, .ref b4, .ref b5, .ref b6])), (b2, .inl (cI, 40, .inl ak)), (b3, .inl (cI, 40, .inl bk))]) [0, 1, 4, 5, 6, 7, 9, 10, 11] rfl) (ci := 3) (q0 := 0) rfl rfl, fun U hU hW => ⟨rfl, by rw [hU]; exact (hP.sub (ws' := [(h, .inr (3, [.ref hB, .ref q1, .ref q2, .ref q3, .ref q4, .ref q5, .ref q6, .ref q7, .ref q8, .ref q9, .ref q10, .ref q11, .ref q12, .ref q13])), (q1, .inl (cI, 40, .inl st)), (q5, .inl (cZ, 40, .inl ca)), (q6, .inl (cZ, 40, .inl cb)), (q7, .inl (cJ, 40, .inr (.inl ga))), (q8, .inl (cJ, 40, .inr (.inl gb))), (hB, .inr (0, [.int bz, .ref b1, .ref b2, .ref b3, .ref b4, .ref b5, .ref b6])), (b2, .inl (cI, 40, .inl ak)), (b3, .inl (cI, 40, .inl bk))]) [0, 1, 4, 5, 6, 7, 9, 10, 11] rfl), hE.warm2 hW⟩⟩ rfl rfl hl.1 rfl (lv_room (Nat.le_of_ble_eq_true rfl)) dX3_settle_17 ⟨Nat.zero_le _, Nat.zero_le _⟩)) (fun r17 hr17 => ?_)
  subst hr17
  refine W.lcmp hx hb dX3_settle_20 ?_
  refine lv_if_ne (tgt := 52) hx hb dX3_settle_21 (by decide) (fun c21 => ?_) (fun c21 => ?_)
  · have c21 := mt (lg_cmp_eq _ _).mpr c21
    refine lv_iconst (v := 0) hx hb dX3_settle_52 (by decide) ?_
    refine lv_istore_n (lv' := [(3, .int 0), (0, .ref h), (1, .int (nI k)), (2, .int tick)]) hx hb dX3_settle_53 rfl hl (by decide) rfl (fun ls hl => ?_)
    refine lv_aload_n hx hb dX3_settle_54 rfl (lv_at hl 1 rfl) ?_
    refine va_get (D := D) (ci := 3) (v := .ref q1) (C := RX3) (T := TX3) (N := 14) hx hb hts hinX3 hown hK hP 0 rfl rfl 1 (by decide) (hts (.fieldLink RX3 9 "LedgerShares$Sheet" "stages" "[I") (List.mem_of_getElem? (i := 6) rfl)) (fun _ h9 => h9) rfl dX3_settle_55 ?_
    refine lv_iload_n hx hb dX3_settle_58 rfl (lv_at hl 2 rfl) ?_
    refine lv_iload_n hx hb dX3_settle_59 rfl (lv_at hl 0 rfl) ?_
    refine lv_if_eq (tgt := 67) hx hb dX3_settle_60 (by decide) (fun c60 => ?_) (fun c60 => absurd c60 (by decide))
    refine lv_iconst (v := 0) hx hb dX3_settle_67 (by decide) ?_
    refine x_iast hx hb hE hP hD hS 1 rfl (k) hk (by decide) (rfl) (ws' := [(h, .inr (3, [.ref hB, .ref q1, .ref q2, .ref q3, .ref q4, .ref q5, .ref q6, .ref q7, .ref q8, .ref q9, .ref q10, .ref q11, .ref q12, .ref q13])), (q1, .inl (cI, 40, .inl (upd st k 0))), (q3, .inl (cJ, 40, .inr (.inl ra))), (q4, .inl (cJ, 40, .inr (.inl rb))), (q5, .inl (cZ, 40, .inl ca)), (q6, .inl (cZ, 40, .inl cb)), (q7, .inl (cJ, 40, .inr (.inl ga))), (q8, .inl (cJ, 40, .inr (.inl gb))), (q12, .inl (cI, 40, .inl ka)), (hB, .inr (0, [.int bz, .ref b1, .ref b2, .ref b3, .ref b4, .ref b5, .ref b6])), (b2, .inl (cI, 40, .inl ak)), (b3, .inl (cI, 40, .inl bk))]) (rfl) dX3_settle_68 (fun H locs hP hD hS => ?_)
    refine lv_iload_n hx hb dX3_settle_69 rfl (lv_at hl 0 rfl) ?_
    refine lv_if_eq (tgt := 80) hx hb dX3_settle_70 (by decide) (fun c70 => ?_) (fun c70 => absurd c70 (by decide))
    refine lv_iload_n hx hb dX3_settle_80 rfl (lv_at hl 0 rfl) ?_
    exact W.zret hx hb hr (by decide) (fun t ht hW => ⟨⟨_, (), rfl, by simp only [if_neg (show ¬ (ra k = stnd st ca ak cb bk ga gb (ak k) k ∧ rb k = stnd st ca ak cb bk ga gb (bk k) k) from fun z => c21 z.1)], by rw [ht]; simp only [if_neg (show ¬ (ra k = stnd st ca ak cb bk ga gb (ak k) k ∧ rb k = stnd st ca ak cb bk ga gb (bk k) k) from fun z => c21 z.1)]; exact hP, by simp only [if_neg (show ¬ (ra k = stnd st ca ak cb bk ga gb (ak k) k ∧ rb k = stnd st ca ak cb bk ga gb (bk k) k) from fun z => c21 z.1)]; exact hD⟩, hS.F ht⟩) hS.2.2 dX3_settle_81
  · have c21 := (lg_cmp_eq _ _).mp c21
    refine lv_aload_n hx hb dX3_settle_24 rfl (lv_at hl 0 rfl) ?_
    refine va_get (D := D) (ci := 3) (v := .ref q4) (C := RX3) (T := TX3) (N := 14) hx hb hts hinX3 hown hK hP 0 rfl rfl 4 (by decide) (hts (.fieldLink RX3 22 "LedgerShares$Sheet" "readB" "[J") (List.mem_of_getElem? (i := 4) rfl)) (fun _ h9 => h9) rfl dX3_settle_25 ?_
    refine lv_iload_n hx hb dX3_settle_28 rfl (lv_at hl 1 rfl) ?_
    refine x_lald hx hb hE hP 3 rfl (k) hk (by decide) (rfl) dX3_settle_29 ?_
    refine lv_aload_n hx hb dX3_settle_30 rfl (lv_at hl 0 rfl) ?_
    refine lv_iload_n hx hb dX3_settle_31 rfl (lv_at hl 1 rfl) ?_
    refine lv_aload_n hx hb dX3_settle_32 rfl (lv_at hl 0 rfl) ?_
    refine va_get (D := D) (ci := 3) (v := .ref hB) (C := RX3) (T := TX3) (N := 14) hx hb hts hinX3 hown hK hP 0 rfl rfl 0 (by decide) (hts (.fieldLink RX3 53 "LedgerShares$Sheet" "book" "LLedgerShares$Book;") (List.mem_of_getElem? (i := 2) rfl)) (fun _ h9 => h9) rfl dX3_settle_33 ?_
    refine va_get (D := D) (ci := 0) (v := .ref b3) (C := RX0) (T := TX0) (N := 7) hx hb hts hinX0 hown hK hP 9 rfl rfl 3 (by decide) (hts (.fieldLink RX3 72 "LedgerShares$Book" "bs" "[I") (List.mem_of_getElem? (i := 5) rfl)) (fun _ h9 => h9) rfl dX3_settle_36 ?_
    refine lv_iload_n hx hb dX3_settle_39 rfl (lv_at hl 1 rfl) ?_
    refine x_iald hx hb hE hP 11 rfl (k) hk (by decide) (rfl) dX3_settle_40 ?_
    refine vp_callSl (va_Run.run (va_runV (As := [.int (nI k), .int (bk k)]) (rest := [.long (rb k)]) ⟨hx, hb, hml, hown, hts⟩ (k_standing l D cI cJ cZ h hB q1 q2 q3 q4 q5 q6 q7 q8 q9 q10 q11 q12 q13 st ca cb ga gb b1 b2 b3 b4 b5 b6 bz ak bk (bk k) k (by omega)) (cwV 2 hts gX3_settle_X3_standing rfl rfl rfl (by decide +kernel) ⟨Nat.le_of_ble_eq_true rfl, Nat.le_of_ble_eq_true rfl⟩) ⟨bl_ro, va_recv hK (hP.sub (ws' := [(h, .inr (3, [.ref hB, .ref q1, .ref q2, .ref q3, .ref q4, .ref q5, .ref q6, .ref q7, .ref q8, .ref q9, .ref q10, .ref q11, .ref q12, .ref q13])), (q1, .inl (cI, 40, .inl st)), (q5, .inl (cZ, 40, .inl ca)), (q6, .inl (cZ, 40, .inl cb)), (q7, .inl (cJ, 40, .inr (.inl ga))), (q8, .inl (cJ, 40, .inr (.inl gb))), (hB, .inr (0, [.int bz, .ref b1, .ref b2, .ref b3, .ref b4, .ref b5, .ref b6])), (b2, .inl (cI, 40, .inl ak)), (b3, .inl (cI, 40, .inl bk))]) [0, 1, 4, 5, 6, 7, 9, 10, 11] rfl) (ci := 3) (q0 := 0) rfl rfl, fun U hU hW => ⟨rfl, by rw [hU]; exact (hP.sub (ws' := [(h, .inr (3, [.ref hB, .ref q1, .ref q2, .ref q3, .ref q4, .ref q5, .ref q6, .ref q7, .ref q8, .ref q9, .ref q10, .ref q11, .ref q12, .ref q13])), (q1, .inl (cI, 40, .inl st)), (q5, .inl (cZ, 40, .inl ca)), (q6, .inl (cZ, 40, .inl cb)), (q7, .inl (cJ, 40, .inr (.inl ga))), (q8, .inl (cJ, 40, .inr (.inl gb))), (hB, .inr (0, [.int bz, .ref b1, .ref b2, .ref b3, .ref b4, .ref b5, .ref b6])), (b2, .inl (cI, 40, .inl ak)), (b3, .inl (cI, 40, .inl bk))]) [0, 1, 4, 5, 6, 7, 9, 10, 11] rfl), hE.warm2 hW⟩⟩ rfl rfl hl.1 rfl (lv_room (Nat.le_of_ble_eq_true rfl)) dX3_settle_41 ⟨Nat.zero_le _, Nat.zero_le _⟩)) (fun r41 hr41 => ?_)
    subst hr41
    refine W.lcmp hx hb dX3_settle_44 ?_
    refine lv_if_ne (tgt := 52) hx hb dX3_settle_45 (by decide) (fun c45 => ?_) (fun c45 => ?_)
    · have c45 := mt (lg_cmp_eq _ _).mpr c45
      refine lv_iconst (v := 0) hx hb dX3_settle_52 (by decide) ?_
      refine lv_istore_n (lv' := [(3, .int 0), (0, .ref h), (1, .int (nI k)), (2, .int tick)]) hx hb dX3_settle_53 rfl hl (by decide) rfl (fun ls hl => ?_)
      refine lv_aload_n hx hb dX3_settle_54 rfl (lv_at hl 1 rfl) ?_
      refine va_get (D := D) (ci := 3) (v := .ref q1) (C := RX3) (T := TX3) (N := 14) hx hb hts hinX3 hown hK hP 0 rfl rfl 1 (by decide) (hts (.fieldLink RX3 9 "LedgerShares$Sheet" "stages" "[I") (List.mem_of_getElem? (i := 6) rfl)) (fun _ h9 => h9) rfl dX3_settle_55 ?_
      refine lv_iload_n hx hb dX3_settle_58 rfl (lv_at hl 2 rfl) ?_
      refine lv_iload_n hx hb dX3_settle_59 rfl (lv_at hl 0 rfl) ?_
      refine lv_if_eq (tgt := 67) hx hb dX3_settle_60 (by decide) (fun c60 => ?_) (fun c60 => absurd c60 (by decide))
      refine lv_iconst (v := 0) hx hb dX3_settle_67 (by decide) ?_
      refine x_iast hx hb hE hP hD hS 1 rfl (k) hk (by decide) (rfl) (ws' := [(h, .inr (3, [.ref hB, .ref q1, .ref q2, .ref q3, .ref q4, .ref q5, .ref q6, .ref q7, .ref q8, .ref q9, .ref q10, .ref q11, .ref q12, .ref q13])), (q1, .inl (cI, 40, .inl (upd st k 0))), (q3, .inl (cJ, 40, .inr (.inl ra))), (q4, .inl (cJ, 40, .inr (.inl rb))), (q5, .inl (cZ, 40, .inl ca)), (q6, .inl (cZ, 40, .inl cb)), (q7, .inl (cJ, 40, .inr (.inl ga))), (q8, .inl (cJ, 40, .inr (.inl gb))), (q12, .inl (cI, 40, .inl ka)), (hB, .inr (0, [.int bz, .ref b1, .ref b2, .ref b3, .ref b4, .ref b5, .ref b6])), (b2, .inl (cI, 40, .inl ak)), (b3, .inl (cI, 40, .inl bk))]) (rfl) dX3_settle_68 (fun H locs hP hD hS => ?_)
      refine lv_iload_n hx hb dX3_settle_69 rfl (lv_at hl 0 rfl) ?_
      refine lv_if_eq (tgt := 80) hx hb dX3_settle_70 (by decide) (fun c70 => ?_) (fun c70 => absurd c70 (by decide))
      refine lv_iload_n hx hb dX3_settle_80 rfl (lv_at hl 0 rfl) ?_
      exact W.zret hx hb hr (by decide) (fun t ht hW => ⟨⟨_, (), rfl, by simp only [if_neg (show ¬ (ra k = stnd st ca ak cb bk ga gb (ak k) k ∧ rb k = stnd st ca ak cb bk ga gb (bk k) k) from fun z => c45 z.2)], by rw [ht]; simp only [if_neg (show ¬ (ra k = stnd st ca ak cb bk ga gb (ak k) k ∧ rb k = stnd st ca ak cb bk ga gb (bk k) k) from fun z => c45 z.2)]; exact hP, by simp only [if_neg (show ¬ (ra k = stnd st ca ak cb bk ga gb (ak k) k ∧ rb k = stnd st ca ak cb bk ga gb (bk k) k) from fun z => c45 z.2)]; exact hD⟩, hS.F ht⟩) hS.2.2 dX3_settle_81
    · have c45 := (lg_cmp_eq _ _).mp c45
      refine lv_iconst (v := 1) hx hb dX3_settle_48 (by decide) ?_
      refine lv_goto (tgt := 53) hx hb dX3_settle_49 (by decide) ?_
      refine lv_istore_n (lv' := [(3, .int 1), (0, .ref h), (1, .int (nI k)), (2, .int tick)]) hx hb dX3_settle_53 rfl hl (by decide) rfl (fun ls hl => ?_)
      refine lv_aload_n hx hb dX3_settle_54 rfl (lv_at hl 1 rfl) ?_
      refine va_get (D := D) (ci := 3) (v := .ref q1) (C := RX3) (T := TX3) (N := 14) hx hb hts hinX3 hown hK hP 0 rfl rfl 1 (by decide) (hts (.fieldLink RX3 9 "LedgerShares$Sheet" "stages" "[I") (List.mem_of_getElem? (i := 6) rfl)) (fun _ h9 => h9) rfl dX3_settle_55 ?_
      refine lv_iload_n hx hb dX3_settle_58 rfl (lv_at hl 2 rfl) ?_
      refine lv_iload_n hx hb dX3_settle_59 rfl (lv_at hl 0 rfl) ?_
      refine lv_if_eq (tgt := 67) hx hb dX3_settle_60 (by decide) (fun c60 => absurd c60 (by decide)) (fun c60 => ?_)
      refine lv_iconst (v := 3) hx hb dX3_settle_63 (by decide) ?_
      refine lv_goto (tgt := 68) hx hb dX3_settle_64 (by decide) ?_
      refine x_iast hx hb hE hP hD hS 1 rfl (k) hk (by decide) (rfl) (ws' := [(h, .inr (3, [.ref hB, .ref q1, .ref q2, .ref q3, .ref q4, .ref q5, .ref q6, .ref q7, .ref q8, .ref q9, .ref q10, .ref q11, .ref q12, .ref q13])), (q1, .inl (cI, 40, .inl (upd st k 3))), (q3, .inl (cJ, 40, .inr (.inl ra))), (q4, .inl (cJ, 40, .inr (.inl rb))), (q5, .inl (cZ, 40, .inl ca)), (q6, .inl (cZ, 40, .inl cb)), (q7, .inl (cJ, 40, .inr (.inl ga))), (q8, .inl (cJ, 40, .inr (.inl gb))), (q12, .inl (cI, 40, .inl ka)), (hB, .inr (0, [.int bz, .ref b1, .ref b2, .ref b3, .ref b4, .ref b5, .ref b6])), (b2, .inl (cI, 40, .inl ak)), (b3, .inl (cI, 40, .inl bk))]) (rfl) dX3_settle_68 (fun H locs hP hD hS => ?_)
      refine lv_iload_n hx hb dX3_settle_69 rfl (lv_at hl 0 rfl) ?_
      refine lv_if_eq (tgt := 80) hx hb dX3_settle_70 (by decide) (fun c70 => absurd c70 (by decide)) (fun c70 => ?_)
      refine lv_aload_n hx hb dX3_settle_73 rfl (lv_at hl 1 rfl) ?_
      refine va_get (D := D) (ci := 3) (v := .ref q12) (C := RX3) (T := TX3) (N := 14) hx hb hts hinX3 hown hK hP 0 rfl rfl 12 (by decide) (hts (.fieldLink RX3 47 "LedgerShares$Sheet" "keptAt" "[I") (List.mem_of_getElem? (i := 7) rfl)) (fun _ h9 => h9) rfl dX3_settle_74 ?_
      refine lv_iload_n hx hb dX3_settle_77 rfl (lv_at hl 2 rfl) ?_
      refine lv_iload_n hx hb dX3_settle_78 rfl (lv_at hl 3 rfl) ?_
      refine x_iast hx hb hE hP hD hS 8 rfl (k) hk (by decide) (rfl) (ws' := [(h, .inr (3, [.ref hB, .ref q1, .ref q2, .ref q3, .ref q4, .ref q5, .ref q6, .ref q7, .ref q8, .ref q9, .ref q10, .ref q11, .ref q12, .ref q13])), (q1, .inl (cI, 40, .inl (upd st k 3))), (q3, .inl (cJ, 40, .inr (.inl ra))), (q4, .inl (cJ, 40, .inr (.inl rb))), (q5, .inl (cZ, 40, .inl ca)), (q6, .inl (cZ, 40, .inl cb)), (q7, .inl (cJ, 40, .inr (.inl ga))), (q8, .inl (cJ, 40, .inr (.inl gb))), (q12, .inl (cI, 40, .inl (upd ka k tick))), (hB, .inr (0, [.int bz, .ref b1, .ref b2, .ref b3, .ref b4, .ref b5, .ref b6])), (b2, .inl (cI, 40, .inl ak)), (b3, .inl (cI, 40, .inl bk))]) (rfl) dX3_settle_79 (fun H locs hP hD hS => ?_)
      refine lv_iload_n hx hb dX3_settle_80 rfl (lv_at hl 0 rfl) ?_
      exact W.zret hx hb hr (by decide) (fun t ht hW => ⟨⟨_, (), rfl, by simp only [if_pos (show ra k = stnd st ca ak cb bk ga gb (ak k) k ∧ rb k = stnd st ca ak cb bk ga gb (bk k) k from ⟨c21, c45⟩)], by rw [ht]; simp only [if_pos (show ra k = stnd st ca ak cb bk ga gb (ak k) k ∧ rb k = stnd st ca ak cb bk ga gb (bk k) k from ⟨c21, c45⟩)]; exact hP, by simp only [if_pos (show ra k = stnd st ca ak cb bk ga gb (ak k) k ∧ rb k = stnd st ca ak cb bk ga gb (bk k) k from ⟨c21, c45⟩)]; exact hD⟩, hS.F ht⟩) hS.2.2 dX3_settle_81
set_option maxHeartbeats 4000000 in
set_option maxRecDepth 100000 in
theorem k_figure (l : Launch) (D : va_G) (cI cJ cZ : ClassId) (h hB q1 q2 q3 q4 q5 q6 q7 q8 q9 q10 q11 q12 q13 : Nat) (tb fb ka eb : Nat → Int32) (k : Nat) (hk : k < 40) (w : Int32) : Met l yX3_figure wsX3_figure ({ frames := 0, cells := 0, slots := 0, locals := 0 }) (PcRO [.ref h, .int (nI k), .int w] D cI cJ cZ [(h, .inr (3, [.ref hB, .ref q1, .ref q2, .ref q3, .ref q4, .ref q5, .ref q6, .ref q7, .ref q8, .ref q9, .ref q10, .ref q11, .ref q12, .ref q13])), (q10, .inl (cI, 40, .inl tb)), (q11, .inl (cI, 40, .inl fb)), (q12, .inl (cI, 40, .inl ka)), (q13, .inl (cI, 40, .inl eb))]) (vp_Si (fun r => r = if w = 0 then tb k else if w = 1 then fb k else if w = 2 then ka k else eb k)) 0 0 noF := by
  refine Met.ofW (cc := cX3_figure) (maxL := 3) (ret := some .int) (by decide) rfl ?_
  intro p e s m args below meth c s₁ B hml hv
  obtain ⟨rfl, hP, hE⟩ := hv
  have hx := B.exec
  have hb := B.bytes
  have hr := B.returns
  have hts := atoms_spec (ws := wsX3_figure) B.pre
  have hown : s.vm.findClass RX3 = some m.cls := findClass_of_methodNamed B.named
  have hlocks := B.notSynchronized
  have hK := hE.1
  have hl := lv_entry ([.ref h, .int (nI k), .int w]) (n := 3) (Nat.le_of_ble_eq_true rfl)
  rw [lg_entry_eq]
  generalize (lg_sl ([.ref h, .int (nI k), .int w]) ++ List.replicate (3 - (lg_sl ([.ref h, .int (nI k), .int w])).length) Slot.unset).toArray = ls at hl ⊢
  have hl : lv_has ls 3 [(0, .ref h), (1, .int (nI k)), (2, .int w)] := hl
  have hinX3 : ∀ w ∈ u_ws RX3 TX3 14, w ∈ wsX3_figure := fun _ h => List.mem_cons_of_mem _ (List.mem_append_right _ h)
  refine lv_iload_n hx hb dX3_figure_0 rfl (lv_at hl 2 rfl) ?_
  rcases sw2 w with e1 | e1 | e1 | ⟨n0, n1, n2, n3⟩
  · refine lv_tableIn (off := 27) (tgt := 28) hx hb dX3_figure_1 (by rw [e1]; decide) (by rw [e1]; decide) (by rw [e1]; rfl) (by decide) ?_
    refine lv_aload_n hx hb dX3_figure_28 rfl (lv_at hl 0 rfl) ?_
    refine va_get (D := D) (ci := 3) (v := .ref q10) (C := RX3) (T := TX3) (N := 14) hx hb hts hinX3 hown hK hP 0 rfl rfl 10 (by decide) (hts (.fieldLink RX3 41 "LedgerShares$Sheet" "timesBegun" "[I") (List.mem_of_getElem? (i := 1) rfl)) (fun _ h9 => h9) rfl dX3_figure_29 ?_
    refine lv_iload_n hx hb dX3_figure_32 rfl (lv_at hl 1 rfl) ?_
    refine x_iald hx hb hE hP 1 rfl (k) hk (by decide) (rfl) dX3_figure_33 ?_
    exact W.iret hx hb hr (fun t ht hW => ⟨_, rfl, by simp [e1], ht⟩) (fun q h => by cases h) dX3_figure_34
  · refine lv_tableIn (off := 34) (tgt := 35) hx hb dX3_figure_1 (by rw [e1]; decide) (by rw [e1]; decide) (by rw [e1]; rfl) (by decide) ?_
    refine lv_aload_n hx hb dX3_figure_35 rfl (lv_at hl 0 rfl) ?_
    refine va_get (D := D) (ci := 3) (v := .ref q11) (C := RX3) (T := TX3) (N := 14) hx hb hts hinX3 hown hK hP 0 rfl rfl 11 (by decide) (hts (.fieldLink RX3 44 "LedgerShares$Sheet" "firstBegun" "[I") (List.mem_of_getElem? (i := 2) rfl)) (fun _ h9 => h9) rfl dX3_figure_36 ?_
    refine lv_iload_n hx hb dX3_figure_39 rfl (lv_at hl 1 rfl) ?_
    refine x_iald hx hb hE hP 2 rfl (k) hk (by decide) (rfl) dX3_figure_40 ?_
    exact W.iret hx hb hr (fun t ht hW => ⟨_, rfl, by simp [e1], ht⟩) (fun q h => by cases h) dX3_figure_41
  · refine lv_tableIn (off := 41) (tgt := 42) hx hb dX3_figure_1 (by rw [e1]; decide) (by rw [e1]; decide) (by rw [e1]; rfl) (by decide) ?_
    refine lv_aload_n hx hb dX3_figure_42 rfl (lv_at hl 0 rfl) ?_
    refine va_get (D := D) (ci := 3) (v := .ref q12) (C := RX3) (T := TX3) (N := 14) hx hb hts hinX3 hown hK hP 0 rfl rfl 12 (by decide) (hts (.fieldLink RX3 47 "LedgerShares$Sheet" "keptAt" "[I") (List.mem_of_getElem? (i := 3) rfl)) (fun _ h9 => h9) rfl dX3_figure_43 ?_
    refine lv_iload_n hx hb dX3_figure_46 rfl (lv_at hl 1 rfl) ?_
    refine x_iald hx hb hE hP 3 rfl (k) hk (by decide) (rfl) dX3_figure_47 ?_
    exact W.iret hx hb hr (fun t ht hW => ⟨_, rfl, by simp [e1], ht⟩) (fun q h => by cases h) dX3_figure_48
  · refine lv_tableOut (tgt := 49) hx hb dX3_figure_1 (n3) (by decide) ?_
    refine lv_aload_n hx hb dX3_figure_49 rfl (lv_at hl 0 rfl) ?_
    refine va_get (D := D) (ci := 3) (v := .ref q13) (C := RX3) (T := TX3) (N := 14) hx hb hts hinX3 hown hK hP 0 rfl rfl 13 (by decide) (hts (.fieldLink RX3 50 "LedgerShares$Sheet" "endedBy" "[I") (List.mem_of_getElem? (i := 4) rfl)) (fun _ h9 => h9) rfl dX3_figure_50 ?_
    refine lv_iload_n hx hb dX3_figure_53 rfl (lv_at hl 1 rfl) ?_
    refine x_iald hx hb hE hP 4 rfl (k) hk (by decide) (rfl) dX3_figure_54 ?_
    exact W.iret hx hb hr (fun t ht hW => ⟨_, rfl, by simp [n0, n1, n2], ht⟩) (fun q h => by cases h) dX3_figure_55
set_option maxHeartbeats 4000000 in
set_option maxRecDepth 100000 in
theorem k_failures (l : Launch) (D : va_G) (cI cJ cZ : ClassId) (h hB q1 q2 q3 q4 q5 q6 q7 q8 q9 q10 q11 q12 q13 : Nat) (oc : Nat → Int32) (en : Nat) (he : en ≤ 40) : Met l yX3_failures wsX3_failures ({ frames := 0, cells := 0, slots := 0, locals := 0 }) (PcRO [.ref h, .int (nI en)] D cI cJ cZ [(h, .inr (3, [.ref hB, .ref q1, .ref q2, .ref q3, .ref q4, .ref q5, .ref q6, .ref q7, .ref q8, .ref q9, .ref q10, .ref q11, .ref q12, .ref q13])), (q9, .inl (cI, 40, .inl oc))]) (vp_Si (fun r => r = fails oc en 41 0 0)) 0 0 noF := by
  refine Met.ofW (cc := cX3_failures) (maxL := 4) (ret := some .int) (by decide) rfl ?_
  intro p e s m args below meth c s₁ B hml hv
  obtain ⟨rfl, hP, hE⟩ := hv
  have hx := B.exec
  have hb := B.bytes
  have hr := B.returns
  have hts := atoms_spec (ws := wsX3_failures) B.pre
  have hown : s.vm.findClass RX3 = some m.cls := findClass_of_methodNamed B.named
  have hlocks := B.notSynchronized
  have hK := hE.1
  have hl := lv_entry ([.ref h, .int (nI en)]) (n := 4) (Nat.le_of_ble_eq_true rfl)
  rw [lg_entry_eq]
  generalize (lg_sl ([.ref h, .int (nI en)]) ++ List.replicate (4 - (lg_sl ([.ref h, .int (nI en)])).length) Slot.unset).toArray = ls at hl ⊢
  have hl : lv_has ls 4 [(0, .ref h), (1, .int (nI en))] := hl
  have hinX3 : ∀ w ∈ u_ws RX3 TX3 14, w ∈ wsX3_failures := fun _ h => List.mem_cons_of_mem _ (List.mem_append_right _ h)
  refine lv_iconst (v := 0) hx hb dX3_failures_0 (by decide) ?_
  refine lv_istore_n (lv' := [(2, .int 0), (0, .ref h), (1, .int (nI en))]) hx hb dX3_failures_1 rfl hl (by decide) rfl (fun ls hl => ?_)
  refine lv_iconst (v := 0) hx hb dX3_failures_2 (by decide) ?_
  refine lv_istore_n (lv' := [(3, .int 0), (2, .int 0), (0, .ref h), (1, .int (nI en))]) hx hb dX3_failures_3 rfl hl (by decide) rfl (fun ls hl => ?_)
  have loop4 : ∀ (n : Nat) (k : Nat) (r : Int32), (k ≤ 40) → (41 ≤ k + n) → (fails oc en 41 0 0 = fails oc en n k r) → ∀ (ls : Array Slot), lv_has ls 4 [(3, .int (nI k)), (2, .int r), (0, .ref h), (1, .int (nI en))] → W p l e (headSpec wsX3_failures ({ frames := 0, cells := 0, slots := 0, locals := 0 })).room s m ([.ref h, .int (nI en)].toArray) below meth c s.heap [] 0 0 (MQ below (vp_Si (fun r => r = fails oc en 41 0 0)) ([.ref h, .int (nI en)].toArray) s 0 0 noF) (F0 m 4 ls []) := by
    intro n
    induction n with
    | zero =>
      intro k r hk hf hinv
      exact absurd hf (by omega)
    | succ n ih4 =>
      intro k r hk hf hinv ls hl
      refine lv_iload_n hx hb dX3_failures_4 rfl (lv_at hl 0 rfl) ?_
      refine lv_iload_n hx hb dX3_failures_5 rfl (lv_at hl 3 rfl) ?_
      refine lv_icmp_ge (tgt := 34) hx hb dX3_failures_6 (by decide) (fun c6 => ?_) (fun c6 => ?_)
      · refine lv_iload_n hx hb dX3_failures_34 rfl (lv_at hl 1 rfl) ?_
        exact W.iret hx hb hr (fun t ht hW => ⟨_, rfl, by rw [hinv]; simp [fails, show ¬ k < en from fun z => absurd c6 (nI_ge z (by omega))], ht⟩) (fun q h => by cases h) dX3_failures_35
      · have g6 : k < en := Nat.lt_of_not_le (fun z => c6 (nI_le z (by omega)))
        refine lv_iload_n hx hb dX3_failures_9 rfl (lv_at hl 0 rfl) ?_
        refine lv_bipush (v := 40) hx hb dX3_failures_10 (by decide) ?_
        refine lv_icmp_ge (tgt := 34) hx hb dX3_failures_12 (by decide) (fun c12 => absurd c12 (nI_ge (b := 40) (by omega) (by decide))) (fun c12 => ?_)
        refine lv_aload_n hx hb dX3_failures_15 rfl (lv_at hl 2 rfl) ?_
        refine va_get (D := D) (ci := 3) (v := .ref q9) (C := RX3) (T := TX3) (N := 14) hx hb hts hinX3 hown hK hP 0 rfl rfl 9 (by decide) (hts (.fieldLink RX3 38 "LedgerShares$Sheet" "outcomes" "[I") (List.mem_of_getElem? (i := 1) rfl)) (fun _ h9 => h9) rfl dX3_failures_16 ?_
        refine lv_iload_n hx hb dX3_failures_19 rfl (lv_at hl 0 rfl) ?_
        refine x_iald hx hb hE hP 1 rfl (k) (by omega) (by decide) (rfl) dX3_failures_20 ?_
        refine lv_iconst (v := 2) hx hb dX3_failures_21 (by decide) ?_
        refine lv_icmp_ne (tgt := 28) hx hb dX3_failures_22 (by decide) (fun c22 => ?_) (fun c22 => ?_)
        · refine lv_iinc (v := nI (k + 1)) (lv' := [(3, .int (nI (k + 1))), (2, .int r), (0, .ref h), (1, .int (nI en))]) hx hb dX3_failures_28 hl (k := 0) rfl (nI_1 k) (by decide) rfl (fun ls hl => ?_)
          refine lv_goto (tgt := 4) hx hb dX3_failures_31 (by decide) ?_
          exact ih4 (k + 1) r (by omega) (by omega) (by rw [hinv]; simp [fails, g6, c22]) ls (lv_sub hl [0, 1, 2, 3] rfl)
        · refine lv_iinc (v := r + 1) (lv' := [(2, .int (r + 1)), (3, .int (nI k)), (0, .ref h), (1, .int (nI en))]) hx hb dX3_failures_25 hl (k := 1) rfl (rfl) (by decide) rfl (fun ls hl => ?_)
          refine lv_iinc (v := nI (k + 1)) (lv' := [(3, .int (nI (k + 1))), (2, .int (r + 1)), (0, .ref h), (1, .int (nI en))]) hx hb dX3_failures_28 hl (k := 1) rfl (nI_1 k) (by decide) rfl (fun ls hl => ?_)
          refine lv_goto (tgt := 4) hx hb dX3_failures_31 (by decide) ?_
          exact ih4 (k + 1) (r + 1) (by omega) (by omega) (by rw [hinv]; simp [fails, g6, c22]) ls (lv_sub hl [0, 1, 2, 3] rfl)
  exact loop4 41 0 0 (by omega) (by omega) rfl ls (lv_sub hl [0, 1, 2, 3] rfl)
set_option maxHeartbeats 4000000 in
set_option maxRecDepth 100000 in
theorem k_openAll (l : Launch) (D : va_G) (cI cJ cZ : ClassId) (sz : Nat) (h hB q1 q2 q3 q4 q5 q6 q7 q8 q9 q10 q11 q12 q13 : Nat) (st oc tb fb ka eb : Nat → Int32) : Met l yX3_openAll wsX3_openAll ({ frames := 0, cells := 0, slots := 0, locals := 0 }) (PcRW [.ref h] sz D cI cJ cZ [(h, .inr (3, [.ref hB, .ref q1, .ref q2, .ref q3, .ref q4, .ref q5, .ref q6, .ref q7, .ref q8, .ref q9, .ref q10, .ref q11, .ref q12, .ref q13])), (q1, .inl (cI, 40, .inl st)), (q9, .inl (cI, 40, .inl oc)), (q10, .inl (cI, 40, .inl tb)), (q11, .inl (cI, 40, .inl fb)), (q12, .inl (cI, 40, .inl ka)), (q13, .inl (cI, 40, .inl eb))]) (QcV D (va_A [(h, .inr (3, [.ref hB, .ref q1, .ref q2, .ref q3, .ref q4, .ref q5, .ref q6, .ref q7, .ref q8, .ref q9, .ref q10, .ref q11, .ref q12, .ref q13])), (q1, .inl (cI, 40, .inl st)), (q9, .inl (cI, 40, .inl oc)), (q10, .inl (cI, 40, .inl tb)), (q11, .inl (cI, 40, .inl fb)), (q12, .inl (cI, 40, .inl ka)), (q13, .inl (cI, 40, .inl eb))] sz) [(h, .inr (3, [.ref hB, .ref q1, .ref q2, .ref q3, .ref q4, .ref q5, .ref q6, .ref q7, .ref q8, .ref q9, .ref q10, .ref q11, .ref q12, .ref q13])), (q1, .inl (cI, 40, .inl (fillTo st 40 (0)))), (q9, .inl (cI, 40, .inl (fillTo oc 40 (0)))), (q10, .inl (cI, 40, .inl (fillTo tb 40 (0)))), (q11, .inl (cI, 40, .inl (fillTo fb 40 (-1)))), (q12, .inl (cI, 40, .inl (fillTo ka 40 (-1)))), (q13, .inl (cI, 40, .inl (fillTo eb 40 (-1))))]) 0 0 (va_A [(h, .inr (3, [.ref hB, .ref q1, .ref q2, .ref q3, .ref q4, .ref q5, .ref q6, .ref q7, .ref q8, .ref q9, .ref q10, .ref q11, .ref q12, .ref q13])), (q1, .inl (cI, 40, .inl st)), (q9, .inl (cI, 40, .inl oc)), (q10, .inl (cI, 40, .inl tb)), (q11, .inl (cI, 40, .inl fb)), (q12, .inl (cI, 40, .inl ka)), (q13, .inl (cI, 40, .inl eb))] sz) := by
  refine Met.ofW (cc := cX3_openAll) (maxL := 2) (ret := none) (by decide) rfl ?_
  intro p e s m args below meth c s₁ B hml hv
  obtain ⟨rfl, hsz, hP, hE, hD0⟩ := hv
  have hx := B.exec
  have hb := B.bytes
  have hr := B.returns
  have hts := atoms_spec (ws := wsX3_openAll) B.pre
  have hown : s.vm.findClass RX3 = some m.cls := findClass_of_methodNamed B.named
  have hlocks := B.notSynchronized
  have hK := hE.1
  subst hsz
  have hD := hD0.self (sz := s.heap.size)
  generalize hAe : va_A [(h, .inr (3, [.ref hB, .ref q1, .ref q2, .ref q3, .ref q4, .ref q5, .ref q6, .ref q7, .ref q8, .ref q9, .ref q10, .ref q11, .ref q12, .ref q13])), (q1, .inl (cI, 40, .inl st)), (q9, .inl (cI, 40, .inl oc)), (q10, .inl (cI, 40, .inl tb)), (q11, .inl (cI, 40, .inl fb)), (q12, .inl (cI, 40, .inl ka)), (q13, .inl (cI, 40, .inl eb))] s.heap.size = A at hD ⊢
  have hA : ∀ q : Nat, s.heap.size ≤ q → A q := fun q h => by rw [← hAe]; exact Or.inr h
  have hS : va_S A s.heap s.heap [] := va_S.rf
  have hl := lv_entry ([.ref h]) (n := 2) (Nat.le_of_ble_eq_true rfl)
  rw [lg_entry_eq]
  generalize (lg_sl ([.ref h]) ++ List.replicate (2 - (lg_sl ([.ref h])).length) Slot.unset).toArray = ls at hl ⊢
  have hl : lv_has ls 2 [(0, .ref h)] := hl
  have hinX3 : ∀ w ∈ u_ws RX3 TX3 14, w ∈ wsX3_openAll := fun _ h => List.mem_cons_of_mem _ (List.mem_append_right _ h)
  refine lv_iconst (v := 0) hx hb dX3_openAll_0 (by decide) ?_
  refine lv_istore_n (lv' := [(1, .int 0), (0, .ref h)]) hx hb dX3_openAll_1 rfl hl (by decide) rfl (fun ls hl => ?_)
  have loop2 : ∀ (n : Nat) (k : Nat), (k ≤ 40) → (41 ≤ k + n) → ∀ (H : Heap) (locs : List Loc) (ls : Array Slot), va_P D vwCl [(h, .inr (3, [.ref hB, .ref q1, .ref q2, .ref q3, .ref q4, .ref q5, .ref q6, .ref q7, .ref q8, .ref q9, .ref q10, .ref q11, .ref q12, .ref q13])), (q1, .inl (cI, 40, .inl (fillTo st k (0)))), (q9, .inl (cI, 40, .inl (fillTo oc k (0)))), (q10, .inl (cI, 40, .inl (fillTo tb k (0)))), (q11, .inl (cI, 40, .inl (fillTo fb k (-1)))), (q12, .inl (cI, 40, .inl (fillTo ka k (-1)))), (q13, .inl (cI, 40, .inl (fillTo eb k (-1))))] H → va_D A [(h, .inr (3, [.ref hB, .ref q1, .ref q2, .ref q3, .ref q4, .ref q5, .ref q6, .ref q7, .ref q8, .ref q9, .ref q10, .ref q11, .ref q12, .ref q13])), (q1, .inl (cI, 40, .inl (fillTo st k (0)))), (q9, .inl (cI, 40, .inl (fillTo oc k (0)))), (q10, .inl (cI, 40, .inl (fillTo tb k (0)))), (q11, .inl (cI, 40, .inl (fillTo fb k (-1)))), (q12, .inl (cI, 40, .inl (fillTo ka k (-1)))), (q13, .inl (cI, 40, .inl (fillTo eb k (-1))))] → va_S A s.heap H locs → lv_has ls 2 [(1, .int (nI k)), (0, .ref h)] → W p l e (headSpec wsX3_openAll ({ frames := 0, cells := 0, slots := 0, locals := 0 })).room s m ([.ref h].toArray) below meth c H locs 0 0 (MQ below (QcV D A [(h, .inr (3, [.ref hB, .ref q1, .ref q2, .ref q3, .ref q4, .ref q5, .ref q6, .ref q7, .ref q8, .ref q9, .ref q10, .ref q11, .ref q12, .ref q13])), (q1, .inl (cI, 40, .inl (fillTo st 40 (0)))), (q9, .inl (cI, 40, .inl (fillTo oc 40 (0)))), (q10, .inl (cI, 40, .inl (fillTo tb 40 (0)))), (q11, .inl (cI, 40, .inl (fillTo fb 40 (-1)))), (q12, .inl (cI, 40, .inl (fillTo ka 40 (-1)))), (q13, .inl (cI, 40, .inl (fillTo eb 40 (-1))))]) ([.ref h].toArray) s 0 0 A) (F0 m 2 ls []) := by
    intro n
    induction n with
    | zero =>
      intro k hk hf
      exact absurd hf (by omega)
    | succ n ih2 =>
      intro k hk hf H locs ls hP hD hS hl
      refine lv_iload_n hx hb dX3_openAll_2 rfl (lv_at hl 0 rfl) ?_
      refine lv_bipush (v := 40) hx hb dX3_openAll_3 (by decide) ?_
      refine lv_icmp_ge (tgt := 56) hx hb dX3_openAll_5 (by decide) (fun c5 => ?_) (fun c5 => ?_)
      · obtain rfl : k = 40 := Nat.le_antisymm hk (Nat.le_of_not_lt (fun z => absurd c5 (nI_ge (b := 40) z (by decide))))
        exact W.vret hx hb hr (fun t ht hW => ⟨⟨(), rfl, trivial, by rw [ht]; exact hP, by exact hD⟩, hS.F ht⟩) hS.2.2 dX3_openAll_56
      · have g5 : k < 40 := Nat.lt_of_not_le (fun z => c5 (nI_le (a := 40) z (by omega)))
        refine lv_aload_n hx hb dX3_openAll_8 rfl (lv_at hl 1 rfl) ?_
        refine va_get (D := D) (ci := 3) (v := .ref q1) (C := RX3) (T := TX3) (N := 14) hx hb hts hinX3 hown hK hP 0 rfl rfl 1 (by decide) (hts (.fieldLink RX3 9 "LedgerShares$Sheet" "stages" "[I") (List.mem_of_getElem? (i := 1) rfl)) (fun _ h9 => h9) rfl dX3_openAll_9 ?_
        refine lv_iload_n hx hb dX3_openAll_12 rfl (lv_at hl 0 rfl) ?_
        refine lv_iconst (v := 0) hx hb dX3_openAll_13 (by decide) ?_
        refine x_iast hx hb hE hP hD hS 1 rfl (k) (by omega) (by decide) (rfl) (ws' := [(h, .inr (3, [.ref hB, .ref q1, .ref q2, .ref q3, .ref q4, .ref q5, .ref q6, .ref q7, .ref q8, .ref q9, .ref q10, .ref q11, .ref q12, .ref q13])), (q1, .inl (cI, 40, .inl (fillTo st (k + 1) (0)))), (q9, .inl (cI, 40, .inl (fillTo oc k (0)))), (q10, .inl (cI, 40, .inl (fillTo tb k (0)))), (q11, .inl (cI, 40, .inl (fillTo fb k (-1)))), (q12, .inl (cI, 40, .inl (fillTo ka k (-1)))), (q13, .inl (cI, 40, .inl (fillTo eb k (-1))))]) (by rw [fill_s]; rfl) dX3_openAll_14 (fun H locs hP hD hS => ?_)
        refine lv_aload_n hx hb dX3_openAll_15 rfl (lv_at hl 1 rfl) ?_
        refine va_get (D := D) (ci := 3) (v := .ref q9) (C := RX3) (T := TX3) (N := 14) hx hb hts hinX3 hown hK hP 0 rfl rfl 9 (by decide) (hts (.fieldLink RX3 38 "LedgerShares$Sheet" "outcomes" "[I") (List.mem_of_getElem? (i := 2) rfl)) (fun _ h9 => h9) rfl dX3_openAll_16 ?_
        refine lv_iload_n hx hb dX3_openAll_19 rfl (lv_at hl 0 rfl) ?_
        refine lv_iconst (v := 0) hx hb dX3_openAll_20 (by decide) ?_
        refine x_iast hx hb hE hP hD hS 2 rfl (k) (by omega) (by decide) (rfl) (ws' := [(h, .inr (3, [.ref hB, .ref q1, .ref q2, .ref q3, .ref q4, .ref q5, .ref q6, .ref q7, .ref q8, .ref q9, .ref q10, .ref q11, .ref q12, .ref q13])), (q1, .inl (cI, 40, .inl (fillTo st (k + 1) (0)))), (q9, .inl (cI, 40, .inl (fillTo oc (k + 1) (0)))), (q10, .inl (cI, 40, .inl (fillTo tb k (0)))), (q11, .inl (cI, 40, .inl (fillTo fb k (-1)))), (q12, .inl (cI, 40, .inl (fillTo ka k (-1)))), (q13, .inl (cI, 40, .inl (fillTo eb k (-1))))]) (by rw [fill_s]; rfl) dX3_openAll_21 (fun H locs hP hD hS => ?_)
        refine lv_aload_n hx hb dX3_openAll_22 rfl (lv_at hl 1 rfl) ?_
        refine va_get (D := D) (ci := 3) (v := .ref q10) (C := RX3) (T := TX3) (N := 14) hx hb hts hinX3 hown hK hP 0 rfl rfl 10 (by decide) (hts (.fieldLink RX3 41 "LedgerShares$Sheet" "timesBegun" "[I") (List.mem_of_getElem? (i := 3) rfl)) (fun _ h9 => h9) rfl dX3_openAll_23 ?_
        refine lv_iload_n hx hb dX3_openAll_26 rfl (lv_at hl 0 rfl) ?_
        refine lv_iconst (v := 0) hx hb dX3_openAll_27 (by decide) ?_
        refine x_iast hx hb hE hP hD hS 3 rfl (k) (by omega) (by decide) (rfl) (ws' := [(h, .inr (3, [.ref hB, .ref q1, .ref q2, .ref q3, .ref q4, .ref q5, .ref q6, .ref q7, .ref q8, .ref q9, .ref q10, .ref q11, .ref q12, .ref q13])), (q1, .inl (cI, 40, .inl (fillTo st (k + 1) (0)))), (q9, .inl (cI, 40, .inl (fillTo oc (k + 1) (0)))), (q10, .inl (cI, 40, .inl (fillTo tb (k + 1) (0)))), (q11, .inl (cI, 40, .inl (fillTo fb k (-1)))), (q12, .inl (cI, 40, .inl (fillTo ka k (-1)))), (q13, .inl (cI, 40, .inl (fillTo eb k (-1))))]) (by rw [fill_s]; rfl) dX3_openAll_28 (fun H locs hP hD hS => ?_)
        refine lv_aload_n hx hb dX3_openAll_29 rfl (lv_at hl 1 rfl) ?_
        refine va_get (D := D) (ci := 3) (v := .ref q11) (C := RX3) (T := TX3) (N := 14) hx hb hts hinX3 hown hK hP 0 rfl rfl 11 (by decide) (hts (.fieldLink RX3 44 "LedgerShares$Sheet" "firstBegun" "[I") (List.mem_of_getElem? (i := 4) rfl)) (fun _ h9 => h9) rfl dX3_openAll_30 ?_
        refine lv_iload_n hx hb dX3_openAll_33 rfl (lv_at hl 0 rfl) ?_
        refine lv_iconst (v := (-1)) hx hb dX3_openAll_34 (by decide) ?_
        refine x_iast hx hb hE hP hD hS 4 rfl (k) (by omega) (by decide) (rfl) (ws' := [(h, .inr (3, [.ref hB, .ref q1, .ref q2, .ref q3, .ref q4, .ref q5, .ref q6, .ref q7, .ref q8, .ref q9, .ref q10, .ref q11, .ref q12, .ref q13])), (q1, .inl (cI, 40, .inl (fillTo st (k + 1) (0)))), (q9, .inl (cI, 40, .inl (fillTo oc (k + 1) (0)))), (q10, .inl (cI, 40, .inl (fillTo tb (k + 1) (0)))), (q11, .inl (cI, 40, .inl (fillTo fb (k + 1) (-1)))), (q12, .inl (cI, 40, .inl (fillTo ka k (-1)))), (q13, .inl (cI, 40, .inl (fillTo eb k (-1))))]) (by rw [fill_s]; rfl) dX3_openAll_35 (fun H locs hP hD hS => ?_)
        refine lv_aload_n hx hb dX3_openAll_36 rfl (lv_at hl 1 rfl) ?_
        refine va_get (D := D) (ci := 3) (v := .ref q12) (C := RX3) (T := TX3) (N := 14) hx hb hts hinX3 hown hK hP 0 rfl rfl 12 (by decide) (hts (.fieldLink RX3 47 "LedgerShares$Sheet" "keptAt" "[I") (List.mem_of_getElem? (i := 5) rfl)) (fun _ h9 => h9) rfl dX3_openAll_37 ?_
        refine lv_iload_n hx hb dX3_openAll_40 rfl (lv_at hl 0 rfl) ?_
        refine lv_iconst (v := (-1)) hx hb dX3_openAll_41 (by decide) ?_
        refine x_iast hx hb hE hP hD hS 5 rfl (k) (by omega) (by decide) (rfl) (ws' := [(h, .inr (3, [.ref hB, .ref q1, .ref q2, .ref q3, .ref q4, .ref q5, .ref q6, .ref q7, .ref q8, .ref q9, .ref q10, .ref q11, .ref q12, .ref q13])), (q1, .inl (cI, 40, .inl (fillTo st (k + 1) (0)))), (q9, .inl (cI, 40, .inl (fillTo oc (k + 1) (0)))), (q10, .inl (cI, 40, .inl (fillTo tb (k + 1) (0)))), (q11, .inl (cI, 40, .inl (fillTo fb (k + 1) (-1)))), (q12, .inl (cI, 40, .inl (fillTo ka (k + 1) (-1)))), (q13, .inl (cI, 40, .inl (fillTo eb k (-1))))]) (by rw [fill_s]; rfl) dX3_openAll_42 (fun H locs hP hD hS => ?_)
        refine lv_aload_n hx hb dX3_openAll_43 rfl (lv_at hl 1 rfl) ?_
        refine va_get (D := D) (ci := 3) (v := .ref q13) (C := RX3) (T := TX3) (N := 14) hx hb hts hinX3 hown hK hP 0 rfl rfl 13 (by decide) (hts (.fieldLink RX3 50 "LedgerShares$Sheet" "endedBy" "[I") (List.mem_of_getElem? (i := 6) rfl)) (fun _ h9 => h9) rfl dX3_openAll_44 ?_
        refine lv_iload_n hx hb dX3_openAll_47 rfl (lv_at hl 0 rfl) ?_
        refine lv_iconst (v := (-1)) hx hb dX3_openAll_48 (by decide) ?_
        refine x_iast hx hb hE hP hD hS 6 rfl (k) (by omega) (by decide) (rfl) (ws' := [(h, .inr (3, [.ref hB, .ref q1, .ref q2, .ref q3, .ref q4, .ref q5, .ref q6, .ref q7, .ref q8, .ref q9, .ref q10, .ref q11, .ref q12, .ref q13])), (q1, .inl (cI, 40, .inl (fillTo st (k + 1) (0)))), (q9, .inl (cI, 40, .inl (fillTo oc (k + 1) (0)))), (q10, .inl (cI, 40, .inl (fillTo tb (k + 1) (0)))), (q11, .inl (cI, 40, .inl (fillTo fb (k + 1) (-1)))), (q12, .inl (cI, 40, .inl (fillTo ka (k + 1) (-1)))), (q13, .inl (cI, 40, .inl (fillTo eb (k + 1) (-1))))]) (by rw [fill_s]; rfl) dX3_openAll_49 (fun H locs hP hD hS => ?_)
        refine lv_iinc (v := nI (k + 1)) (lv' := [(1, .int (nI (k + 1))), (0, .ref h)]) hx hb dX3_openAll_50 hl (k := 0) rfl (nI_1 k) (by decide) rfl (fun ls hl => ?_)
        refine lv_goto (tgt := 2) hx hb dX3_openAll_53 (by decide) ?_
        exact ih2 (k + 1) (by omega) (by omega) _ _ ls hP hD hS (lv_sub hl [0, 1] rfl)
  exact loop2 41 0 (by omega) (by omega) _ _ ls (by simp only [fill_0]; exact hP) (by simp only [fill_0]; exact hD) hS (lv_sub hl [0, 1] rfl)
end
section
abbrev CS : Type := Nat × Int32 × Int32 × Int32 × Int32 × Int32 × Int32 × Int32 × (Nat → Int32) × (Nat → Int32) × (Nat → Int64) × (Nat → Int64) × (Nat → Int32) × (Nat → Int32) × (Nat → Int64) × (Nat → Int64) × (Nat → Int32) × (Nat → Int32) × (Nat → Int32) × (Nat → Int32) × (Nat → Int32) × Int32 × Nat × (Nat → Int32) × (Nat → Int32) × (Nat → Int32)
def lsN (st : Nat → Int32) (en : Nat) : Nat → Nat → Option Nat
  | 0, _ => none
  | n + 1, k => if k < en then (if st k = 0 then some k else lsN st en n (k + 1)) else none
theorem lsN_O (st : Nat → Int32) (en : Nat) : ∀ n k, lstO st en n k = (match lsN st en n k with | none => -1 | some j => nI j)
  | 0, _ => rfl
  | n + 1, k => by
    unfold lstO lsN
    by_cases h : k < en
    · by_cases h2 : st k = 0
      · simp [h, h2]
      · simp [h, h2, lsN_O st en n (k + 1)]
    · simp [h]
theorem lsN_in {st : Nat → Int32} {en : Nat} : ∀ {n k j : Nat}, lsN st en n k = some j → k ≤ j ∧ j < en ∧ st j = 0
  | 0, _, _, h => by simp [lsN] at h
  | n + 1, k, j, h => by
    unfold lsN at h
    by_cases h1 : k < en
    · by_cases h2 : st k = 0
      · simp [h1, h2] at h
        subst h
        exact ⟨Nat.le_refl _, h1, h2⟩
      · simp [h1, h2] at h
        have := lsN_in h
        exact ⟨by omega, this.2⟩
    · simp [h1] at h
def dsm (lf : Nat) (w : Int32) : Nat → Nat → Nat → (Nat → Int32) → (Nat → Int32) × Nat
  | 0, _, t, f => (f, t)
  | n + 1, k, t, f => if k < lf then (if f k = w then dsm lf w n (k + 1) t f else dsm lf w n (k + 1) (t + 1) (upd f t (f k))) else (f, t)
def takeCallF (cl rm : Nat) (ak bk sk gn : Nat → Int32) (w : Nat) : CS → CS
  | (kp, tk, bg, an, dm, uw, mu, id_, st, sl, ra, rb, ca, cb, ga, gb, oc, tb, fb, ka, eb, sd, lf, pr, ho, be) =>
    match lsN st (min cl (kp + rm)) 41 kp with
    | none => (kp, tk, bg, an, dm, uw, mu, id_ + 1, st, sl, ra, rb, ca, cb, ga, gb, oc, tb, fb, ka, eb, sd, lf, pr, ho, be)
    | some j =>
      if be w + 1 = gn w then (kp, tk, bg + 1, an, dm + 1, uw, mu, id_, st, sl, ra, rb, ca, cb, ga, gb, oc, upd tb j (tb j + 1), (if tb j = 0 then upd fb j tk else fb), ka, eb, sd, (dsm lf (nI w) 17 0 0 pr).2, (dsm lf (nI w) 17 0 0 pr).1, ho, upd be w (be w + 1))
      else (kp, tk, bg + 1, an, dm, uw + 1, mu, id_, upd st j 1, upd sl j (sk j), vp_updL ra j (stnd (upd st j 1) ca ak cb bk ga gb (ak j) j), vp_updL rb j (stnd (upd st j 1) ca ak cb bk ga gb (bk j) j), ca, cb, ga, gb, oc, upd tb j (tb j + 1), (if tb j = 0 then upd fb j tk else fb), ka, eb, sd, lf, pr, upd ho w (nI j), upd be w (be w + 1))
def stepF (ak bk ok ck : Nat → Int32) (k w : Nat) : CS → CS
  | (kp, tk, bg, an, dm, uw, mu, id_, st, sl, ra, rb, ca, cb, ga, gb, oc, tb, fb, ka, eb, sd, lf, pr, ho, be) =>
    if 0 < sl k - 1 then (kp, tk, bg, an, dm, uw, mu, id_, st, upd sl k (sl k - 1), ra, rb, ca, cb, ga, gb, oc, tb, fb, ka, eb, sd, lf, pr, ho, be)
    else (kp, tk, bg, an, dm, uw - 1, mu, id_, upd st k 2, upd sl k (sl k - 1), ra, rb, upd ca k (wChA (ok k) (ak k) (bk k) (ra k) (Int32.toInt64 (ck k))), upd cb k (wChB (ok k) (ak k) (bk k) (ra k) (rb k) (Int32.toInt64 (ck k))), (if (wChA (ok k) (ak k) (bk k) (ra k) (Int32.toInt64 (ck k))) = 1 then vp_updL ga k (wGA (ok k) (ra k) (rb k) (Int32.toInt64 (ck k))) else ga), (if (wChB (ok k) (ak k) (bk k) (ra k) (rb k) (Int32.toInt64 (ck k))) = 1 then vp_updL gb k (wGB (ok k) (ra k) (rb k) (Int32.toInt64 (ck k))) else gb), upd oc k (wOut (ok k) (ra k) (rb k) (Int32.toInt64 (ck k))), tb, fb, ka, upd eb k (nI w), sd, lf, pr, upd ho w (-1), be)
def takeTurnF (cl rm : Nat) (ak bk sk gn ok ck : Nat → Int32) (w : Nat) : CS → CS
  | (kp, tk, bg, an, dm, uw, mu, id_, st, sl, ra, rb, ca, cb, ga, gb, oc, tb, fb, ka, eb, sd, lf, pr, ho, be) => if ho w = -1 then takeCallF cl rm ak bk sk gn w (kp, tk, bg, an, dm, uw, mu, id_, st, sl, ra, rb, ca, cb, ga, gb, oc, tb, fb, ka, eb, sd, lf, pr, ho, be) else stepF ak bk ok ck (ho w).toNatClampNeg w (kp, tk, bg, an, dm, uw, mu, id_, st, sl, ra, rb, ca, cb, ga, gb, oc, tb, fb, ka, eb, sd, lf, pr, ho, be)
def keepF (cl : Nat) (ak bk : Nat → Int32) : Nat → CS → CS
  | 0, c => c
  | n + 1, (kp, tk, bg, an, dm, uw, mu, id_, st, sl, ra, rb, ca, cb, ga, gb, oc, tb, fb, ka, eb, sd, lf, pr, ho, be) =>
    if kp < cl ∧ st kp = 2 then
      if ra kp = stnd st ca ak cb bk ga gb (ak kp) kp ∧ rb kp = stnd st ca ak cb bk ga gb (bk kp) kp then keepF cl ak bk n (kp + 1, tk, bg, an, dm, uw, mu, id_, upd st kp 3, sl, ra, rb, ca, cb, ga, gb, oc, tb, fb, upd ka kp tk, eb, sd, lf, pr, ho, be)
      else (kp, tk, bg, an + 1, dm, uw, mu, id_, upd st kp 0, sl, ra, rb, ca, cb, ga, gb, oc, tb, fb, ka, eb, sd, lf, pr, ho, be)
    else (kp, tk, bg, an, dm, uw, mu, id_, st, sl, ra, rb, ca, cb, ga, gb, oc, tb, fb, ka, eb, sd, lf, pr, ho, be)
def nxs (sd : Int32) : Int32 := sd * 1103515245 + 12345
def turnI (sd : Int32) (n : Nat) : Nat := (sd.toBitVec.toNat / 2 ^ 16) % n
def tick0 (t : Nat) : CS → CS
  | (kp, tk, bg, an, dm, uw, mu, id_, st, sl, ra, rb, ca, cb, ga, gb, oc, tb, fb, ka, eb, sd, lf, pr, ho, be) => (kp, nI t, bg, an, dm, uw, mu, id_, st, sl, ra, rb, ca, cb, ga, gb, oc, tb, fb, ka, eb, nxs sd, lf, pr, ho, be)
def tickW : CS → Nat
  | (kp, tk, bg, an, dm, uw, mu, id_, st, sl, ra, rb, ca, cb, ga, gb, oc, tb, fb, ka, eb, sd, lf, pr, ho, be) => (pr (turnI sd lf)).toNatClampNeg
def tickE : CS → CS
  | (kp, tk, bg, an, dm, uw, mu, id_, st, sl, ra, rb, ca, cb, ga, gb, oc, tb, fb, ka, eb, sd, lf, pr, ho, be) => (kp, tk, bg, an, dm, uw, (if mu < uw then uw else mu), id_, st, sl, ra, rb, ca, cb, ga, gb, oc, tb, fb, ka, eb, sd, lf, pr, ho, be)
def tickF (cl rm : Nat) (ak bk sk gn ok ck : Nat → Int32) (t : Nat) (c : CS) : CS := tickE (keepF cl ak bk 41 (takeTurnF cl rm ak bk sk gn ok ck (tickW (tick0 t c)) (tick0 t c)))
def goF (cl rm : Nat) (ak bk sk gn ok ck : Nat → Int32) : Nat → Nat → CS → CS
  | 0, _, c => c
  | n + 1, t, (kp, tk, bg, an, dm, uw, mu, id_, st, sl, ra, rb, ca, cb, ga, gb, oc, tb, fb, ka, eb, sd, lf, pr, ho, be) => if t ≤ 30000 ∧ kp < cl ∧ 0 < lf then goF cl rm ak bk sk gn ok ck n (t + 1) (tickF cl rm ak bk sk gn ok ck t (kp, tk, bg, an, dm, uw, mu, id_, st, sl, ra, rb, ca, cb, ga, gb, oc, tb, fb, ka, eb, sd, lf, pr, ho, be)) else (kp, tk, bg, an, dm, uw, mu, id_, st, sl, ra, rb, ca, cb, ga, gb, oc, tb, fb, ka, eb, sd, lf, pr, ho, be)
def prepF (wk : Nat) (seed : Int32) : CS → CS
  | (kp, tk, bg, an, dm, uw, mu, id_, st, sl, ra, rb, ca, cb, ga, gb, oc, tb, fb, ka, eb, sd, lf, pr, ho, be) => (0, 0, 0, 0, 0, 0, 0, 0, fillTo st 40 0, sl, ra, rb, ca, cb, ga, gb, fillTo oc 40 0, fillTo tb 40 0, fillTo fb 40 (-1), fillTo ka 40 (-1), fillTo eb 40 (-1), seed, wk, mapTo pr wk nI, fillTo ho wk (-1), fillTo be wk 0)
def runF (cl rm : Nat) (ak bk sk gn ok ck : Nat → Int32) (wk : Nat) (seed : Int32) (c : CS) : CS := goF cl rm ak bk sk gn ok ck 30001 1 (prepF wk seed c)
theorem x_ushr16 (x : Int32) : (x.toUInt32 >>> ((16 : Int32).toUInt32 &&& Int32.toUInt32 31)).toInt32 = nI (x.toBitVec.toNat / 2 ^ 16) := by
  have h1 := pk_ushr x 16 16 (by decide)
  have hlt : x.toBitVec.toNat / 2 ^ 16 < 2 ^ 32 := Nat.lt_of_le_of_lt (Nat.div_le_self _ _) x.toBitVec.isLt
  have h2 := pk_tn hlt
  apply Int32.toBitVec_inj.mp
  apply BitVec.eq_of_toNat_eq
  rw [h1, h2]
theorem ushr_lt (x : Int32) : x.toBitVec.toNat / 2 ^ 16 < 2 ^ 31 := by
  have := x.toBitVec.isLt
  omega
theorem nI_ne_m1 {j : Nat} (h : j < 2 ^ 31) : ¬ nI j = -1 := by
  intro q
  have a := nI_toInt h
  rw [q] at a
  have : (-1 : Int32).toInt = -1 := by decide
  omega
theorem min_I {a b : Nat} (ha : a < 2 ^ 31) (hb : b < 2 ^ 31) : (if nI b < nI a then nI b else nI a) = nI (min a b) := by
  by_cases h : b < a
  · rw [if_pos (nI_lt h ha), Nat.min_eq_right (Nat.le_of_lt h)]
  · rw [if_neg (nI_nlt (Nat.le_of_not_lt h) hb), Nat.min_eq_left (Nat.le_of_not_lt h)]
end
section
set_option maxHeartbeats 4000000 in
set_option maxRecDepth 100000 in
theorem k_gather (l : Launch) (D : va_G) (cI cJ cZ : ClassId) (sz : Nat) (g g1 g2 g3 : Nat) (sd lf0 : Int32) (pr ho be : Nat → Int32) (wk : Nat) (hwk : wk ≤ 16) (seed : Int32) : Met l yX1_gather wsX1_gather ({ frames := 1, cells := 0, slots := 0, locals := 21 }) (PcRW [.ref g, .int (nI wk), .int seed] sz D cI cJ cZ [(g, .inr (1, [.int sd, .int lf0, .ref g1, .ref g2, .ref g3])), (g1, .inl (cI, 16, .inl pr)), (g2, .inl (cI, 16, .inl ho)), (g3, .inl (cI, 16, .inl be))]) (QcV D (va_A [(g, .inr (1, [.int sd, .int lf0, .ref g1, .ref g2, .ref g3])), (g1, .inl (cI, 16, .inl pr)), (g2, .inl (cI, 16, .inl ho)), (g3, .inl (cI, 16, .inl be))] sz) [(g, .inr (1, [.int seed, .int (nI wk), .ref g1, .ref g2, .ref g3])), (g1, .inl (cI, 16, .inl (mapTo pr wk nI))), (g2, .inl (cI, 16, .inl (fillTo ho wk (-1)))), (g3, .inl (cI, 16, .inl (fillTo be wk 0)))]) 0 0 (va_A [(g, .inr (1, [.int sd, .int lf0, .ref g1, .ref g2, .ref g3])), (g1, .inl (cI, 16, .inl pr)), (g2, .inl (cI, 16, .inl ho)), (g3, .inl (cI, 16, .inl be))] sz) := by
  refine Met.ofW (cc := cX1_gather) (maxL := 4) (ret := none) (by decide) rfl ?_
  intro p e s m args below meth c s₁ B hml hv
  obtain ⟨rfl, hsz, hP, hE, hD0⟩ := hv
  have hx := B.exec
  have hb := B.bytes
  have hr := B.returns
  have hts := atoms_spec (ws := wsX1_gather) B.pre
  have hown : s.vm.findClass RX1 = some m.cls := findClass_of_methodNamed B.named
  have hlocks := B.notSynchronized
  have hK := hE.1
  subst hsz
  have hD := hD0.self (sz := s.heap.size)
  generalize hAe : va_A [(g, .inr (1, [.int sd, .int lf0, .ref g1, .ref g2, .ref g3])), (g1, .inl (cI, 16, .inl pr)), (g2, .inl (cI, 16, .inl ho)), (g3, .inl (cI, 16, .inl be))] s.heap.size = A at hD ⊢
  have hA : ∀ q : Nat, s.heap.size ≤ q → A q := fun q h => by rw [← hAe]; exact Or.inr h
  have hS : va_S A s.heap s.heap [] := va_S.rf
  have hl := lv_entry ([.ref g, .int (nI wk), .int seed]) (n := 4) (Nat.le_of_ble_eq_true rfl)
  rw [lg_entry_eq]
  generalize (lg_sl ([.ref g, .int (nI wk), .int seed]) ++ List.replicate (4 - (lg_sl ([.ref g, .int (nI wk), .int seed])).length) Slot.unset).toArray = ls at hl ⊢
  have hl : lv_has ls 4 [(0, .ref g), (1, .int (nI wk)), (2, .int seed)] := hl
  have hinX1 : ∀ w ∈ u_ws RX1 TX1 5, w ∈ wsX1_gather := fun _ h => List.mem_cons_of_mem _ (List.mem_append_right _ h)
  refine lv_aload_n hx hb dX1_gather_0 rfl (lv_at hl 0 rfl) ?_
  refine lv_iload_n hx hb dX1_gather_1 rfl (lv_at hl 2 rfl) ?_
  refine x_put (D := D) (ci := 1) (v := .int seed) (ty := .int) (C := RX1) (T := TX1) (N := 5) hx hb hts hinX1 tyX1 tyX1_ok nmX1 hown hK hP hD hS 0 rfl rfl 0 (by decide) (hts (.fieldLink RX1 21 "LedgerShares$Crew" "seed" "I") (List.mem_of_getElem? (i := 1) rfl)) rfl (by decide +kernel) (rfl) (rfl) (Nat.le_of_ble_eq_true rfl) (ws' := [(g, .inr (1, [.int seed, .int lf0, .ref g1, .ref g2, .ref g3])), (g1, .inl (cI, 16, .inl pr)), (g2, .inl (cI, 16, .inl ho)), (g3, .inl (cI, 16, .inl be))]) rfl dX1_gather_2 (fun H locs hP hD hS => ?_)
  refine lv_aload_n hx hb dX1_gather_5 rfl (lv_at hl 0 rfl) ?_
  refine lv_iload_n hx hb dX1_gather_6 rfl (lv_at hl 1 rfl) ?_
  refine lv_bipush (v := 16) hx hb dX1_gather_7 (by decide) ?_
  refine va_mmin hx hb (by rw [hml]; exact hl.1.symm) hown (hts (.methodLink RX1 25 Lib.Math.min.name) (List.mem_of_getElem? (i := 2) rfl)) (hts (.static Lib.Math.min.name) (List.mem_of_getElem? (i := 3) rfl)) (hts (.initialized "java/lang/Math") (List.mem_of_getElem? (i := 4) rfl)) (hts (.code Lib.Math.min.name Lib.Math.min.code 2 (some .int)) (List.mem_of_getElem? (i := 5) rfl)) (Nat.le_of_ble_eq_true rfl) (Nat.le_of_ble_eq_true rfl) (Nat.zero_le _) (Nat.zero_le _) dX1_gather_9 ?_
  refine x_topi (y := nI wk) (if_neg (nI_nlt (a := 16) (b := wk) hwk (by decide))) ?_
  refine x_put (D := D) (ci := 1) (v := .int (nI wk)) (ty := .int) (C := RX1) (T := TX1) (N := 5) hx hb hts hinX1 tyX1 tyX1_ok nmX1 hown hK hP hD hS 0 rfl rfl 1 (by decide) (hts (.fieldLink RX1 31 "LedgerShares$Crew" "left" "I") (List.mem_of_getElem? (i := 6) rfl)) rfl (by decide +kernel) (rfl) (rfl) (Nat.le_of_ble_eq_true rfl) (ws' := [(g, .inr (1, [.int seed, .int (nI wk), .ref g1, .ref g2, .ref g3])), (g1, .inl (cI, 16, .inl pr)), (g2, .inl (cI, 16, .inl ho)), (g3, .inl (cI, 16, .inl be))]) rfl dX1_gather_12 (fun H locs hP hD hS => ?_)
  refine lv_iconst (v := 0) hx hb dX1_gather_15 (by decide) ?_
  refine lv_istore_n (lv' := [(3, .int 0), (0, .ref g), (1, .int (nI wk)), (2, .int seed)]) hx hb dX1_gather_16 rfl hl (by decide) rfl (fun ls hl => ?_)
  have loop17 : ∀ (n : Nat) (k : Nat), (k ≤ wk) → (17 ≤ k + n) → ∀ (H : Heap) (locs : List Loc) (ls : Array Slot), va_P D vwCl [(g, .inr (1, [.int seed, .int (nI wk), .ref g1, .ref g2, .ref g3])), (g1, .inl (cI, 16, .inl (mapTo pr k nI))), (g2, .inl (cI, 16, .inl (fillTo ho k (-1)))), (g3, .inl (cI, 16, .inl (fillTo be k 0)))] H → va_D A [(g, .inr (1, [.int seed, .int (nI wk), .ref g1, .ref g2, .ref g3])), (g1, .inl (cI, 16, .inl (mapTo pr k nI))), (g2, .inl (cI, 16, .inl (fillTo ho k (-1)))), (g3, .inl (cI, 16, .inl (fillTo be k 0)))] → va_S A s.heap H locs → lv_has ls 4 [(3, .int (nI k)), (0, .ref g), (1, .int (nI wk)), (2, .int seed)] → W p l e (headSpec wsX1_gather ({ frames := 1, cells := 0, slots := 0, locals := 21 })).room s m ([.ref g, .int (nI wk), .int seed].toArray) below meth c H locs 0 0 (MQ below (QcV D A [(g, .inr (1, [.int seed, .int (nI wk), .ref g1, .ref g2, .ref g3])), (g1, .inl (cI, 16, .inl (mapTo pr wk nI))), (g2, .inl (cI, 16, .inl (fillTo ho wk (-1)))), (g3, .inl (cI, 16, .inl (fillTo be wk 0)))]) ([.ref g, .int (nI wk), .int seed].toArray) s 0 0 A) (F0 m 17 ls []) := by
    intro n
    induction n with
    | zero =>
      intro k hk hf
      exact absurd hf (by omega)
    | succ n ih17 =>
      intro k hk hf H locs ls hP hD hS hl
      refine lv_iload_n hx hb dX1_gather_17 rfl (lv_at hl 0 rfl) ?_
      refine lv_aload_n hx hb dX1_gather_18 rfl (lv_at hl 1 rfl) ?_
      refine va_get (D := D) (ci := 1) (v := .int (nI wk)) (C := RX1) (T := TX1) (N := 5) hx hb hts hinX1 hown hK hP 0 rfl rfl 1 (by decide) (hts (.fieldLink RX1 31 "LedgerShares$Crew" "left" "I") (List.mem_of_getElem? (i := 6) rfl)) (fun _ h9 => h9) rfl dX1_gather_19 ?_
      refine lv_icmp_ge (tgt := 52) hx hb dX1_gather_22 (by decide) (fun c22 => ?_) (fun c22 => ?_)
      · obtain rfl : k = wk := Nat.le_antisymm hk (Nat.le_of_not_lt (fun z => absurd c22 (nI_ge z (by omega))))
        exact W.vret hx hb hr (fun t ht hW => ⟨⟨(), rfl, trivial, by rw [ht]; exact hP, by exact hD⟩, hS.F ht⟩) hS.2.2 dX1_gather_52
      · have g22 : k < wk := Nat.lt_of_not_le (fun z => c22 (nI_le z (by omega)))
        refine lv_aload_n hx hb dX1_gather_25 rfl (lv_at hl 1 rfl) ?_
        refine va_get (D := D) (ci := 1) (v := .ref g1) (C := RX1) (T := TX1) (N := 5) hx hb hts hinX1 hown hK hP 0 rfl rfl 2 (by decide) (hts (.fieldLink RX1 9 "LedgerShares$Crew" "present" "[I") (List.mem_of_getElem? (i := 7) rfl)) (fun _ h9 => h9) rfl dX1_gather_26 ?_
        refine lv_iload_n hx hb dX1_gather_29 rfl (lv_at hl 0 rfl) ?_
        refine lv_iload_n hx hb dX1_gather_30 rfl (lv_at hl 0 rfl) ?_
        refine x_iast hx hb hE hP hD hS 1 rfl (k) (by omega) (by decide) (rfl) (ws' := [(g, .inr (1, [.int seed, .int (nI wk), .ref g1, .ref g2, .ref g3])), (g1, .inl (cI, 16, .inl (mapTo pr (k + 1) nI))), (g2, .inl (cI, 16, .inl (fillTo ho k (-1)))), (g3, .inl (cI, 16, .inl (fillTo be k 0)))]) (by rw [map_s pr k nI]; rfl) dX1_gather_31 (fun H locs hP hD hS => ?_)
        refine lv_aload_n hx hb dX1_gather_32 rfl (lv_at hl 1 rfl) ?_
        refine va_get (D := D) (ci := 1) (v := .ref g2) (C := RX1) (T := TX1) (N := 5) hx hb hts hinX1 hown hK hP 0 rfl rfl 3 (by decide) (hts (.fieldLink RX1 15 "LedgerShares$Crew" "holds" "[I") (List.mem_of_getElem? (i := 8) rfl)) (fun _ h9 => h9) rfl dX1_gather_33 ?_
        refine lv_iload_n hx hb dX1_gather_36 rfl (lv_at hl 0 rfl) ?_
        refine lv_iconst (v := (-1)) hx hb dX1_gather_37 (by decide) ?_
        refine x_iast hx hb hE hP hD hS 2 rfl (k) (by omega) (by decide) (rfl) (ws' := [(g, .inr (1, [.int seed, .int (nI wk), .ref g1, .ref g2, .ref g3])), (g1, .inl (cI, 16, .inl (mapTo pr (k + 1) nI))), (g2, .inl (cI, 16, .inl (fillTo ho (k + 1) (-1)))), (g3, .inl (cI, 16, .inl (fillTo be k 0)))]) (by rw [fill_s]; rfl) dX1_gather_38 (fun H locs hP hD hS => ?_)
        refine lv_aload_n hx hb dX1_gather_39 rfl (lv_at hl 1 rfl) ?_
        refine va_get (D := D) (ci := 1) (v := .ref g3) (C := RX1) (T := TX1) (N := 5) hx hb hts hinX1 hown hK hP 0 rfl rfl 4 (by decide) (hts (.fieldLink RX1 18 "LedgerShares$Crew" "begins" "[I") (List.mem_of_getElem? (i := 9) rfl)) (fun _ h9 => h9) rfl dX1_gather_40 ?_
        refine lv_iload_n hx hb dX1_gather_43 rfl (lv_at hl 0 rfl) ?_
        refine lv_iconst (v := 0) hx hb dX1_gather_44 (by decide) ?_
        refine x_iast hx hb hE hP hD hS 3 rfl (k) (by omega) (by decide) (rfl) (ws' := [(g, .inr (1, [.int seed, .int (nI wk), .ref g1, .ref g2, .ref g3])), (g1, .inl (cI, 16, .inl (mapTo pr (k + 1) nI))), (g2, .inl (cI, 16, .inl (fillTo ho (k + 1) (-1)))), (g3, .inl (cI, 16, .inl (fillTo be (k + 1) 0)))]) (by rw [fill_s]; rfl) dX1_gather_45 (fun H locs hP hD hS => ?_)
        refine lv_iinc (v := nI (k + 1)) (lv' := [(3, .int (nI (k + 1))), (0, .ref g), (1, .int (nI wk)), (2, .int seed)]) hx hb dX1_gather_46 hl (k := 0) rfl (nI_1 k) (by decide) rfl (fun ls hl => ?_)
        refine lv_goto (tgt := 17) hx hb dX1_gather_49 (by decide) ?_
        exact ih17 (k + 1) (by omega) (by omega) _ _ ls hP hD hS (lv_sub hl [0, 1, 2, 3] rfl)
  exact loop17 17 0 (by omega) (by omega) _ _ ls (by simp only [fill_0, map_0]; exact hP) (by simp only [fill_0, map_0]; exact hD) hS (lv_sub hl [0, 1, 2, 3] rfl)
set_option maxHeartbeats 4000000 in
set_option maxRecDepth 100000 in
theorem k_nextInTurn (l : Launch) (D : va_G) (cI cJ cZ : ClassId) (sz : Nat) (g g1 g2 g3 : Nat) (sd : Int32) (lf : Nat) (pr : Nat → Int32) (hlf : 0 < lf) (hl16 : lf ≤ 16) : Met l yX1_nextInTurn wsX1_nextInTurn ({ frames := 0, cells := 0, slots := 0, locals := 0 }) (PcRW [.ref g] sz D cI cJ cZ [(g, .inr (1, [.int sd, .int (nI lf), .ref g1, .ref g2, .ref g3])), (g1, .inl (cI, 16, .inl pr))]) (QcI (fun r => r = pr (turnI (nxs sd) lf)) D (va_A [(g, .inr (1, [.int sd, .int (nI lf), .ref g1, .ref g2, .ref g3])), (g1, .inl (cI, 16, .inl pr))] sz) [(g, .inr (1, [.int (nxs sd), .int (nI lf), .ref g1, .ref g2, .ref g3])), (g1, .inl (cI, 16, .inl pr))]) 0 0 (va_A [(g, .inr (1, [.int sd, .int (nI lf), .ref g1, .ref g2, .ref g3])), (g1, .inl (cI, 16, .inl pr))] sz) := by
  refine Met.ofW (cc := cX1_nextInTurn) (maxL := 1) (ret := some .int) (by decide) rfl ?_
  intro p e s m args below meth c s₁ B hml hv
  obtain ⟨rfl, hsz, hP, hE, hD0⟩ := hv
  have hx := B.exec
  have hb := B.bytes
  have hr := B.returns
  have hts := atoms_spec (ws := wsX1_nextInTurn) B.pre
  have hown : s.vm.findClass RX1 = some m.cls := findClass_of_methodNamed B.named
  have hlocks := B.notSynchronized
  have hK := hE.1
  subst hsz
  have hD := hD0.self (sz := s.heap.size)
  generalize hAe : va_A [(g, .inr (1, [.int sd, .int (nI lf), .ref g1, .ref g2, .ref g3])), (g1, .inl (cI, 16, .inl pr))] s.heap.size = A at hD ⊢
  have hA : ∀ q : Nat, s.heap.size ≤ q → A q := fun q h => by rw [← hAe]; exact Or.inr h
  have hS : va_S A s.heap s.heap [] := va_S.rf
  have hl := lv_entry ([.ref g]) (n := 1) (Nat.le_of_ble_eq_true rfl)
  rw [lg_entry_eq]
  generalize (lg_sl ([.ref g]) ++ List.replicate (1 - (lg_sl ([.ref g])).length) Slot.unset).toArray = ls at hl ⊢
  have hl : lv_has ls 1 [(0, .ref g)] := hl
  have hinX1 : ∀ w ∈ u_ws RX1 TX1 5, w ∈ wsX1_nextInTurn := fun _ h => List.mem_cons_of_mem _ (List.mem_append_right _ h)
  refine lv_aload_n hx hb dX1_nextInTurn_0 rfl (lv_at hl 0 rfl) ?_
  refine lv_aload_n hx hb dX1_nextInTurn_1 rfl (lv_at hl 0 rfl) ?_
  refine va_get (D := D) (ci := 1) (v := .int sd) (C := RX1) (T := TX1) (N := 5) hx hb hts hinX1 hown hK hP 0 rfl rfl 0 (by decide) (hts (.fieldLink RX1 21 "LedgerShares$Crew" "seed" "I") (List.mem_of_getElem? (i := 1) rfl)) (fun _ h9 => h9) rfl dX1_nextInTurn_2 ?_
  refine lv_ldc hx hb hown (hts (.constant RX1 34 (1103515245)) (List.mem_of_getElem? (i := 2) rfl)) dX1_nextInTurn_5 ?_
  refine lv_imul hx hb dX1_nextInTurn_7 ?_
  refine lv_sipush (v := 12345) hx hb dX1_nextInTurn_8 (by decide) ?_
  refine lv_iadd hx hb dX1_nextInTurn_11 ?_
  refine x_topi (y := nxs sd) (rfl) ?_
  refine x_put (D := D) (ci := 1) (v := .int (nxs sd)) (ty := .int) (C := RX1) (T := TX1) (N := 5) hx hb hts hinX1 tyX1 tyX1_ok nmX1 hown hK hP hD hS 0 rfl rfl 0 (by decide) (hts (.fieldLink RX1 21 "LedgerShares$Crew" "seed" "I") (List.mem_of_getElem? (i := 1) rfl)) rfl (by decide +kernel) (rfl) (rfl) (Nat.le_of_ble_eq_true rfl) (ws' := [(g, .inr (1, [.int (nxs sd), .int (nI lf), .ref g1, .ref g2, .ref g3])), (g1, .inl (cI, 16, .inl pr))]) rfl dX1_nextInTurn_12 (fun H locs hP hD hS => ?_)
  refine lv_aload_n hx hb dX1_nextInTurn_15 rfl (lv_at hl 0 rfl) ?_
  refine va_get (D := D) (ci := 1) (v := .int (nI lf)) (C := RX1) (T := TX1) (N := 5) hx hb hts hinX1 hown hK hP 0 rfl rfl 1 (by decide) (hts (.fieldLink RX1 31 "LedgerShares$Crew" "left" "I") (List.mem_of_getElem? (i := 3) rfl)) (fun _ h9 => h9) rfl dX1_nextInTurn_16 ?_
  refine lv_if_le (tgt := 42) hx hb dX1_nextInTurn_19 (by decide) (fun c19 => absurd c19 (nI_nle hlf (by omega))) (fun c19 => ?_)
  refine lv_aload_n hx hb dX1_nextInTurn_22 rfl (lv_at hl 0 rfl) ?_
  refine va_get (D := D) (ci := 1) (v := .ref g1) (C := RX1) (T := TX1) (N := 5) hx hb hts hinX1 hown hK hP 0 rfl rfl 2 (by decide) (hts (.fieldLink RX1 9 "LedgerShares$Crew" "present" "[I") (List.mem_of_getElem? (i := 4) rfl)) (fun _ h9 => h9) rfl dX1_nextInTurn_23 ?_
  refine lv_aload_n hx hb dX1_nextInTurn_26 rfl (lv_at hl 0 rfl) ?_
  refine va_get (D := D) (ci := 1) (v := .int (nxs sd)) (C := RX1) (T := TX1) (N := 5) hx hb hts hinX1 hown hK hP 0 rfl rfl 0 (by decide) (hts (.fieldLink RX1 21 "LedgerShares$Crew" "seed" "I") (List.mem_of_getElem? (i := 1) rfl)) (fun _ h9 => h9) rfl dX1_nextInTurn_27 ?_
  refine lv_bipush (v := 16) hx hb dX1_nextInTurn_30 (by decide) ?_
  refine lv_iushr (v := nI ((nxs sd).toBitVec.toNat / 2 ^ 16)) hx hb dX1_nextInTurn_32 (x_ushr16 _) ?_
  refine lv_aload_n hx hb dX1_nextInTurn_33 rfl (lv_at hl 0 rfl) ?_
  refine va_get (D := D) (ci := 1) (v := .int (nI lf)) (C := RX1) (T := TX1) (N := 5) hx hb hts hinX1 hown hK hP 0 rfl rfl 1 (by decide) (hts (.fieldLink RX1 31 "LedgerShares$Crew" "left" "I") (List.mem_of_getElem? (i := 3) rfl)) (fun _ h9 => h9) rfl dX1_nextInTurn_34 ?_
  refine lv_irem hx hb dX1_nextInTurn_37 (nI_ne0 hlf (by omega)) ?_
  refine x_topi (y := nI (turnI (nxs sd) lf)) (pk_rem (ushr_lt _) hlf (by omega)) ?_
  refine x_iald hx hb hE hP 1 rfl (turnI (nxs sd) lf) (Nat.lt_of_lt_of_le (Nat.mod_lt _ hlf) hl16) (by decide) (rfl) dX1_nextInTurn_38 ?_
  refine lv_goto (tgt := 43) hx hb dX1_nextInTurn_39 (by decide) ?_
  exact W.iret hx hb hr (fun t ht hW => ⟨⟨_, (), rfl, rfl, by rw [ht]; exact hP, by exact hD⟩, hS.F ht⟩) hS.2.2 dX1_nextInTurn_43
set_option maxHeartbeats 4000000 in
set_option maxRecDepth 100000 in
theorem k_beginsOnceMore (l : Launch) (D : va_G) (cI cJ cZ : ClassId) (sz : Nat) (g g1 g2 g3 : Nat) (sd : Int32) (lf : Int32) (be : Nat → Int32) (w : Nat) (hw : w < 16) : Met l yX1_beginsOnceMore wsX1_beginsOnceMore ({ frames := 0, cells := 0, slots := 0, locals := 0 }) (PcRW [.ref g, .int (nI w)] sz D cI cJ cZ [(g, .inr (1, [.int sd, .int lf, .ref g1, .ref g2, .ref g3])), (g3, .inl (cI, 16, .inl be))]) (QcI (fun r => r = be w + 1) D (va_A [(g, .inr (1, [.int sd, .int lf, .ref g1, .ref g2, .ref g3])), (g3, .inl (cI, 16, .inl be))] sz) [(g, .inr (1, [.int sd, .int lf, .ref g1, .ref g2, .ref g3])), (g3, .inl (cI, 16, .inl (upd be w (be w + 1))))]) 0 0 (va_A [(g, .inr (1, [.int sd, .int lf, .ref g1, .ref g2, .ref g3])), (g3, .inl (cI, 16, .inl be))] sz) := by
  refine Met.ofW (cc := cX1_beginsOnceMore) (maxL := 2) (ret := some .int) (by decide) rfl ?_
  intro p e s m args below meth c s₁ B hml hv
  obtain ⟨rfl, hsz, hP, hE, hD0⟩ := hv
  have hx := B.exec
  have hb := B.bytes
  have hr := B.returns
  have hts := atoms_spec (ws := wsX1_beginsOnceMore) B.pre
  have hown : s.vm.findClass RX1 = some m.cls := findClass_of_methodNamed B.named
  have hlocks := B.notSynchronized
  have hK := hE.1
  subst hsz
  have hD := hD0.self (sz := s.heap.size)
  generalize hAe : va_A [(g, .inr (1, [.int sd, .int lf, .ref g1, .ref g2, .ref g3])), (g3, .inl (cI, 16, .inl be))] s.heap.size = A at hD ⊢
  have hA : ∀ q : Nat, s.heap.size ≤ q → A q := fun q h => by rw [← hAe]; exact Or.inr h
  have hS : va_S A s.heap s.heap [] := va_S.rf
  have hl := lv_entry ([.ref g, .int (nI w)]) (n := 2) (Nat.le_of_ble_eq_true rfl)
  rw [lg_entry_eq]
  generalize (lg_sl ([.ref g, .int (nI w)]) ++ List.replicate (2 - (lg_sl ([.ref g, .int (nI w)])).length) Slot.unset).toArray = ls at hl ⊢
  have hl : lv_has ls 2 [(0, .ref g), (1, .int (nI w))] := hl
  have hinX1 : ∀ w ∈ u_ws RX1 TX1 5, w ∈ wsX1_beginsOnceMore := fun _ h => List.mem_cons_of_mem _ (List.mem_append_right _ h)
  refine lv_aload_n hx hb dX1_beginsOnceMore_0 rfl (lv_at hl 0 rfl) ?_
  refine va_get (D := D) (ci := 1) (v := .ref g3) (C := RX1) (T := TX1) (N := 5) hx hb hts hinX1 hown hK hP 0 rfl rfl 4 (by decide) (hts (.fieldLink RX1 18 "LedgerShares$Crew" "begins" "[I") (List.mem_of_getElem? (i := 1) rfl)) (fun _ h9 => h9) rfl dX1_beginsOnceMore_1 ?_
  refine lv_iload_n hx hb dX1_beginsOnceMore_4 rfl (lv_at hl 1 rfl) ?_
  refine lv_dup2_11 hx hb dX1_beginsOnceMore_5 rfl rfl ?_
  refine x_iald hx hb hE hP 1 rfl (w) hw (by decide) (rfl) dX1_beginsOnceMore_6 ?_
  refine lv_iconst (v := 1) hx hb dX1_beginsOnceMore_7 (by decide) ?_
  refine lv_iadd hx hb dX1_beginsOnceMore_8 ?_
  refine x_iast hx hb hE hP hD hS 1 rfl (w) hw (by decide) (rfl) (ws' := [(g, .inr (1, [.int sd, .int lf, .ref g1, .ref g2, .ref g3])), (g3, .inl (cI, 16, .inl (upd be w ((be w) + 1))))]) (rfl) dX1_beginsOnceMore_9 (fun H locs hP hD hS => ?_)
  refine lv_aload_n hx hb dX1_beginsOnceMore_10 rfl (lv_at hl 0 rfl) ?_
  refine va_get (D := D) (ci := 1) (v := .ref g3) (C := RX1) (T := TX1) (N := 5) hx hb hts hinX1 hown hK hP 0 rfl rfl 4 (by decide) (hts (.fieldLink RX1 18 "LedgerShares$Crew" "begins" "[I") (List.mem_of_getElem? (i := 1) rfl)) (fun _ h9 => h9) rfl dX1_beginsOnceMore_11 ?_
  refine lv_iload_n hx hb dX1_beginsOnceMore_14 rfl (lv_at hl 1 rfl) ?_
  refine x_iald hx hb hE hP 1 rfl (w) hw (by decide) (rfl) dX1_beginsOnceMore_15 ?_
  refine x_topi (y := be w + 1) (upd_s _ _ _) ?_
  exact W.iret hx hb hr (fun t ht hW => ⟨⟨_, (), rfl, rfl, by rw [ht]; exact hP, by exact hD⟩, hS.F ht⟩) hS.2.2 dX1_beginsOnceMore_16
set_option maxHeartbeats 4000000 in
set_option maxRecDepth 100000 in
theorem k_dismiss (l : Launch) (D : va_G) (cI cJ cZ : ClassId) (sz : Nat) (g g1 g2 g3 : Nat) (sd : Int32) (lf : Nat) (pr : Nat → Int32) (w : Nat) (hl16 : lf ≤ 16) : Met l yX1_dismiss wsX1_dismiss ({ frames := 0, cells := 0, slots := 0, locals := 0 }) (PcRW [.ref g, .int (nI w)] sz D cI cJ cZ [(g, .inr (1, [.int sd, .int (nI lf), .ref g1, .ref g2, .ref g3])), (g1, .inl (cI, 16, .inl pr))]) (QcV D (va_A [(g, .inr (1, [.int sd, .int (nI lf), .ref g1, .ref g2, .ref g3])), (g1, .inl (cI, 16, .inl pr))] sz) [(g, .inr (1, [.int sd, .int (nI (dsm lf (nI w) 17 0 0 pr).2), .ref g1, .ref g2, .ref g3])), (g1, .inl (cI, 16, .inl ((dsm lf (nI w) 17 0 0 pr).1)))]) 0 0 (va_A [(g, .inr (1, [.int sd, .int (nI lf), .ref g1, .ref g2, .ref g3])), (g1, .inl (cI, 16, .inl pr))] sz) := by
  refine Met.ofW (cc := cX1_dismiss) (maxL := 4) (ret := none) (by decide) rfl ?_
  intro p e s m args below meth c s₁ B hml hv
  obtain ⟨rfl, hsz, hP, hE, hD0⟩ := hv
  have hx := B.exec
  have hb := B.bytes
  have hr := B.returns
  have hts := atoms_spec (ws := wsX1_dismiss) B.pre
  have hown : s.vm.findClass RX1 = some m.cls := findClass_of_methodNamed B.named
  have hlocks := B.notSynchronized
  have hK := hE.1
  subst hsz
  have hD := hD0.self (sz := s.heap.size)
  generalize hAe : va_A [(g, .inr (1, [.int sd, .int (nI lf), .ref g1, .ref g2, .ref g3])), (g1, .inl (cI, 16, .inl pr))] s.heap.size = A at hD ⊢
  have hA : ∀ q : Nat, s.heap.size ≤ q → A q := fun q h => by rw [← hAe]; exact Or.inr h
  have hS : va_S A s.heap s.heap [] := va_S.rf
  have hl := lv_entry ([.ref g, .int (nI w)]) (n := 4) (Nat.le_of_ble_eq_true rfl)
  rw [lg_entry_eq]
  generalize (lg_sl ([.ref g, .int (nI w)]) ++ List.replicate (4 - (lg_sl ([.ref g, .int (nI w)])).length) Slot.unset).toArray = ls at hl ⊢
  have hl : lv_has ls 4 [(0, .ref g), (1, .int (nI w))] := hl
  have hinX1 : ∀ w ∈ u_ws RX1 TX1 5, w ∈ wsX1_dismiss := fun _ h => List.mem_cons_of_mem _ (List.mem_append_right _ h)
  refine lv_iconst (v := 0) hx hb dX1_dismiss_0 (by decide) ?_
  refine lv_istore_n (lv' := [(2, .int 0), (0, .ref g), (1, .int (nI w))]) hx hb dX1_dismiss_1 rfl hl (by decide) rfl (fun ls hl => ?_)
  refine lv_iconst (v := 0) hx hb dX1_dismiss_2 (by decide) ?_
  refine lv_istore_n (lv' := [(3, .int 0), (2, .int 0), (0, .ref g), (1, .int (nI w))]) hx hb dX1_dismiss_3 rfl hl (by decide) rfl (fun ls hl => ?_)
  have loop4 : ∀ (n : Nat) (k t : Nat) (f : Nat → Int32), (t ≤ k) → (k ≤ lf) → (17 ≤ k + n) → (dsm lf (nI w) 17 0 0 pr = dsm lf (nI w) n k t f) → ∀ (H : Heap) (locs : List Loc) (ls : Array Slot), va_P D vwCl [(g, .inr (1, [.int sd, .int (nI lf), .ref g1, .ref g2, .ref g3])), (g1, .inl (cI, 16, .inl f))] H → va_D A [(g, .inr (1, [.int sd, .int (nI lf), .ref g1, .ref g2, .ref g3])), (g1, .inl (cI, 16, .inl f))] → va_S A s.heap H locs → lv_has ls 4 [(3, .int (nI k)), (2, .int (nI t)), (0, .ref g), (1, .int (nI w))] → W p l e (headSpec wsX1_dismiss ({ frames := 0, cells := 0, slots := 0, locals := 0 })).room s m ([.ref g, .int (nI w)].toArray) below meth c H locs 0 0 (MQ below (QcV D A [(g, .inr (1, [.int sd, .int (nI (dsm lf (nI w) 17 0 0 pr).2), .ref g1, .ref g2, .ref g3])), (g1, .inl (cI, 16, .inl ((dsm lf (nI w) 17 0 0 pr).1)))]) ([.ref g, .int (nI w)].toArray) s 0 0 A) (F0 m 4 ls []) := by
    intro n
    induction n with
    | zero =>
      intro k t f htk hk hf hinv
      exact absurd hf (by omega)
    | succ n ih4 =>
      intro k t f htk hk hf hinv H locs ls hP hD hS hl
      refine lv_iload_n hx hb dX1_dismiss_4 rfl (lv_at hl 0 rfl) ?_
      refine lv_aload_n hx hb dX1_dismiss_5 rfl (lv_at hl 2 rfl) ?_
      refine va_get (D := D) (ci := 1) (v := .int (nI lf)) (C := RX1) (T := TX1) (N := 5) hx hb hts hinX1 hown hK hP 0 rfl rfl 1 (by decide) (hts (.fieldLink RX1 31 "LedgerShares$Crew" "left" "I") (List.mem_of_getElem? (i := 1) rfl)) (fun _ h9 => h9) rfl dX1_dismiss_6 ?_
      refine lv_icmp_ge (tgt := 43) hx hb dX1_dismiss_9 (by decide) (fun c9 => ?_) (fun c9 => ?_)
      · refine lv_aload_n hx hb dX1_dismiss_43 rfl (lv_at hl 2 rfl) ?_
        refine lv_iload_n hx hb dX1_dismiss_44 rfl (lv_at hl 1 rfl) ?_
        refine x_put (D := D) (ci := 1) (v := .int (nI t)) (ty := .int) (C := RX1) (T := TX1) (N := 5) hx hb hts hinX1 tyX1 tyX1_ok nmX1 hown hK hP hD hS 0 rfl rfl 1 (by decide) (hts (.fieldLink RX1 31 "LedgerShares$Crew" "left" "I") (List.mem_of_getElem? (i := 1) rfl)) rfl (by decide +kernel) (rfl) (rfl) (Nat.le_of_ble_eq_true rfl) (ws' := [(g, .inr (1, [.int sd, .int (nI t), .ref g1, .ref g2, .ref g3])), (g1, .inl (cI, 16, .inl f))]) rfl dX1_dismiss_45 (fun H locs hP hD hS => ?_)
        have q : dsm lf (nI w) 17 0 0 pr = (f, t) := by rw [hinv]; simp [dsm, show ¬ k < lf from fun z => absurd c9 (nI_ge z (by omega))]
        exact W.vret hx hb hr (fun t ht hW => ⟨⟨(), rfl, trivial, by rw [ht]; rw [q]; exact hP, by rw [q]; exact hD⟩, hS.F ht⟩) hS.2.2 dX1_dismiss_48
      · have g9 : k < lf := Nat.lt_of_not_le (fun z => c9 (nI_le z (by omega)))
        refine lv_aload_n hx hb dX1_dismiss_12 rfl (lv_at hl 2 rfl) ?_
        refine va_get (D := D) (ci := 1) (v := .ref g1) (C := RX1) (T := TX1) (N := 5) hx hb hts hinX1 hown hK hP 0 rfl rfl 2 (by decide) (hts (.fieldLink RX1 9 "LedgerShares$Crew" "present" "[I") (List.mem_of_getElem? (i := 2) rfl)) (fun _ h9 => h9) rfl dX1_dismiss_13 ?_
        refine lv_iload_n hx hb dX1_dismiss_16 rfl (lv_at hl 0 rfl) ?_
        refine x_iald hx hb hE hP 1 rfl (k) (by omega) (by decide) (rfl) dX1_dismiss_17 ?_
        refine lv_iload_n hx hb dX1_dismiss_18 rfl (lv_at hl 3 rfl) ?_
        refine lv_icmp_eq (tgt := 37) hx hb dX1_dismiss_19 (by decide) (fun c19 => ?_) (fun c19 => ?_)
        · refine lv_iinc (v := nI (k + 1)) (lv' := [(3, .int (nI (k + 1))), (2, .int (nI t)), (0, .ref g), (1, .int (nI w))]) hx hb dX1_dismiss_37 hl (k := 0) rfl (nI_1 k) (by decide) rfl (fun ls hl => ?_)
          refine lv_goto (tgt := 4) hx hb dX1_dismiss_40 (by decide) ?_
          exact ih4 (k + 1) t f (by omega) (by omega) (by omega) (by rw [hinv]; simp [dsm, g9, c19]) _ _ ls hP hD hS (lv_sub hl [0, 1, 2, 3] rfl)
        · refine lv_aload_n hx hb dX1_dismiss_22 rfl (lv_at hl 2 rfl) ?_
          refine va_get (D := D) (ci := 1) (v := .ref g1) (C := RX1) (T := TX1) (N := 5) hx hb hts hinX1 hown hK hP 0 rfl rfl 2 (by decide) (hts (.fieldLink RX1 9 "LedgerShares$Crew" "present" "[I") (List.mem_of_getElem? (i := 2) rfl)) (fun _ h9 => h9) rfl dX1_dismiss_23 ?_
          refine lv_iload_n hx hb dX1_dismiss_26 rfl (lv_at hl 1 rfl) ?_
          refine lv_aload_n hx hb dX1_dismiss_27 rfl (lv_at hl 2 rfl) ?_
          refine va_get (D := D) (ci := 1) (v := .ref g1) (C := RX1) (T := TX1) (N := 5) hx hb hts hinX1 hown hK hP 0 rfl rfl 2 (by decide) (hts (.fieldLink RX1 9 "LedgerShares$Crew" "present" "[I") (List.mem_of_getElem? (i := 2) rfl)) (fun _ h9 => h9) rfl dX1_dismiss_28 ?_
          refine lv_iload_n hx hb dX1_dismiss_31 rfl (lv_at hl 0 rfl) ?_
          refine x_iald hx hb hE hP 1 rfl (k) (by omega) (by decide) (rfl) dX1_dismiss_32 ?_
          refine x_iast hx hb hE hP hD hS 1 rfl (t) (by omega) (by decide) (rfl) (ws' := [(g, .inr (1, [.int sd, .int (nI lf), .ref g1, .ref g2, .ref g3])), (g1, .inl (cI, 16, .inl (upd f t (f k))))]) (rfl) dX1_dismiss_33 (fun H locs hP hD hS => ?_)
          refine lv_iinc (v := nI (t + 1)) (lv' := [(2, .int (nI (t + 1))), (3, .int (nI k)), (0, .ref g), (1, .int (nI w))]) hx hb dX1_dismiss_34 hl (k := 1) rfl (nI_1 t) (by decide) rfl (fun ls hl => ?_)
          refine lv_iinc (v := nI (k + 1)) (lv' := [(3, .int (nI (k + 1))), (2, .int (nI (t + 1))), (0, .ref g), (1, .int (nI w))]) hx hb dX1_dismiss_37 hl (k := 1) rfl (nI_1 k) (by decide) rfl (fun ls hl => ?_)
          refine lv_goto (tgt := 4) hx hb dX1_dismiss_40 (by decide) ?_
          exact ih4 (k + 1) (t + 1) (upd f t (f k)) (by omega) (by omega) (by omega) (by rw [hinv]; simp [dsm, g9, c19]) _ _ ls hP hD hS (lv_sub hl [0, 1, 2, 3] rfl)
  exact loop4 17 0 0 pr (by omega) (by omega) (by omega) rfl _ _ ls hP hD hS (lv_sub hl [0, 1, 2, 3] rfl)
set_option maxHeartbeats 4000000 in
set_option maxRecDepth 100000 in
theorem k_enter (l : Launch) (D : va_G) (cI cJ cZ : ClassId) (sz : Nat) (hB b1 b2 b3 b4 b5 b6 : Nat) (ok ak bk ck sk : Nat → Int32) (n : Nat) (hn : n < 40) (xo xa xb xc xs : Int32) : Met l yX0_enter wsX0_enter ({ frames := 1, cells := 0, slots := 0, locals := 22 }) (PcRW [.ref hB, .int xo, .int xa, .int xb, .int xc, .int xs] sz D cI cJ cZ [(hB, .inr (0, [.int (nI n), .ref b1, .ref b2, .ref b3, .ref b4, .ref b5, .ref b6])), (b1, .inl (cI, 40, .inl ok)), (b2, .inl (cI, 40, .inl ak)), (b3, .inl (cI, 40, .inl bk)), (b4, .inl (cI, 40, .inl ck)), (b5, .inl (cI, 40, .inl sk))]) (QcI (fun r => r = nI n) D (va_A [(hB, .inr (0, [.int (nI n), .ref b1, .ref b2, .ref b3, .ref b4, .ref b5, .ref b6])), (b1, .inl (cI, 40, .inl ok)), (b2, .inl (cI, 40, .inl ak)), (b3, .inl (cI, 40, .inl bk)), (b4, .inl (cI, 40, .inl ck)), (b5, .inl (cI, 40, .inl sk))] sz) [(hB, .inr (0, [.int (nI (n + 1)), .ref b1, .ref b2, .ref b3, .ref b4, .ref b5, .ref b6])), (b1, .inl (cI, 40, .inl (upd ok n xo))), (b2, .inl (cI, 40, .inl (upd ak n xa))), (b3, .inl (cI, 40, .inl (upd bk n xb))), (b4, .inl (cI, 40, .inl (upd ck n xc))), (b5, .inl (cI, 40, .inl (upd sk n xs)))]) 0 0 (va_A [(hB, .inr (0, [.int (nI n), .ref b1, .ref b2, .ref b3, .ref b4, .ref b5, .ref b6])), (b1, .inl (cI, 40, .inl ok)), (b2, .inl (cI, 40, .inl ak)), (b3, .inl (cI, 40, .inl bk)), (b4, .inl (cI, 40, .inl ck)), (b5, .inl (cI, 40, .inl sk))] sz) := by
  refine Met.ofW (cc := cX0_enter) (maxL := 7) (ret := some .int) (by decide) rfl ?_
  intro p e s m args below meth c s₁ B hml hv
  obtain ⟨rfl, hsz, hP, hE, hD0⟩ := hv
  have hx := B.exec
  have hb := B.bytes
  have hr := B.returns
  have hts := atoms_spec (ws := wsX0_enter) B.pre
  have hown : s.vm.findClass RX0 = some m.cls := findClass_of_methodNamed B.named
  have hlocks := B.notSynchronized
  have hK := hE.1
  subst hsz
  have hD := hD0.self (sz := s.heap.size)
  generalize hAe : va_A [(hB, .inr (0, [.int (nI n), .ref b1, .ref b2, .ref b3, .ref b4, .ref b5, .ref b6])), (b1, .inl (cI, 40, .inl ok)), (b2, .inl (cI, 40, .inl ak)), (b3, .inl (cI, 40, .inl bk)), (b4, .inl (cI, 40, .inl ck)), (b5, .inl (cI, 40, .inl sk))] s.heap.size = A at hD ⊢
  have hA : ∀ q : Nat, s.heap.size ≤ q → A q := fun q h => by rw [← hAe]; exact Or.inr h
  have hS : va_S A s.heap s.heap [] := va_S.rf
  have hl := lv_entry ([.ref hB, .int xo, .int xa, .int xb, .int xc, .int xs]) (n := 7) (Nat.le_of_ble_eq_true rfl)
  rw [lg_entry_eq]
  generalize (lg_sl ([.ref hB, .int xo, .int xa, .int xb, .int xc, .int xs]) ++ List.replicate (7 - (lg_sl ([.ref hB, .int xo, .int xa, .int xb, .int xc, .int xs])).length) Slot.unset).toArray = ls at hl ⊢
  have hl : lv_has ls 7 [(0, .ref hB), (1, .int xo), (2, .int xa), (3, .int xb), (4, .int xc), (5, .int xs)] := hl
  have hinX0 : ∀ w ∈ u_ws RX0 TX0 7, w ∈ wsX0_enter := fun _ h => List.mem_cons_of_mem _ (List.mem_append_right _ h)
  refine lv_aload_n hx hb dX0_enter_0 rfl (lv_at hl 0 rfl) ?_
  refine va_get (D := D) (ci := 0) (v := .int (nI n)) (C := RX0) (T := TX0) (N := 7) hx hb hts hinX0 hown hK hP 0 rfl rfl 0 (by decide) (hts (.fieldLink RX0 30 "LedgerShares$Book" "size" "I") (List.mem_of_getElem? (i := 1) rfl)) (fun _ h9 => h9) rfl dX0_enter_1 ?_
  refine lv_istore (lv' := [(6, .int (nI n)), (0, .ref hB), (1, .int xo), (2, .int xa), (3, .int xb), (4, .int xc), (5, .int xs)]) hx hb dX0_enter_4 hl (by decide) rfl (fun ls hl => ?_)
  refine lv_iload hx hb dX0_enter_6 (lv_at hl 0 rfl) ?_
  refine lv_iconst (v := 0) hx hb dX0_enter_8 (by decide) ?_
  refine lv_bipush (v := 39) hx hb dX0_enter_9 (by decide) ?_
  refine vp_callSi (va_Run.run (va_runSN (As := [.int (nI n), .int 0, .int 39]) (rest := []) ⟨hx, hb, hml, hown, hts⟩ (k_within l D cI cJ cZ (nI n) 0 39) ⟨va_cnB 3 hts gX0_enter_X4_within_n34 rfl rfl rfl hE.2.2.2.1 (hts (.initialized RX4) (List.mem_of_getElem? (i := 8) rfl)) (by decide +kernel) ⟨Nat.le_of_ble_eq_true rfl, Nat.le_of_ble_eq_true rfl⟩, (hts (.static yX4_within) (List.mem_of_getElem? (i := 7) rfl)), trivial⟩ ⟨bl_ro, fun U hU hW => ⟨rfl, by rw [hU]; exact (hP.sub (ws' := []) [] rfl), hE.warm2 hW⟩⟩ rfl rfl hl.1 rfl (lv_room (Nat.le_of_ble_eq_true rfl)) dX0_enter_11 ⟨Nat.zero_le _, Nat.zero_le _⟩)) (fun r11 hr11 => ?_)
  refine lv_if_ne (tgt := 20) hx hb dX0_enter_14 (by decide) (fun c14 => ?_) (fun c14 => (wi_f (hr11.symm.trans c14) (nI_pos' (by omega)) (nI_le (a := n) (b := 39) (by omega) (by decide))).elim)
  refine lv_aload_n hx hb dX0_enter_20 rfl (lv_at hl 1 rfl) ?_
  refine va_get (D := D) (ci := 0) (v := .ref b1) (C := RX0) (T := TX0) (N := 7) hx hb hts hinX0 hown hK hP 0 rfl rfl 1 (by decide) (hts (.fieldLink RX0 9 "LedgerShares$Book" "ops" "[I") (List.mem_of_getElem? (i := 2) rfl)) (fun _ h9 => h9) rfl dX0_enter_21 ?_
  refine lv_iload hx hb dX0_enter_24 (lv_at hl 0 rfl) ?_
  refine lv_iload_n hx hb dX0_enter_26 rfl (lv_at hl 2 rfl) ?_
  refine x_iast hx hb hE hP hD hS 1 rfl (n) hn (by decide) (rfl) (ws' := [(hB, .inr (0, [.int (nI n), .ref b1, .ref b2, .ref b3, .ref b4, .ref b5, .ref b6])), (b1, .inl (cI, 40, .inl (upd ok n xo))), (b2, .inl (cI, 40, .inl ak)), (b3, .inl (cI, 40, .inl bk)), (b4, .inl (cI, 40, .inl ck)), (b5, .inl (cI, 40, .inl sk))]) (rfl) dX0_enter_27 (fun H locs hP hD hS => ?_)
  refine lv_aload_n hx hb dX0_enter_28 rfl (lv_at hl 1 rfl) ?_
  refine va_get (D := D) (ci := 0) (v := .ref b2) (C := RX0) (T := TX0) (N := 7) hx hb hts hinX0 hown hK hP 0 rfl rfl 2 (by decide) (hts (.fieldLink RX0 15 "LedgerShares$Book" "as" "[I") (List.mem_of_getElem? (i := 3) rfl)) (fun _ h9 => h9) rfl dX0_enter_29 ?_
  refine lv_iload hx hb dX0_enter_32 (lv_at hl 0 rfl) ?_
  refine lv_iload_n hx hb dX0_enter_34 rfl (lv_at hl 3 rfl) ?_
  refine x_iast hx hb hE hP hD hS 2 rfl (n) hn (by decide) (rfl) (ws' := [(hB, .inr (0, [.int (nI n), .ref b1, .ref b2, .ref b3, .ref b4, .ref b5, .ref b6])), (b1, .inl (cI, 40, .inl (upd ok n xo))), (b2, .inl (cI, 40, .inl (upd ak n xa))), (b3, .inl (cI, 40, .inl bk)), (b4, .inl (cI, 40, .inl ck)), (b5, .inl (cI, 40, .inl sk))]) (rfl) dX0_enter_35 (fun H locs hP hD hS => ?_)
  refine lv_aload_n hx hb dX0_enter_36 rfl (lv_at hl 1 rfl) ?_
  refine va_get (D := D) (ci := 0) (v := .ref b3) (C := RX0) (T := TX0) (N := 7) hx hb hts hinX0 hown hK hP 0 rfl rfl 3 (by decide) (hts (.fieldLink RX0 18 "LedgerShares$Book" "bs" "[I") (List.mem_of_getElem? (i := 4) rfl)) (fun _ h9 => h9) rfl dX0_enter_37 ?_
  refine lv_iload hx hb dX0_enter_40 (lv_at hl 0 rfl) ?_
  refine lv_iload_n hx hb dX0_enter_42 rfl (lv_at hl 4 rfl) ?_
  refine x_iast hx hb hE hP hD hS 3 rfl (n) hn (by decide) (rfl) (ws' := [(hB, .inr (0, [.int (nI n), .ref b1, .ref b2, .ref b3, .ref b4, .ref b5, .ref b6])), (b1, .inl (cI, 40, .inl (upd ok n xo))), (b2, .inl (cI, 40, .inl (upd ak n xa))), (b3, .inl (cI, 40, .inl (upd bk n xb))), (b4, .inl (cI, 40, .inl ck)), (b5, .inl (cI, 40, .inl sk))]) (rfl) dX0_enter_43 (fun H locs hP hD hS => ?_)
  refine lv_aload_n hx hb dX0_enter_44 rfl (lv_at hl 1 rfl) ?_
  refine va_get (D := D) (ci := 0) (v := .ref b4) (C := RX0) (T := TX0) (N := 7) hx hb hts hinX0 hown hK hP 0 rfl rfl 4 (by decide) (hts (.fieldLink RX0 21 "LedgerShares$Book" "cs" "[I") (List.mem_of_getElem? (i := 5) rfl)) (fun _ h9 => h9) rfl dX0_enter_45 ?_
  refine lv_iload hx hb dX0_enter_48 (lv_at hl 0 rfl) ?_
  refine lv_iload hx hb dX0_enter_50 (lv_at hl 5 rfl) ?_
  refine x_iast hx hb hE hP hD hS 4 rfl (n) hn (by decide) (rfl) (ws' := [(hB, .inr (0, [.int (nI n), .ref b1, .ref b2, .ref b3, .ref b4, .ref b5, .ref b6])), (b1, .inl (cI, 40, .inl (upd ok n xo))), (b2, .inl (cI, 40, .inl (upd ak n xa))), (b3, .inl (cI, 40, .inl (upd bk n xb))), (b4, .inl (cI, 40, .inl (upd ck n xc))), (b5, .inl (cI, 40, .inl sk))]) (rfl) dX0_enter_52 (fun H locs hP hD hS => ?_)
  refine lv_aload_n hx hb dX0_enter_53 rfl (lv_at hl 1 rfl) ?_
  refine va_get (D := D) (ci := 0) (v := .ref b5) (C := RX0) (T := TX0) (N := 7) hx hb hts hinX0 hown hK hP 0 rfl rfl 5 (by decide) (hts (.fieldLink RX0 24 "LedgerShares$Book" "steps" "[I") (List.mem_of_getElem? (i := 6) rfl)) (fun _ h9 => h9) rfl dX0_enter_54 ?_
  refine lv_iload hx hb dX0_enter_57 (lv_at hl 0 rfl) ?_
  refine lv_iload hx hb dX0_enter_59 (lv_at hl 6 rfl) ?_
  refine x_iast hx hb hE hP hD hS 5 rfl (n) hn (by decide) (rfl) (ws' := [(hB, .inr (0, [.int (nI n), .ref b1, .ref b2, .ref b3, .ref b4, .ref b5, .ref b6])), (b1, .inl (cI, 40, .inl (upd ok n xo))), (b2, .inl (cI, 40, .inl (upd ak n xa))), (b3, .inl (cI, 40, .inl (upd bk n xb))), (b4, .inl (cI, 40, .inl (upd ck n xc))), (b5, .inl (cI, 40, .inl (upd sk n xs)))]) (rfl) dX0_enter_61 (fun H locs hP hD hS => ?_)
  refine lv_aload_n hx hb dX0_enter_62 rfl (lv_at hl 1 rfl) ?_
  refine lv_iload hx hb dX0_enter_63 (lv_at hl 0 rfl) ?_
  refine lv_iconst (v := 1) hx hb dX0_enter_65 (by decide) ?_
  refine lv_iadd hx hb dX0_enter_66 ?_
  refine x_topi (y := nI (n + 1)) (nI_1 n) ?_
  refine x_put (D := D) (ci := 0) (v := .int (nI (n + 1))) (ty := .int) (C := RX0) (T := TX0) (N := 7) hx hb hts hinX0 tyX0 tyX0_ok nmX0 hown hK hP hD hS 0 rfl rfl 0 (by decide) (hts (.fieldLink RX0 30 "LedgerShares$Book" "size" "I") (List.mem_of_getElem? (i := 1) rfl)) rfl (by decide +kernel) (rfl) (rfl) (Nat.le_of_ble_eq_true rfl) (ws' := [(hB, .inr (0, [.int (nI (n + 1)), .ref b1, .ref b2, .ref b3, .ref b4, .ref b5, .ref b6])), (b1, .inl (cI, 40, .inl (upd ok n xo))), (b2, .inl (cI, 40, .inl (upd ak n xa))), (b3, .inl (cI, 40, .inl (upd bk n xb))), (b4, .inl (cI, 40, .inl (upd ck n xc))), (b5, .inl (cI, 40, .inl (upd sk n xs)))]) rfl dX0_enter_67 (fun H locs hP hD hS => ?_)
  refine lv_iload hx hb dX0_enter_70 (lv_at hl 0 rfl) ?_
  exact W.iret hx hb hr (fun t ht hW => ⟨⟨_, (), rfl, rfl, by rw [ht]; exact hP, by exact hD⟩, hS.F ht⟩) hS.2.2 dX0_enter_72
set_option maxHeartbeats 4000000 in
set_option maxRecDepth 100000 in
theorem k_enterF (l : Launch) (D : va_G) (cI cJ cZ : ClassId) (sz : Nat) (hB b1 b2 b3 b4 b5 b6 : Nat) (ok ak bk ck sk : Nat → Int32) (xo xa xb xc xs : Int32) : Met l yX0_enter wsX0_enter ({ frames := 1, cells := 0, slots := 0, locals := 22 }) (PcRW [.ref hB, .int xo, .int xa, .int xb, .int xc, .int xs] sz D cI cJ cZ [(hB, .inr (0, [.int (nI 40), .ref b1, .ref b2, .ref b3, .ref b4, .ref b5, .ref b6])), (b1, .inl (cI, 40, .inl ok)), (b2, .inl (cI, 40, .inl ak)), (b3, .inl (cI, 40, .inl bk)), (b4, .inl (cI, 40, .inl ck)), (b5, .inl (cI, 40, .inl sk))]) (QcI (fun r => r = -4) D (va_A [(hB, .inr (0, [.int (nI 40), .ref b1, .ref b2, .ref b3, .ref b4, .ref b5, .ref b6])), (b1, .inl (cI, 40, .inl ok)), (b2, .inl (cI, 40, .inl ak)), (b3, .inl (cI, 40, .inl bk)), (b4, .inl (cI, 40, .inl ck)), (b5, .inl (cI, 40, .inl sk))] sz) [(hB, .inr (0, [.int (nI 40), .ref b1, .ref b2, .ref b3, .ref b4, .ref b5, .ref b6])), (b1, .inl (cI, 40, .inl ok)), (b2, .inl (cI, 40, .inl ak)), (b3, .inl (cI, 40, .inl bk)), (b4, .inl (cI, 40, .inl ck)), (b5, .inl (cI, 40, .inl sk))]) 0 0 (va_A [(hB, .inr (0, [.int (nI 40), .ref b1, .ref b2, .ref b3, .ref b4, .ref b5, .ref b6])), (b1, .inl (cI, 40, .inl ok)), (b2, .inl (cI, 40, .inl ak)), (b3, .inl (cI, 40, .inl bk)), (b4, .inl (cI, 40, .inl ck)), (b5, .inl (cI, 40, .inl sk))] sz) := by
  refine Met.ofW (cc := cX0_enter) (maxL := 7) (ret := some .int) (by decide) rfl ?_
  intro p e s m args below meth c s₁ B hml hv
  obtain ⟨rfl, hsz, hP, hE, hD0⟩ := hv
  have hx := B.exec
  have hb := B.bytes
  have hr := B.returns
  have hts := atoms_spec (ws := wsX0_enter) B.pre
  have hown : s.vm.findClass RX0 = some m.cls := findClass_of_methodNamed B.named
  have hlocks := B.notSynchronized
  have hK := hE.1
  subst hsz
  have hD := hD0.self (sz := s.heap.size)
  generalize hAe : va_A [(hB, .inr (0, [.int (nI 40), .ref b1, .ref b2, .ref b3, .ref b4, .ref b5, .ref b6])), (b1, .inl (cI, 40, .inl ok)), (b2, .inl (cI, 40, .inl ak)), (b3, .inl (cI, 40, .inl bk)), (b4, .inl (cI, 40, .inl ck)), (b5, .inl (cI, 40, .inl sk))] s.heap.size = A at hD ⊢
  have hA : ∀ q : Nat, s.heap.size ≤ q → A q := fun q h => by rw [← hAe]; exact Or.inr h
  have hS : va_S A s.heap s.heap [] := va_S.rf
  have hl := lv_entry ([.ref hB, .int xo, .int xa, .int xb, .int xc, .int xs]) (n := 7) (Nat.le_of_ble_eq_true rfl)
  rw [lg_entry_eq]
  generalize (lg_sl ([.ref hB, .int xo, .int xa, .int xb, .int xc, .int xs]) ++ List.replicate (7 - (lg_sl ([.ref hB, .int xo, .int xa, .int xb, .int xc, .int xs])).length) Slot.unset).toArray = ls at hl ⊢
  have hl : lv_has ls 7 [(0, .ref hB), (1, .int xo), (2, .int xa), (3, .int xb), (4, .int xc), (5, .int xs)] := hl
  have hinX0 : ∀ w ∈ u_ws RX0 TX0 7, w ∈ wsX0_enter := fun _ h => List.mem_cons_of_mem _ (List.mem_append_right _ h)
  refine lv_aload_n hx hb dX0_enter_0 rfl (lv_at hl 0 rfl) ?_
  refine va_get (D := D) (ci := 0) (v := .int (nI 40)) (C := RX0) (T := TX0) (N := 7) hx hb hts hinX0 hown hK hP 0 rfl rfl 0 (by decide) (hts (.fieldLink RX0 30 "LedgerShares$Book" "size" "I") (List.mem_of_getElem? (i := 1) rfl)) (fun _ h9 => h9) rfl dX0_enter_1 ?_
  refine lv_istore (lv' := [(6, .int (nI 40)), (0, .ref hB), (1, .int xo), (2, .int xa), (3, .int xb), (4, .int xc), (5, .int xs)]) hx hb dX0_enter_4 hl (by decide) rfl (fun ls hl => ?_)
  refine lv_iload hx hb dX0_enter_6 (lv_at hl 0 rfl) ?_
  refine lv_iconst (v := 0) hx hb dX0_enter_8 (by decide) ?_
  refine lv_bipush (v := 39) hx hb dX0_enter_9 (by decide) ?_
  refine vp_callSi (va_Run.run (va_runSN (As := [.int (nI 40), .int 0, .int 39]) (rest := []) ⟨hx, hb, hml, hown, hts⟩ (k_within l D cI cJ cZ (nI 40) 0 39) ⟨va_cnB 3 hts gX0_enter_X4_within_n34 rfl rfl rfl hE.2.2.2.1 (hts (.initialized RX4) (List.mem_of_getElem? (i := 8) rfl)) (by decide +kernel) ⟨Nat.le_of_ble_eq_true rfl, Nat.le_of_ble_eq_true rfl⟩, (hts (.static yX4_within) (List.mem_of_getElem? (i := 7) rfl)), trivial⟩ ⟨bl_ro, fun U hU hW => ⟨rfl, by rw [hU]; exact (hP.sub (ws' := []) [] rfl), hE.warm2 hW⟩⟩ rfl rfl hl.1 rfl (lv_room (Nat.le_of_ble_eq_true rfl)) dX0_enter_11 ⟨Nat.zero_le _, Nat.zero_le _⟩)) (fun r11 hr11 => ?_)
  refine lv_if_ne (tgt := 20) hx hb dX0_enter_14 (by decide) (fun c14 => absurd (hr11.trans (by decide)) c14) (fun c14 => ?_)
  refine lv_bipush (v := (-4)) hx hb dX0_enter_17 (by decide) ?_
  exact W.iret hx hb hr (fun t ht hW => ⟨⟨_, (), rfl, rfl, by rw [ht]; exact hP, by exact hD⟩, hS.F ht⟩) hS.2.2 dX0_enter_19
end
section
set_option maxHeartbeats 4000000 in
set_option maxRecDepth 100000 in
theorem k_prepare (l : Launch) (D : va_G) (cI cJ cZ : ClassId) (sz : Nat) (u h hB q1 q2 q3 q4 q5 q6 q7 q8 q9 q10 q11 q12 q13 g : Nat) (o1 o2 o3 o4 o5 o6 o7 o8 o9 o10 : Int32) (st oc tb fb ka eb : Nat → Int32) (cl rm : Int32) : Met l yX2_prepare wsX2_prepare ({ frames := 1, cells := 0, slots := 0, locals := 21 }) (PcRW [.ref u, .int cl, .int rm] sz D cI cJ cZ [(u, .inr (2, [.ref hB, .ref h, .ref g, .int o1, .int o2, .int o3, .int o4, .int o5, .int o6, .int o7, .int o8, .int o9, .int o10])), (h, .inr (3, [.ref hB, .ref q1, .ref q2, .ref q3, .ref q4, .ref q5, .ref q6, .ref q7, .ref q8, .ref q9, .ref q10, .ref q11, .ref q12, .ref q13])), (q1, .inl (cI, 40, .inl st)), (q9, .inl (cI, 40, .inl oc)), (q10, .inl (cI, 40, .inl tb)), (q11, .inl (cI, 40, .inl fb)), (q12, .inl (cI, 40, .inl ka)), (q13, .inl (cI, 40, .inl eb))]) (QcV D (va_A [(u, .inr (2, [.ref hB, .ref h, .ref g, .int o1, .int o2, .int o3, .int o4, .int o5, .int o6, .int o7, .int o8, .int o9, .int o10])), (h, .inr (3, [.ref hB, .ref q1, .ref q2, .ref q3, .ref q4, .ref q5, .ref q6, .ref q7, .ref q8, .ref q9, .ref q10, .ref q11, .ref q12, .ref q13])), (q1, .inl (cI, 40, .inl st)), (q9, .inl (cI, 40, .inl oc)), (q10, .inl (cI, 40, .inl tb)), (q11, .inl (cI, 40, .inl fb)), (q12, .inl (cI, 40, .inl ka)), (q13, .inl (cI, 40, .inl eb))] sz) [(u, .inr (2, [.ref hB, .ref h, .ref g, .int cl, .int 0, .int rm, .int 0, .int 0, .int 0, .int 0, .int 0, .int 0, .int 0])), (h, .inr (3, [.ref hB, .ref q1, .ref q2, .ref q3, .ref q4, .ref q5, .ref q6, .ref q7, .ref q8, .ref q9, .ref q10, .ref q11, .ref q12, .ref q13])), (q1, .inl (cI, 40, .inl (fillTo st 40 (0)))), (q9, .inl (cI, 40, .inl (fillTo oc 40 (0)))), (q10, .inl (cI, 40, .inl (fillTo tb 40 (0)))), (q11, .inl (cI, 40, .inl (fillTo fb 40 (-1)))), (q12, .inl (cI, 40, .inl (fillTo ka 40 (-1)))), (q13, .inl (cI, 40, .inl (fillTo eb 40 (-1))))]) 0 0 (va_A [(u, .inr (2, [.ref hB, .ref h, .ref g, .int o1, .int o2, .int o3, .int o4, .int o5, .int o6, .int o7, .int o8, .int o9, .int o10])), (h, .inr (3, [.ref hB, .ref q1, .ref q2, .ref q3, .ref q4, .ref q5, .ref q6, .ref q7, .ref q8, .ref q9, .ref q10, .ref q11, .ref q12, .ref q13])), (q1, .inl (cI, 40, .inl st)), (q9, .inl (cI, 40, .inl oc)), (q10, .inl (cI, 40, .inl tb)), (q11, .inl (cI, 40, .inl fb)), (q12, .inl (cI, 40, .inl ka)), (q13, .inl (cI, 40, .inl eb))] sz) := by
  refine Met.ofW (cc := cX2_prepare) (maxL := 3) (ret := none) (by decide) rfl ?_
  intro p e s m args below meth c s₁ B hml hv
  obtain ⟨rfl, hsz, hP, hE, hD0⟩ := hv
  have hx := B.exec
  have hb := B.bytes
  have hr := B.returns
  have hts := atoms_spec (ws := wsX2_prepare) B.pre
  have hown : s.vm.findClass RX2 = some m.cls := findClass_of_methodNamed B.named
  have hlocks := B.notSynchronized
  have hK := hE.1
  subst hsz
  have hD := hD0.self (sz := s.heap.size)
  generalize hAe : va_A [(u, .inr (2, [.ref hB, .ref h, .ref g, .int o1, .int o2, .int o3, .int o4, .int o5, .int o6, .int o7, .int o8, .int o9, .int o10])), (h, .inr (3, [.ref hB, .ref q1, .ref q2, .ref q3, .ref q4, .ref q5, .ref q6, .ref q7, .ref q8, .ref q9, .ref q10, .ref q11, .ref q12, .ref q13])), (q1, .inl (cI, 40, .inl st)), (q9, .inl (cI, 40, .inl oc)), (q10, .inl (cI, 40, .inl tb)), (q11, .inl (cI, 40, .inl fb)), (q12, .inl (cI, 40, .inl ka)), (q13, .inl (cI, 40, .inl eb))] s.heap.size = A at hD ⊢
  have hA : ∀ q : Nat, s.heap.size ≤ q → A q := fun q h => by rw [← hAe]; exact Or.inr h
  have hS : va_S A s.heap s.heap [] := va_S.rf
  have hl := lv_entry ([.ref u, .int cl, .int rm]) (n := 3) (Nat.le_of_ble_eq_true rfl)
  rw [lg_entry_eq]
  generalize (lg_sl ([.ref u, .int cl, .int rm]) ++ List.replicate (3 - (lg_sl ([.ref u, .int cl, .int rm])).length) Slot.unset).toArray = ls at hl ⊢
  have hl : lv_has ls 3 [(0, .ref u), (1, .int cl), (2, .int rm)] := hl
  have hinX2 : ∀ w ∈ u_ws RX2 TX2 13, w ∈ wsX2_prepare := fun _ h => List.mem_cons_of_mem _ (List.mem_append_left _ (List.mem_append_right _ h))
  refine lv_aload_n hx hb dX2_prepare_0 rfl (lv_at hl 0 rfl) ?_
  refine lv_iload_n hx hb dX2_prepare_1 rfl (lv_at hl 1 rfl) ?_
  refine x_put (D := D) (ci := 2) (v := .int cl) (ty := .int) (C := RX2) (T := TX2) (N := 13) hx hb hts hinX2 tyX2 tyX2_ok nmX2 hown hK hP hD hS 0 rfl rfl 3 (by decide) (hts (.fieldLink RX2 42 "LedgerShares$Run" "calls" "I") (List.mem_of_getElem? (i := 1) rfl)) rfl (by decide +kernel) (rfl) (rfl) (Nat.le_of_ble_eq_true rfl) (ws' := [(u, .inr (2, [.ref hB, .ref h, .ref g, .int cl, .int o2, .int o3, .int o4, .int o5, .int o6, .int o7, .int o8, .int o9, .int o10])), (h, .inr (3, [.ref hB, .ref q1, .ref q2, .ref q3, .ref q4, .ref q5, .ref q6, .ref q7, .ref q8, .ref q9, .ref q10, .ref q11, .ref q12, .ref q13])), (q1, .inl (cI, 40, .inl st)), (q9, .inl (cI, 40, .inl oc)), (q10, .inl (cI, 40, .inl tb)), (q11, .inl (cI, 40, .inl fb)), (q12, .inl (cI, 40, .inl ka)), (q13, .inl (cI, 40, .inl eb))]) rfl dX2_prepare_2 (fun H locs hP hD hS => ?_)
  refine lv_aload_n hx hb dX2_prepare_5 rfl (lv_at hl 0 rfl) ?_
  refine lv_iload_n hx hb dX2_prepare_6 rfl (lv_at hl 2 rfl) ?_
  refine x_put (D := D) (ci := 2) (v := .int rm) (ty := .int) (C := RX2) (T := TX2) (N := 13) hx hb hts hinX2 tyX2 tyX2_ok nmX2 hown hK hP hD hS 0 rfl rfl 5 (by decide) (hts (.fieldLink RX2 74 "LedgerShares$Run" "room" "I") (List.mem_of_getElem? (i := 2) rfl)) rfl (by decide +kernel) (rfl) (rfl) (Nat.le_of_ble_eq_true rfl) (ws' := [(u, .inr (2, [.ref hB, .ref h, .ref g, .int cl, .int o2, .int rm, .int o4, .int o5, .int o6, .int o7, .int o8, .int o9, .int o10])), (h, .inr (3, [.ref hB, .ref q1, .ref q2, .ref q3, .ref q4, .ref q5, .ref q6, .ref q7, .ref q8, .ref q9, .ref q10, .ref q11, .ref q12, .ref q13])), (q1, .inl (cI, 40, .inl st)), (q9, .inl (cI, 40, .inl oc)), (q10, .inl (cI, 40, .inl tb)), (q11, .inl (cI, 40, .inl fb)), (q12, .inl (cI, 40, .inl ka)), (q13, .inl (cI, 40, .inl eb))]) rfl dX2_prepare_7 (fun H locs hP hD hS => ?_)
  refine lv_aload_n hx hb dX2_prepare_10 rfl (lv_at hl 0 rfl) ?_
  refine lv_iconst (v := 0) hx hb dX2_prepare_11 (by decide) ?_
  refine x_put (D := D) (ci := 2) (v := .int 0) (ty := .int) (C := RX2) (T := TX2) (N := 13) hx hb hts hinX2 tyX2 tyX2_ok nmX2 hown hK hP hD hS 0 rfl rfl 4 (by decide) (hts (.fieldLink RX2 48 "LedgerShares$Run" "ticks" "I") (List.mem_of_getElem? (i := 3) rfl)) rfl (by decide +kernel) (rfl) (rfl) (Nat.le_of_ble_eq_true rfl) (ws' := [(u, .inr (2, [.ref hB, .ref h, .ref g, .int cl, .int 0, .int rm, .int o4, .int o5, .int o6, .int o7, .int o8, .int o9, .int o10])), (h, .inr (3, [.ref hB, .ref q1, .ref q2, .ref q3, .ref q4, .ref q5, .ref q6, .ref q7, .ref q8, .ref q9, .ref q10, .ref q11, .ref q12, .ref q13])), (q1, .inl (cI, 40, .inl st)), (q9, .inl (cI, 40, .inl oc)), (q10, .inl (cI, 40, .inl tb)), (q11, .inl (cI, 40, .inl fb)), (q12, .inl (cI, 40, .inl ka)), (q13, .inl (cI, 40, .inl eb))]) rfl dX2_prepare_12 (fun H locs hP hD hS => ?_)
  refine lv_aload_n hx hb dX2_prepare_15 rfl (lv_at hl 0 rfl) ?_
  refine lv_iconst (v := 0) hx hb dX2_prepare_16 (by decide) ?_
  refine x_put (D := D) (ci := 2) (v := .int 0) (ty := .int) (C := RX2) (T := TX2) (N := 13) hx hb hts hinX2 tyX2 tyX2_ok nmX2 hown hK hP hD hS 0 rfl rfl 6 (by decide) (hts (.fieldLink RX2 38 "LedgerShares$Run" "kept" "I") (List.mem_of_getElem? (i := 4) rfl)) rfl (by decide +kernel) (rfl) (rfl) (Nat.le_of_ble_eq_true rfl) (ws' := [(u, .inr (2, [.ref hB, .ref h, .ref g, .int cl, .int 0, .int rm, .int 0, .int o5, .int o6, .int o7, .int o8, .int o9, .int o10])), (h, .inr (3, [.ref hB, .ref q1, .ref q2, .ref q3, .ref q4, .ref q5, .ref q6, .ref q7, .ref q8, .ref q9, .ref q10, .ref q11, .ref q12, .ref q13])), (q1, .inl (cI, 40, .inl st)), (q9, .inl (cI, 40, .inl oc)), (q10, .inl (cI, 40, .inl tb)), (q11, .inl (cI, 40, .inl fb)), (q12, .inl (cI, 40, .inl ka)), (q13, .inl (cI, 40, .inl eb))]) rfl dX2_prepare_17 (fun H locs hP hD hS => ?_)
  refine lv_aload_n hx hb dX2_prepare_20 rfl (lv_at hl 0 rfl) ?_
  refine lv_iconst (v := 0) hx hb dX2_prepare_21 (by decide) ?_
  refine x_put (D := D) (ci := 2) (v := .int 0) (ty := .int) (C := RX2) (T := TX2) (N := 13) hx hb hts hinX2 tyX2 tyX2_ok nmX2 hown hK hP hD hS 0 rfl rfl 7 (by decide) (hts (.fieldLink RX2 77 "LedgerShares$Run" "begun" "I") (List.mem_of_getElem? (i := 5) rfl)) rfl (by decide +kernel) (rfl) (rfl) (Nat.le_of_ble_eq_true rfl) (ws' := [(u, .inr (2, [.ref hB, .ref h, .ref g, .int cl, .int 0, .int rm, .int 0, .int 0, .int o6, .int o7, .int o8, .int o9, .int o10])), (h, .inr (3, [.ref hB, .ref q1, .ref q2, .ref q3, .ref q4, .ref q5, .ref q6, .ref q7, .ref q8, .ref q9, .ref q10, .ref q11, .ref q12, .ref q13])), (q1, .inl (cI, 40, .inl st)), (q9, .inl (cI, 40, .inl oc)), (q10, .inl (cI, 40, .inl tb)), (q11, .inl (cI, 40, .inl fb)), (q12, .inl (cI, 40, .inl ka)), (q13, .inl (cI, 40, .inl eb))]) rfl dX2_prepare_22 (fun H locs hP hD hS => ?_)
  refine lv_aload_n hx hb dX2_prepare_25 rfl (lv_at hl 0 rfl) ?_
  refine lv_iconst (v := 0) hx hb dX2_prepare_26 (by decide) ?_
  refine x_put (D := D) (ci := 2) (v := .int 0) (ty := .int) (C := RX2) (T := TX2) (N := 13) hx hb hts hinX2 tyX2 tyX2_ok nmX2 hown hK hP hD hS 0 rfl rfl 8 (by decide) (hts (.fieldLink RX2 80 "LedgerShares$Run" "anew" "I") (List.mem_of_getElem? (i := 6) rfl)) rfl (by decide +kernel) (rfl) (rfl) (Nat.le_of_ble_eq_true rfl) (ws' := [(u, .inr (2, [.ref hB, .ref h, .ref g, .int cl, .int 0, .int rm, .int 0, .int 0, .int 0, .int o7, .int o8, .int o9, .int o10])), (h, .inr (3, [.ref hB, .ref q1, .ref q2, .ref q3, .ref q4, .ref q5, .ref q6, .ref q7, .ref q8, .ref q9, .ref q10, .ref q11, .ref q12, .ref q13])), (q1, .inl (cI, 40, .inl st)), (q9, .inl (cI, 40, .inl oc)), (q10, .inl (cI, 40, .inl tb)), (q11, .inl (cI, 40, .inl fb)), (q12, .inl (cI, 40, .inl ka)), (q13, .inl (cI, 40, .inl eb))]) rfl dX2_prepare_27 (fun H locs hP hD hS => ?_)
  refine lv_aload_n hx hb dX2_prepare_30 rfl (lv_at hl 0 rfl) ?_
  refine lv_iconst (v := 0) hx hb dX2_prepare_31 (by decide) ?_
  refine x_put (D := D) (ci := 2) (v := .int 0) (ty := .int) (C := RX2) (T := TX2) (N := 13) hx hb hts hinX2 tyX2 tyX2_ok nmX2 hown hK hP hD hS 0 rfl rfl 9 (by decide) (hts (.fieldLink RX2 83 "LedgerShares$Run" "dismissed" "I") (List.mem_of_getElem? (i := 7) rfl)) rfl (by decide +kernel) (rfl) (rfl) (Nat.le_of_ble_eq_true rfl) (ws' := [(u, .inr (2, [.ref hB, .ref h, .ref g, .int cl, .int 0, .int rm, .int 0, .int 0, .int 0, .int 0, .int o8, .int o9, .int o10])), (h, .inr (3, [.ref hB, .ref q1, .ref q2, .ref q3, .ref q4, .ref q5, .ref q6, .ref q7, .ref q8, .ref q9, .ref q10, .ref q11, .ref q12, .ref q13])), (q1, .inl (cI, 40, .inl st)), (q9, .inl (cI, 40, .inl oc)), (q10, .inl (cI, 40, .inl tb)), (q11, .inl (cI, 40, .inl fb)), (q12, .inl (cI, 40, .inl ka)), (q13, .inl (cI, 40, .inl eb))]) rfl dX2_prepare_32 (fun H locs hP hD hS => ?_)
  refine lv_aload_n hx hb dX2_prepare_35 rfl (lv_at hl 0 rfl) ?_
  refine lv_iconst (v := 0) hx hb dX2_prepare_36 (by decide) ?_
  refine x_put (D := D) (ci := 2) (v := .int 0) (ty := .int) (C := RX2) (T := TX2) (N := 13) hx hb hts hinX2 tyX2 tyX2_ok nmX2 hown hK hP hD hS 0 rfl rfl 10 (by decide) (hts (.fieldLink RX2 65 "LedgerShares$Run" "underWay" "I") (List.mem_of_getElem? (i := 8) rfl)) rfl (by decide +kernel) (rfl) (rfl) (Nat.le_of_ble_eq_true rfl) (ws' := [(u, .inr (2, [.ref hB, .ref h, .ref g, .int cl, .int 0, .int rm, .int 0, .int 0, .int 0, .int 0, .int 0, .int o9, .int o10])), (h, .inr (3, [.ref hB, .ref q1, .ref q2, .ref q3, .ref q4, .ref q5, .ref q6, .ref q7, .ref q8, .ref q9, .ref q10, .ref q11, .ref q12, .ref q13])), (q1, .inl (cI, 40, .inl st)), (q9, .inl (cI, 40, .inl oc)), (q10, .inl (cI, 40, .inl tb)), (q11, .inl (cI, 40, .inl fb)), (q12, .inl (cI, 40, .inl ka)), (q13, .inl (cI, 40, .inl eb))]) rfl dX2_prepare_37 (fun H locs hP hD hS => ?_)
  refine lv_aload_n hx hb dX2_prepare_40 rfl (lv_at hl 0 rfl) ?_
  refine lv_iconst (v := 0) hx hb dX2_prepare_41 (by decide) ?_
  refine x_put (D := D) (ci := 2) (v := .int 0) (ty := .int) (C := RX2) (T := TX2) (N := 13) hx hb hts hinX2 tyX2 tyX2_ok nmX2 hown hK hP hD hS 0 rfl rfl 11 (by decide) (hts (.fieldLink RX2 62 "LedgerShares$Run" "mostUnderWay" "I") (List.mem_of_getElem? (i := 9) rfl)) rfl (by decide +kernel) (rfl) (rfl) (Nat.le_of_ble_eq_true rfl) (ws' := [(u, .inr (2, [.ref hB, .ref h, .ref g, .int cl, .int 0, .int rm, .int 0, .int 0, .int 0, .int 0, .int 0, .int 0, .int o10])), (h, .inr (3, [.ref hB, .ref q1, .ref q2, .ref q3, .ref q4, .ref q5, .ref q6, .ref q7, .ref q8, .ref q9, .ref q10, .ref q11, .ref q12, .ref q13])), (q1, .inl (cI, 40, .inl st)), (q9, .inl (cI, 40, .inl oc)), (q10, .inl (cI, 40, .inl tb)), (q11, .inl (cI, 40, .inl fb)), (q12, .inl (cI, 40, .inl ka)), (q13, .inl (cI, 40, .inl eb))]) rfl dX2_prepare_42 (fun H locs hP hD hS => ?_)
  refine lv_aload_n hx hb dX2_prepare_45 rfl (lv_at hl 0 rfl) ?_
  refine lv_iconst (v := 0) hx hb dX2_prepare_46 (by decide) ?_
  refine x_put (D := D) (ci := 2) (v := .int 0) (ty := .int) (C := RX2) (T := TX2) (N := 13) hx hb hts hinX2 tyX2 tyX2_ok nmX2 hown hK hP hD hS 0 rfl rfl 12 (by decide) (hts (.fieldLink RX2 86 "LedgerShares$Run" "idle" "I") (List.mem_of_getElem? (i := 10) rfl)) rfl (by decide +kernel) (rfl) (rfl) (Nat.le_of_ble_eq_true rfl) (ws' := [(u, .inr (2, [.ref hB, .ref h, .ref g, .int cl, .int 0, .int rm, .int 0, .int 0, .int 0, .int 0, .int 0, .int 0, .int 0])), (h, .inr (3, [.ref hB, .ref q1, .ref q2, .ref q3, .ref q4, .ref q5, .ref q6, .ref q7, .ref q8, .ref q9, .ref q10, .ref q11, .ref q12, .ref q13])), (q1, .inl (cI, 40, .inl st)), (q9, .inl (cI, 40, .inl oc)), (q10, .inl (cI, 40, .inl tb)), (q11, .inl (cI, 40, .inl fb)), (q12, .inl (cI, 40, .inl ka)), (q13, .inl (cI, 40, .inl eb))]) rfl dX2_prepare_47 (fun H locs hP hD hS => ?_)
  refine lv_aload_n hx hb dX2_prepare_50 rfl (lv_at hl 0 rfl) ?_
  refine va_get (D := D) (ci := 2) (v := .ref h) (C := RX2) (T := TX2) (N := 13) hx hb hts hinX2 hown hK hP 0 rfl rfl 1 (by decide) (hts (.fieldLink RX2 27 "LedgerShares$Run" "sheet" "LLedgerShares$Sheet;") (List.mem_of_getElem? (i := 11) rfl)) (fun _ h9 => h9) rfl dX2_prepare_51 ?_
  refine x_callv (wc := [(h, .inr (3, [.ref hB, .ref q1, .ref q2, .ref q3, .ref q4, .ref q5, .ref q6, .ref q7, .ref q8, .ref q9, .ref q10, .ref q11, .ref q12, .ref q13])), (q1, .inl (cI, 40, .inl st)), (q9, .inl (cI, 40, .inl oc)), (q10, .inl (cI, 40, .inl tb)), (q11, .inl (cI, 40, .inl fb)), (q12, .inl (cI, 40, .inl ka)), (q13, .inl (cI, 40, .inl eb))]) (wc' := [(h, .inr (3, [.ref hB, .ref q1, .ref q2, .ref q3, .ref q4, .ref q5, .ref q6, .ref q7, .ref q8, .ref q9, .ref q10, .ref q11, .ref q12, .ref q13])), (q1, .inl (cI, 40, .inl (fillTo st 40 (0)))), (q9, .inl (cI, 40, .inl (fillTo oc 40 (0)))), (q10, .inl (cI, 40, .inl (fillTo tb 40 (0)))), (q11, .inl (cI, 40, .inl (fillTo fb 40 (-1)))), (q12, .inl (cI, 40, .inl (fillTo ka 40 (-1)))), (q13, .inl (cI, 40, .inl (fillTo eb 40 (-1))))]) (wr := [(u, .inr (2, [.ref hB, .ref h, .ref g, .int cl, .int 0, .int rm, .int 0, .int 0, .int 0, .int 0, .int 0, .int 0, .int 0]))]) (ws' := [(u, .inr (2, [.ref hB, .ref h, .ref g, .int cl, .int 0, .int rm, .int 0, .int 0, .int 0, .int 0, .int 0, .int 0, .int 0])), (h, .inr (3, [.ref hB, .ref q1, .ref q2, .ref q3, .ref q4, .ref q5, .ref q6, .ref q7, .ref q8, .ref q9, .ref q10, .ref q11, .ref q12, .ref q13])), (q1, .inl (cI, 40, .inl (fillTo st 40 (0)))), (q9, .inl (cI, 40, .inl (fillTo oc 40 (0)))), (q10, .inl (cI, 40, .inl (fillTo tb 40 (0)))), (q11, .inl (cI, 40, .inl (fillTo fb 40 (-1)))), (q12, .inl (cI, 40, .inl (fillTo ka 40 (-1)))), (q13, .inl (cI, 40, .inl (fillTo eb 40 (-1))))]) hP hD hS hA [1, 2, 3, 4, 5, 6, 7] [0] rfl rfl (by decide) (by decide) [0, 1, 2, 3, 4, 5, 6, 7] (by decide) rfl (va_runV (As := []) (rest := []) ⟨hx, hb, hml, hown, hts⟩ (k_openAll l D cI cJ cZ H.size h hB q1 q2 q3 q4 q5 q6 q7 q8 q9 q10 q11 q12 q13 st oc tb fb ka eb ) (cwV 0 hts gX2_prepare_X3_openAll rfl rfl rfl (by decide +kernel) ⟨Nat.le_of_ble_eq_true rfl, Nat.le_of_ble_eq_true rfl⟩) ⟨bl_rw, va_recv hK (hP.sub (ws' := [(h, .inr (3, [.ref hB, .ref q1, .ref q2, .ref q3, .ref q4, .ref q5, .ref q6, .ref q7, .ref q8, .ref q9, .ref q10, .ref q11, .ref q12, .ref q13])), (q1, .inl (cI, 40, .inl st)), (q9, .inl (cI, 40, .inl oc)), (q10, .inl (cI, 40, .inl tb)), (q11, .inl (cI, 40, .inl fb)), (q12, .inl (cI, 40, .inl ka)), (q13, .inl (cI, 40, .inl eb))]) [1, 2, 3, 4, 5, 6, 7] rfl) (ci := 3) (q0 := 0) rfl rfl, fun U hU hW => ⟨rfl, by rw [hU], by rw [hU]; exact (hP.sub (ws' := [(h, .inr (3, [.ref hB, .ref q1, .ref q2, .ref q3, .ref q4, .ref q5, .ref q6, .ref q7, .ref q8, .ref q9, .ref q10, .ref q11, .ref q12, .ref q13])), (q1, .inl (cI, 40, .inl st)), (q9, .inl (cI, 40, .inl oc)), (q10, .inl (cI, 40, .inl tb)), (q11, .inl (cI, 40, .inl fb)), (q12, .inl (cI, 40, .inl ka)), (q13, .inl (cI, 40, .inl eb))]) [1, 2, 3, 4, 5, 6, 7] rfl), hE.warm2 hW, (hD.sub (ws' := [(h, .inr (3, [.ref hB, .ref q1, .ref q2, .ref q3, .ref q4, .ref q5, .ref q6, .ref q7, .ref q8, .ref q9, .ref q10, .ref q11, .ref q12, .ref q13])), (q1, .inl (cI, 40, .inl st)), (q9, .inl (cI, 40, .inl oc)), (q10, .inl (cI, 40, .inl tb)), (q11, .inl (cI, 40, .inl fb)), (q12, .inl (cI, 40, .inl ka)), (q13, .inl (cI, 40, .inl eb))]) [1, 2, 3, 4, 5, 6, 7] (by decide) rfl).weaken (fun _ _ _ _ => trivial)⟩⟩ rfl rfl hl.1 rfl (lv_room (Nat.le_of_ble_eq_true rfl)) dX2_prepare_54 ⟨Nat.zero_le _, Nat.zero_le _⟩) (fun H locs hP hD hS => ?_)
  exact W.vret hx hb hr (fun t ht hW => ⟨⟨(), rfl, trivial, by rw [ht]; exact hP, by exact hD⟩, hS.F ht⟩) hS.2.2 dX2_prepare_57
set_option maxHeartbeats 4000000 in
set_option maxRecDepth 100000 in
theorem k_takeCall (l : Launch) (D : va_G) (cI cJ cZ : ClassId) (sz : Nat) (u h hB q1 q2 q3 q4 q5 q6 q7 q8 q9 q10 q11 q12 q13 g g1 g2 g3 b1 b2 b3 b4 b5 b6 : Nat) (bz : Int32) (ak bk sk gn ok ck : Nat → Int32) (cl rm w : Nat) (kp : Nat) (tk : Int32) (bg : Int32) (an : Int32) (dm : Int32) (uw : Int32) (mu : Int32) (id_ : Int32) (st : Nat → Int32) (sl : Nat → Int32) (ra : Nat → Int64) (rb : Nat → Int64) (ca : Nat → Int32) (cb : Nat → Int32) (ga : Nat → Int64) (gb : Nat → Int64) (oc : Nat → Int32) (tb : Nat → Int32) (fb : Nat → Int32) (ka : Nat → Int32) (eb : Nat → Int32) (sd : Int32) (lf : Nat) (pr : Nat → Int32) (ho : Nat → Int32) (be : Nat → Int32) (kp1 : Nat) (tk1 : Int32) (bg1 : Int32) (an1 : Int32) (dm1 : Int32) (uw1 : Int32) (mu1 : Int32) (id_1 : Int32) (st1 : Nat → Int32) (sl1 : Nat → Int32) (ra1 : Nat → Int64) (rb1 : Nat → Int64) (ca1 : Nat → Int32) (cb1 : Nat → Int32) (ga1 : Nat → Int64) (gb1 : Nat → Int64) (oc1 : Nat → Int32) (tb1 : Nat → Int32) (fb1 : Nat → Int32) (ka1 : Nat → Int32) (eb1 : Nat → Int32) (sd1 : Int32) (lf1 : Nat) (pr1 : Nat → Int32) (ho1 : Nat → Int32) (be1 : Nat → Int32) (hkp : kp ≤ cl) (hcl : cl ≤ 40) (hrm : rm ≤ 40) (hl16 : lf ≤ 16) (hw : w < 16) (hc : takeCallF cl rm ak bk sk gn w (kp, tk, bg, an, dm, uw, mu, id_, st, sl, ra, rb, ca, cb, ga, gb, oc, tb, fb, ka, eb, sd, lf, pr, ho, be) = (kp1, tk1, bg1, an1, dm1, uw1, mu1, id_1, st1, sl1, ra1, rb1, ca1, cb1, ga1, gb1, oc1, tb1, fb1, ka1, eb1, sd1, lf1, pr1, ho1, be1)) : Met l yX2_takeCall wsX2_takeCall ({ frames := 3, cells := 0, slots := 0, locals := 65 }) (PcRW [.ref u, .int (nI w)] sz D cI cJ cZ [(u, .inr (2, [.ref hB, .ref h, .ref g, .int (nI cl), .int tk, .int (nI rm), .int (nI kp), .int bg, .int an, .int dm, .int uw, .int mu, .int id_])), (h, .inr (3, [.ref hB, .ref q1, .ref q2, .ref q3, .ref q4, .ref q5, .ref q6, .ref q7, .ref q8, .ref q9, .ref q10, .ref q11, .ref q12, .ref q13])), (q1, .inl (cI, 40, .inl st)), (q2, .inl (cI, 40, .inl sl)), (q3, .inl (cJ, 40, .inr (.inl ra))), (q4, .inl (cJ, 40, .inr (.inl rb))), (q5, .inl (cZ, 40, .inl ca)), (q6, .inl (cZ, 40, .inl cb)), (q7, .inl (cJ, 40, .inr (.inl ga))), (q8, .inl (cJ, 40, .inr (.inl gb))), (q9, .inl (cI, 40, .inl oc)), (q10, .inl (cI, 40, .inl tb)), (q11, .inl (cI, 40, .inl fb)), (q12, .inl (cI, 40, .inl ka)), (q13, .inl (cI, 40, .inl eb)), (g, .inr (1, [.int sd, .int (nI lf), .ref g1, .ref g2, .ref g3])), (g1, .inl (cI, 16, .inl pr)), (g2, .inl (cI, 16, .inl ho)), (g3, .inl (cI, 16, .inl be)), (hB, .inr (0, [.int bz, .ref b1, .ref b2, .ref b3, .ref b4, .ref b5, .ref b6])), (b1, .inl (cI, 40, .inl ok)), (b2, .inl (cI, 40, .inl ak)), (b3, .inl (cI, 40, .inl bk)), (b4, .inl (cI, 40, .inl ck)), (b5, .inl (cI, 40, .inl sk)), (b6, .inl (cI, 16, .inl gn))]) (QcV D (va_A [(u, .inr (2, [.ref hB, .ref h, .ref g, .int (nI cl), .int tk, .int (nI rm), .int (nI kp), .int bg, .int an, .int dm, .int uw, .int mu, .int id_])), (h, .inr (3, [.ref hB, .ref q1, .ref q2, .ref q3, .ref q4, .ref q5, .ref q6, .ref q7, .ref q8, .ref q9, .ref q10, .ref q11, .ref q12, .ref q13])), (q1, .inl (cI, 40, .inl st)), (q2, .inl (cI, 40, .inl sl)), (q3, .inl (cJ, 40, .inr (.inl ra))), (q4, .inl (cJ, 40, .inr (.inl rb))), (q5, .inl (cZ, 40, .inl ca)), (q6, .inl (cZ, 40, .inl cb)), (q7, .inl (cJ, 40, .inr (.inl ga))), (q8, .inl (cJ, 40, .inr (.inl gb))), (q9, .inl (cI, 40, .inl oc)), (q10, .inl (cI, 40, .inl tb)), (q11, .inl (cI, 40, .inl fb)), (q12, .inl (cI, 40, .inl ka)), (q13, .inl (cI, 40, .inl eb)), (g, .inr (1, [.int sd, .int (nI lf), .ref g1, .ref g2, .ref g3])), (g1, .inl (cI, 16, .inl pr)), (g2, .inl (cI, 16, .inl ho)), (g3, .inl (cI, 16, .inl be)), (hB, .inr (0, [.int bz, .ref b1, .ref b2, .ref b3, .ref b4, .ref b5, .ref b6])), (b1, .inl (cI, 40, .inl ok)), (b2, .inl (cI, 40, .inl ak)), (b3, .inl (cI, 40, .inl bk)), (b4, .inl (cI, 40, .inl ck)), (b5, .inl (cI, 40, .inl sk)), (b6, .inl (cI, 16, .inl gn))] sz) [(u, .inr (2, [.ref hB, .ref h, .ref g, .int (nI cl), .int tk1, .int (nI rm), .int (nI kp1), .int bg1, .int an1, .int dm1, .int uw1, .int mu1, .int id_1])), (h, .inr (3, [.ref hB, .ref q1, .ref q2, .ref q3, .ref q4, .ref q5, .ref q6, .ref q7, .ref q8, .ref q9, .ref q10, .ref q11, .ref q12, .ref q13])), (q1, .inl (cI, 40, .inl st1)), (q2, .inl (cI, 40, .inl sl1)), (q3, .inl (cJ, 40, .inr (.inl ra1))), (q4, .inl (cJ, 40, .inr (.inl rb1))), (q5, .inl (cZ, 40, .inl ca1)), (q6, .inl (cZ, 40, .inl cb1)), (q7, .inl (cJ, 40, .inr (.inl ga1))), (q8, .inl (cJ, 40, .inr (.inl gb1))), (q9, .inl (cI, 40, .inl oc1)), (q10, .inl (cI, 40, .inl tb1)), (q11, .inl (cI, 40, .inl fb1)), (q12, .inl (cI, 40, .inl ka1)), (q13, .inl (cI, 40, .inl eb1)), (g, .inr (1, [.int sd1, .int (nI lf1), .ref g1, .ref g2, .ref g3])), (g1, .inl (cI, 16, .inl pr1)), (g2, .inl (cI, 16, .inl ho1)), (g3, .inl (cI, 16, .inl be1)), (hB, .inr (0, [.int bz, .ref b1, .ref b2, .ref b3, .ref b4, .ref b5, .ref b6])), (b1, .inl (cI, 40, .inl ok)), (b2, .inl (cI, 40, .inl ak)), (b3, .inl (cI, 40, .inl bk)), (b4, .inl (cI, 40, .inl ck)), (b5, .inl (cI, 40, .inl sk)), (b6, .inl (cI, 16, .inl gn))]) 0 0 (va_A [(u, .inr (2, [.ref hB, .ref h, .ref g, .int (nI cl), .int tk, .int (nI rm), .int (nI kp), .int bg, .int an, .int dm, .int uw, .int mu, .int id_])), (h, .inr (3, [.ref hB, .ref q1, .ref q2, .ref q3, .ref q4, .ref q5, .ref q6, .ref q7, .ref q8, .ref q9, .ref q10, .ref q11, .ref q12, .ref q13])), (q1, .inl (cI, 40, .inl st)), (q2, .inl (cI, 40, .inl sl)), (q3, .inl (cJ, 40, .inr (.inl ra))), (q4, .inl (cJ, 40, .inr (.inl rb))), (q5, .inl (cZ, 40, .inl ca)), (q6, .inl (cZ, 40, .inl cb)), (q7, .inl (cJ, 40, .inr (.inl ga))), (q8, .inl (cJ, 40, .inr (.inl gb))), (q9, .inl (cI, 40, .inl oc)), (q10, .inl (cI, 40, .inl tb)), (q11, .inl (cI, 40, .inl fb)), (q12, .inl (cI, 40, .inl ka)), (q13, .inl (cI, 40, .inl eb)), (g, .inr (1, [.int sd, .int (nI lf), .ref g1, .ref g2, .ref g3])), (g1, .inl (cI, 16, .inl pr)), (g2, .inl (cI, 16, .inl ho)), (g3, .inl (cI, 16, .inl be)), (hB, .inr (0, [.int bz, .ref b1, .ref b2, .ref b3, .ref b4, .ref b5, .ref b6])), (b1, .inl (cI, 40, .inl ok)), (b2, .inl (cI, 40, .inl ak)), (b3, .inl (cI, 40, .inl bk)), (b4, .inl (cI, 40, .inl ck)), (b5, .inl (cI, 40, .inl sk)), (b6, .inl (cI, 16, .inl gn))] sz) := by
  refine Met.ofW (cc := cX2_takeCall) (maxL := 3) (ret := none) (by decide) rfl ?_
  intro p e s m args below meth c s₁ B hml hv
  obtain ⟨rfl, hsz, hP, hE, hD0⟩ := hv
  have hx := B.exec
  have hb := B.bytes
  have hr := B.returns
  have hts := atoms_spec (ws := wsX2_takeCall) B.pre
  have hown : s.vm.findClass RX2 = some m.cls := findClass_of_methodNamed B.named
  have hlocks := B.notSynchronized
  have hK := hE.1
  subst hsz
  have hD := hD0.self (sz := s.heap.size)
  generalize hAe : va_A [(u, .inr (2, [.ref hB, .ref h, .ref g, .int (nI cl), .int tk, .int (nI rm), .int (nI kp), .int bg, .int an, .int dm, .int uw, .int mu, .int id_])), (h, .inr (3, [.ref hB, .ref q1, .ref q2, .ref q3, .ref q4, .ref q5, .ref q6, .ref q7, .ref q8, .ref q9, .ref q10, .ref q11, .ref q12, .ref q13])), (q1, .inl (cI, 40, .inl st)), (q2, .inl (cI, 40, .inl sl)), (q3, .inl (cJ, 40, .inr (.inl ra))), (q4, .inl (cJ, 40, .inr (.inl rb))), (q5, .inl (cZ, 40, .inl ca)), (q6, .inl (cZ, 40, .inl cb)), (q7, .inl (cJ, 40, .inr (.inl ga))), (q8, .inl (cJ, 40, .inr (.inl gb))), (q9, .inl (cI, 40, .inl oc)), (q10, .inl (cI, 40, .inl tb)), (q11, .inl (cI, 40, .inl fb)), (q12, .inl (cI, 40, .inl ka)), (q13, .inl (cI, 40, .inl eb)), (g, .inr (1, [.int sd, .int (nI lf), .ref g1, .ref g2, .ref g3])), (g1, .inl (cI, 16, .inl pr)), (g2, .inl (cI, 16, .inl ho)), (g3, .inl (cI, 16, .inl be)), (hB, .inr (0, [.int bz, .ref b1, .ref b2, .ref b3, .ref b4, .ref b5, .ref b6])), (b1, .inl (cI, 40, .inl ok)), (b2, .inl (cI, 40, .inl ak)), (b3, .inl (cI, 40, .inl bk)), (b4, .inl (cI, 40, .inl ck)), (b5, .inl (cI, 40, .inl sk)), (b6, .inl (cI, 16, .inl gn))] s.heap.size = A at hD ⊢
  have hA : ∀ q : Nat, s.heap.size ≤ q → A q := fun q h => by rw [← hAe]; exact Or.inr h
  have hS : va_S A s.heap s.heap [] := va_S.rf
  have hl := lv_entry ([.ref u, .int (nI w)]) (n := 3) (Nat.le_of_ble_eq_true rfl)
  rw [lg_entry_eq]
  generalize (lg_sl ([.ref u, .int (nI w)]) ++ List.replicate (3 - (lg_sl ([.ref u, .int (nI w)])).length) Slot.unset).toArray = ls at hl ⊢
  have hl : lv_has ls 3 [(0, .ref u), (1, .int (nI w))] := hl
  have hinX0 : ∀ w ∈ u_ws RX0 TX0 7, w ∈ wsX2_takeCall := fun _ h => List.mem_cons_of_mem _ (List.mem_append_left _ (List.mem_append_left _ (List.mem_append_right _ h)))
  have hinX1 : ∀ w ∈ u_ws RX1 TX1 5, w ∈ wsX2_takeCall := fun _ h => List.mem_cons_of_mem _ (List.mem_append_left _ (List.mem_append_right _ h))
  have hinX2 : ∀ w ∈ u_ws RX2 TX2 13, w ∈ wsX2_takeCall := fun _ h => List.mem_cons_of_mem _ (List.mem_append_left _ (List.mem_append_left _ (List.mem_append_left _ (List.mem_append_right _ h))))
  refine lv_aload_n hx hb dX2_takeCall_0 rfl (lv_at hl 0 rfl) ?_
  refine va_get (D := D) (ci := 2) (v := .ref h) (C := RX2) (T := TX2) (N := 13) hx hb hts hinX2 hown hK hP 0 rfl rfl 1 (by decide) (hts (.fieldLink RX2 27 "LedgerShares$Run" "sheet" "LLedgerShares$Sheet;") (List.mem_of_getElem? (i := 1) rfl)) (fun _ h9 => h9) rfl dX2_takeCall_1 ?_
  refine lv_aload_n hx hb dX2_takeCall_4 rfl (lv_at hl 0 rfl) ?_
  refine va_get (D := D) (ci := 2) (v := .int (nI kp)) (C := RX2) (T := TX2) (N := 13) hx hb hts hinX2 hown hK hP 0 rfl rfl 6 (by decide) (hts (.fieldLink RX2 38 "LedgerShares$Run" "kept" "I") (List.mem_of_getElem? (i := 2) rfl)) (fun _ h9 => h9) rfl dX2_takeCall_5 ?_
  refine lv_aload_n hx hb dX2_takeCall_8 rfl (lv_at hl 0 rfl) ?_
  refine va_get (D := D) (ci := 2) (v := .int (nI cl)) (C := RX2) (T := TX2) (N := 13) hx hb hts hinX2 hown hK hP 0 rfl rfl 3 (by decide) (hts (.fieldLink RX2 42 "LedgerShares$Run" "calls" "I") (List.mem_of_getElem? (i := 3) rfl)) (fun _ h9 => h9) rfl dX2_takeCall_9 ?_
  refine lv_aload_n hx hb dX2_takeCall_12 rfl (lv_at hl 0 rfl) ?_
  refine va_get (D := D) (ci := 2) (v := .int (nI kp)) (C := RX2) (T := TX2) (N := 13) hx hb hts hinX2 hown hK hP 0 rfl rfl 6 (by decide) (hts (.fieldLink RX2 38 "LedgerShares$Run" "kept" "I") (List.mem_of_getElem? (i := 2) rfl)) (fun _ h9 => h9) rfl dX2_takeCall_13 ?_
  refine lv_aload_n hx hb dX2_takeCall_16 rfl (lv_at hl 0 rfl) ?_
  refine va_get (D := D) (ci := 2) (v := .int (nI rm)) (C := RX2) (T := TX2) (N := 13) hx hb hts hinX2 hown hK hP 0 rfl rfl 5 (by decide) (hts (.fieldLink RX2 74 "LedgerShares$Run" "room" "I") (List.mem_of_getElem? (i := 4) rfl)) (fun _ h9 => h9) rfl dX2_takeCall_17 ?_
  refine lv_iadd hx hb dX2_takeCall_20 ?_
  refine x_topi (y := nI (kp + rm)) (nI_add _ _) ?_
  refine va_mmin hx hb (by rw [hml]; exact hl.1.symm) hown (hts (.methodLink RX2 107 Lib.Math.min.name) (List.mem_of_getElem? (i := 5) rfl)) (hts (.static Lib.Math.min.name) (List.mem_of_getElem? (i := 6) rfl)) (hts (.initialized "java/lang/Math") (List.mem_of_getElem? (i := 7) rfl)) (hts (.code Lib.Math.min.name Lib.Math.min.code 2 (some .int)) (List.mem_of_getElem? (i := 8) rfl)) (Nat.le_of_ble_eq_true rfl) (Nat.le_of_ble_eq_true rfl) (Nat.zero_le _) (Nat.zero_le _) dX2_takeCall_21 ?_
  refine x_topi (y := nI (min cl (kp + rm))) (min_I (by omega) (by omega)) ?_
  refine vp_callSi (va_Run.run (va_runV (As := [.int (nI kp), .int (nI (min cl (kp + rm)))]) (rest := []) ⟨hx, hb, hml, hown, hts⟩ (k_leastOpen l D cI cJ cZ h hB q1 q2 q3 q4 q5 q6 q7 q8 q9 q10 q11 q12 q13 st kp (min cl (kp + rm)) (by omega) (by omega)) (cwV 2 hts gX2_takeCall_X3_leastOpen rfl rfl rfl (by decide +kernel) ⟨Nat.le_of_ble_eq_true rfl, Nat.le_of_ble_eq_true rfl⟩) ⟨bl_ro, va_recv hK (hP.sub (ws' := [(h, .inr (3, [.ref hB, .ref q1, .ref q2, .ref q3, .ref q4, .ref q5, .ref q6, .ref q7, .ref q8, .ref q9, .ref q10, .ref q11, .ref q12, .ref q13])), (q1, .inl (cI, 40, .inl st))]) [1, 2] rfl) (ci := 3) (q0 := 0) rfl rfl, fun U hU hW => ⟨rfl, by rw [hU]; exact (hP.sub (ws' := [(h, .inr (3, [.ref hB, .ref q1, .ref q2, .ref q3, .ref q4, .ref q5, .ref q6, .ref q7, .ref q8, .ref q9, .ref q10, .ref q11, .ref q12, .ref q13])), (q1, .inl (cI, 40, .inl st))]) [1, 2] rfl), hE.warm2 hW⟩⟩ rfl rfl hl.1 rfl (lv_room (Nat.le_of_ble_eq_true rfl)) dX2_takeCall_24 ⟨Nat.zero_le _, Nat.zero_le _⟩)) (fun r24 hr24 => ?_)
  rcases hls : lsN st (min cl (kp + rm)) 41 kp with _ | j
  · rw [hr24, lsN_O, hls]
    show W _ _ _ _ _ _ _ _ _ _ _ _ _ _ _ (F0 _ _ _ [.int (-1)])
    refine lv_istore_n (lv' := [(2, .int (-1)), (0, .ref u), (1, .int (nI w))]) hx hb dX2_takeCall_27 rfl hl (by decide) rfl (fun ls hl => ?_)
    refine lv_iload_n hx hb dX2_takeCall_28 rfl (lv_at hl 0 rfl) ?_
    refine lv_iconst (v := (-1)) hx hb dX2_takeCall_29 (by decide) ?_
    refine lv_icmp_ne (tgt := 44) hx hb dX2_takeCall_30 (by decide) (fun c30 => absurd (by decide) c30) (fun c30 => ?_)
    refine lv_aload_n hx hb dX2_takeCall_33 rfl (lv_at hl 1 rfl) ?_
    refine lv_dup hx hb dX2_takeCall_34 rfl ?_
    refine va_get (D := D) (ci := 2) (v := .int id_) (C := RX2) (T := TX2) (N := 13) hx hb hts hinX2 hown hK hP 0 rfl rfl 12 (by decide) (hts (.fieldLink RX2 86 "LedgerShares$Run" "idle" "I") (List.mem_of_getElem? (i := 9) rfl)) (fun _ h9 => h9) rfl dX2_takeCall_35 ?_
    refine lv_iconst (v := 1) hx hb dX2_takeCall_38 (by decide) ?_
    refine lv_iadd hx hb dX2_takeCall_39 ?_
    refine x_put (D := D) (ci := 2) (v := .int (id_ + 1)) (ty := .int) (C := RX2) (T := TX2) (N := 13) hx hb hts hinX2 tyX2 tyX2_ok nmX2 hown hK hP hD hS 0 rfl rfl 12 (by decide) (hts (.fieldLink RX2 86 "LedgerShares$Run" "idle" "I") (List.mem_of_getElem? (i := 9) rfl)) rfl (by decide +kernel) (rfl) (rfl) (Nat.le_of_ble_eq_true rfl) (ws' := [(u, .inr (2, [.ref hB, .ref h, .ref g, .int (nI cl), .int tk, .int (nI rm), .int (nI kp), .int bg, .int an, .int dm, .int uw, .int mu, .int (id_ + 1)])), (h, .inr (3, [.ref hB, .ref q1, .ref q2, .ref q3, .ref q4, .ref q5, .ref q6, .ref q7, .ref q8, .ref q9, .ref q10, .ref q11, .ref q12, .ref q13])), (q1, .inl (cI, 40, .inl st)), (q2, .inl (cI, 40, .inl sl)), (q3, .inl (cJ, 40, .inr (.inl ra))), (q4, .inl (cJ, 40, .inr (.inl rb))), (q5, .inl (cZ, 40, .inl ca)), (q6, .inl (cZ, 40, .inl cb)), (q7, .inl (cJ, 40, .inr (.inl ga))), (q8, .inl (cJ, 40, .inr (.inl gb))), (q9, .inl (cI, 40, .inl oc)), (q10, .inl (cI, 40, .inl tb)), (q11, .inl (cI, 40, .inl fb)), (q12, .inl (cI, 40, .inl ka)), (q13, .inl (cI, 40, .inl eb)), (g, .inr (1, [.int sd, .int (nI lf), .ref g1, .ref g2, .ref g3])), (g1, .inl (cI, 16, .inl pr)), (g2, .inl (cI, 16, .inl ho)), (g3, .inl (cI, 16, .inl be)), (hB, .inr (0, [.int bz, .ref b1, .ref b2, .ref b3, .ref b4, .ref b5, .ref b6])), (b1, .inl (cI, 40, .inl ok)), (b2, .inl (cI, 40, .inl ak)), (b3, .inl (cI, 40, .inl bk)), (b4, .inl (cI, 40, .inl ck)), (b5, .inl (cI, 40, .inl sk)), (b6, .inl (cI, 16, .inl gn))]) rfl dX2_takeCall_40 (fun H locs hP hD hS => ?_)
    have q : takeCallF cl rm ak bk sk gn w (kp, tk, bg, an, dm, uw, mu, id_, st, sl, ra, rb, ca, cb, ga, gb, oc, tb, fb, ka, eb, sd, lf, pr, ho, be) = (kp, tk, bg, an, dm, uw, mu, id_ + 1, st, sl, ra, rb, ca, cb, ga, gb, oc, tb, fb, ka, eb, sd, lf, pr, ho, be) := by simp [takeCallF, hls]
    rw [q] at hc
    cases hc
    exact W.vret hx hb hr (fun t ht hW => ⟨⟨(), rfl, trivial, by rw [ht]; exact hP, by exact hD⟩, hS.F ht⟩) hS.2.2 dX2_takeCall_43
  · rw [hr24, lsN_O, hls]
    show W _ _ _ _ _ _ _ _ _ _ _ _ _ _ _ (F0 _ _ _ [.int (nI j)])
    have hj := lsN_in hls
    have hj40 : j < 40 := by omega
    refine lv_istore_n (lv' := [(2, .int (nI j)), (0, .ref u), (1, .int (nI w))]) hx hb dX2_takeCall_27 rfl hl (by decide) rfl (fun ls hl => ?_)
    refine lv_iload_n hx hb dX2_takeCall_28 rfl (lv_at hl 0 rfl) ?_
    refine lv_iconst (v := (-1)) hx hb dX2_takeCall_29 (by decide) ?_
    refine lv_icmp_ne (tgt := 44) hx hb dX2_takeCall_30 (by decide) (fun c30 => ?_) (fun c30 => absurd c30 (nI_ne_m1 (by omega)))
    refine lv_aload_n hx hb dX2_takeCall_44 rfl (lv_at hl 1 rfl) ?_
    refine lv_dup hx hb dX2_takeCall_45 rfl ?_
    refine va_get (D := D) (ci := 2) (v := .int bg) (C := RX2) (T := TX2) (N := 13) hx hb hts hinX2 hown hK hP 0 rfl rfl 7 (by decide) (hts (.fieldLink RX2 77 "LedgerShares$Run" "begun" "I") (List.mem_of_getElem? (i := 10) rfl)) (fun _ h9 => h9) rfl dX2_takeCall_46 ?_
    refine lv_iconst (v := 1) hx hb dX2_takeCall_49 (by decide) ?_
    refine lv_iadd hx hb dX2_takeCall_50 ?_
    refine x_put (D := D) (ci := 2) (v := .int (bg + 1)) (ty := .int) (C := RX2) (T := TX2) (N := 13) hx hb hts hinX2 tyX2 tyX2_ok nmX2 hown hK hP hD hS 0 rfl rfl 7 (by decide) (hts (.fieldLink RX2 77 "LedgerShares$Run" "begun" "I") (List.mem_of_getElem? (i := 10) rfl)) rfl (by decide +kernel) (rfl) (rfl) (Nat.le_of_ble_eq_true rfl) (ws' := [(u, .inr (2, [.ref hB, .ref h, .ref g, .int (nI cl), .int tk, .int (nI rm), .int (nI kp), .int (bg + 1), .int an, .int dm, .int uw, .int mu, .int id_])), (h, .inr (3, [.ref hB, .ref q1, .ref q2, .ref q3, .ref q4, .ref q5, .ref q6, .ref q7, .ref q8, .ref q9, .ref q10, .ref q11, .ref q12, .ref q13])), (q1, .inl (cI, 40, .inl st)), (q2, .inl (cI, 40, .inl sl)), (q3, .inl (cJ, 40, .inr (.inl ra))), (q4, .inl (cJ, 40, .inr (.inl rb))), (q5, .inl (cZ, 40, .inl ca)), (q6, .inl (cZ, 40, .inl cb)), (q7, .inl (cJ, 40, .inr (.inl ga))), (q8, .inl (cJ, 40, .inr (.inl gb))), (q9, .inl (cI, 40, .inl oc)), (q10, .inl (cI, 40, .inl tb)), (q11, .inl (cI, 40, .inl fb)), (q12, .inl (cI, 40, .inl ka)), (q13, .inl (cI, 40, .inl eb)), (g, .inr (1, [.int sd, .int (nI lf), .ref g1, .ref g2, .ref g3])), (g1, .inl (cI, 16, .inl pr)), (g2, .inl (cI, 16, .inl ho)), (g3, .inl (cI, 16, .inl be)), (hB, .inr (0, [.int bz, .ref b1, .ref b2, .ref b3, .ref b4, .ref b5, .ref b6])), (b1, .inl (cI, 40, .inl ok)), (b2, .inl (cI, 40, .inl ak)), (b3, .inl (cI, 40, .inl bk)), (b4, .inl (cI, 40, .inl ck)), (b5, .inl (cI, 40, .inl sk)), (b6, .inl (cI, 16, .inl gn))]) rfl dX2_takeCall_51 (fun H locs hP hD hS => ?_)
    refine lv_aload_n hx hb dX2_takeCall_54 rfl (lv_at hl 1 rfl) ?_
    refine va_get (D := D) (ci := 2) (v := .ref h) (C := RX2) (T := TX2) (N := 13) hx hb hts hinX2 hown hK hP 0 rfl rfl 1 (by decide) (hts (.fieldLink RX2 27 "LedgerShares$Run" "sheet" "LLedgerShares$Sheet;") (List.mem_of_getElem? (i := 1) rfl)) (fun _ h9 => h9) rfl dX2_takeCall_55 ?_
    refine lv_iload_n hx hb dX2_takeCall_58 rfl (lv_at hl 0 rfl) ?_
    refine lv_aload_n hx hb dX2_takeCall_59 rfl (lv_at hl 1 rfl) ?_
    refine va_get (D := D) (ci := 2) (v := .int tk) (C := RX2) (T := TX2) (N := 13) hx hb hts hinX2 hown hK hP 0 rfl rfl 4 (by decide) (hts (.fieldLink RX2 48 "LedgerShares$Run" "ticks" "I") (List.mem_of_getElem? (i := 11) rfl)) (fun _ h9 => h9) rfl dX2_takeCall_60 ?_
    refine x_callv (wc := [(h, .inr (3, [.ref hB, .ref q1, .ref q2, .ref q3, .ref q4, .ref q5, .ref q6, .ref q7, .ref q8, .ref q9, .ref q10, .ref q11, .ref q12, .ref q13])), (q10, .inl (cI, 40, .inl tb)), (q11, .inl (cI, 40, .inl fb))]) (wc' := [(h, .inr (3, [.ref hB, .ref q1, .ref q2, .ref q3, .ref q4, .ref q5, .ref q6, .ref q7, .ref q8, .ref q9, .ref q10, .ref q11, .ref q12, .ref q13])), (q10, .inl (cI, 40, .inl (upd tb j (tb j + 1)))), (q11, .inl (cI, 40, .inl (if tb j = 0 then upd fb j tk else fb)))]) (wr := [(u, .inr (2, [.ref hB, .ref h, .ref g, .int (nI cl), .int tk, .int (nI rm), .int (nI kp), .int (bg + 1), .int an, .int dm, .int uw, .int mu, .int id_])), (q1, .inl (cI, 40, .inl st)), (q2, .inl (cI, 40, .inl sl)), (q3, .inl (cJ, 40, .inr (.inl ra))), (q4, .inl (cJ, 40, .inr (.inl rb))), (q5, .inl (cZ, 40, .inl ca)), (q6, .inl (cZ, 40, .inl cb)), (q7, .inl (cJ, 40, .inr (.inl ga))), (q8, .inl (cJ, 40, .inr (.inl gb))), (q9, .inl (cI, 40, .inl oc)), (q12, .inl (cI, 40, .inl ka)), (q13, .inl (cI, 40, .inl eb)), (g, .inr (1, [.int sd, .int (nI lf), .ref g1, .ref g2, .ref g3])), (g1, .inl (cI, 16, .inl pr)), (g2, .inl (cI, 16, .inl ho)), (g3, .inl (cI, 16, .inl be)), (hB, .inr (0, [.int bz, .ref b1, .ref b2, .ref b3, .ref b4, .ref b5, .ref b6])), (b1, .inl (cI, 40, .inl ok)), (b2, .inl (cI, 40, .inl ak)), (b3, .inl (cI, 40, .inl bk)), (b4, .inl (cI, 40, .inl ck)), (b5, .inl (cI, 40, .inl sk)), (b6, .inl (cI, 16, .inl gn))]) (ws' := [(u, .inr (2, [.ref hB, .ref h, .ref g, .int (nI cl), .int tk, .int (nI rm), .int (nI kp), .int (bg + 1), .int an, .int dm, .int uw, .int mu, .int id_])), (h, .inr (3, [.ref hB, .ref q1, .ref q2, .ref q3, .ref q4, .ref q5, .ref q6, .ref q7, .ref q8, .ref q9, .ref q10, .ref q11, .ref q12, .ref q13])), (q1, .inl (cI, 40, .inl st)), (q2, .inl (cI, 40, .inl sl)), (q3, .inl (cJ, 40, .inr (.inl ra))), (q4, .inl (cJ, 40, .inr (.inl rb))), (q5, .inl (cZ, 40, .inl ca)), (q6, .inl (cZ, 40, .inl cb)), (q7, .inl (cJ, 40, .inr (.inl ga))), (q8, .inl (cJ, 40, .inr (.inl gb))), (q9, .inl (cI, 40, .inl oc)), (q10, .inl (cI, 40, .inl (upd tb j (tb j + 1)))), (q11, .inl (cI, 40, .inl (if tb j = 0 then upd fb j tk else fb))), (q12, .inl (cI, 40, .inl ka)), (q13, .inl (cI, 40, .inl eb)), (g, .inr (1, [.int sd, .int (nI lf), .ref g1, .ref g2, .ref g3])), (g1, .inl (cI, 16, .inl pr)), (g2, .inl (cI, 16, .inl ho)), (g3, .inl (cI, 16, .inl be)), (hB, .inr (0, [.int bz, .ref b1, .ref b2, .ref b3, .ref b4, .ref b5, .ref b6])), (b1, .inl (cI, 40, .inl ok)), (b2, .inl (cI, 40, .inl ak)), (b3, .inl (cI, 40, .inl bk)), (b4, .inl (cI, 40, .inl ck)), (b5, .inl (cI, 40, .inl sk)), (b6, .inl (cI, 16, .inl gn))]) hP hD hS hA [1, 11, 12] [0, 2, 3, 4, 5, 6, 7, 8, 9, 10, 13, 14, 15, 16, 17, 18, 19, 20, 21, 22, 23, 24, 25] rfl rfl (by decide) (by decide) [0, 23, 1, 2, 3, 4, 5, 6, 7, 8, 9, 24, 25, 10, 11, 12, 13, 14, 15, 16, 17, 18, 19, 20, 21, 22] (by decide) rfl (va_runV (As := [.int (nI j), .int tk]) (rest := []) ⟨hx, hb, hml, hown, hts⟩ (k_noteBegun l D cI cJ cZ H.size h hB q1 q2 q3 q4 q5 q6 q7 q8 q9 q10 q11 q12 q13 tb fb j hj40 tk) (cwV 2 hts gX2_takeCall_X3_noteBegun rfl rfl rfl (by decide +kernel) ⟨Nat.le_of_ble_eq_true rfl, Nat.le_of_ble_eq_true rfl⟩) ⟨bl_rw, va_recv hK (hP.sub (ws' := [(h, .inr (3, [.ref hB, .ref q1, .ref q2, .ref q3, .ref q4, .ref q5, .ref q6, .ref q7, .ref q8, .ref q9, .ref q10, .ref q11, .ref q12, .ref q13])), (q10, .inl (cI, 40, .inl tb)), (q11, .inl (cI, 40, .inl fb))]) [1, 11, 12] rfl) (ci := 3) (q0 := 0) rfl rfl, fun U hU hW => ⟨rfl, by rw [hU], by rw [hU]; exact (hP.sub (ws' := [(h, .inr (3, [.ref hB, .ref q1, .ref q2, .ref q3, .ref q4, .ref q5, .ref q6, .ref q7, .ref q8, .ref q9, .ref q10, .ref q11, .ref q12, .ref q13])), (q10, .inl (cI, 40, .inl tb)), (q11, .inl (cI, 40, .inl fb))]) [1, 11, 12] rfl), hE.warm2 hW, (hD.sub (ws' := [(h, .inr (3, [.ref hB, .ref q1, .ref q2, .ref q3, .ref q4, .ref q5, .ref q6, .ref q7, .ref q8, .ref q9, .ref q10, .ref q11, .ref q12, .ref q13])), (q10, .inl (cI, 40, .inl tb)), (q11, .inl (cI, 40, .inl fb))]) [1, 11, 12] (by decide) rfl).weaken (fun _ _ _ _ => trivial)⟩⟩ rfl rfl hl.1 rfl (lv_room (Nat.le_of_ble_eq_true rfl)) dX2_takeCall_63 ⟨Nat.zero_le _, Nat.zero_le _⟩) (fun H locs hP hD hS => ?_)
    refine lv_aload_n hx hb dX2_takeCall_66 rfl (lv_at hl 1 rfl) ?_
    refine va_get (D := D) (ci := 2) (v := .ref g) (C := RX2) (T := TX2) (N := 13) hx hb hts hinX2 hown hK hP 0 rfl rfl 2 (by decide) (hts (.fieldLink RX2 12 "LedgerShares$Run" "crew" "LLedgerShares$Crew;") (List.mem_of_getElem? (i := 12) rfl)) (fun _ h9 => h9) rfl dX2_takeCall_67 ?_
    refine lv_iload_n hx hb dX2_takeCall_70 rfl (lv_at hl 2 rfl) ?_
    refine x_calli (wc := [(g, .inr (1, [.int sd, .int (nI lf), .ref g1, .ref g2, .ref g3])), (g3, .inl (cI, 16, .inl be))]) (wc' := [(g, .inr (1, [.int sd, .int (nI lf), .ref g1, .ref g2, .ref g3])), (g3, .inl (cI, 16, .inl (upd be w (be w + 1))))]) (wr := [(u, .inr (2, [.ref hB, .ref h, .ref g, .int (nI cl), .int tk, .int (nI rm), .int (nI kp), .int (bg + 1), .int an, .int dm, .int uw, .int mu, .int id_])), (h, .inr (3, [.ref hB, .ref q1, .ref q2, .ref q3, .ref q4, .ref q5, .ref q6, .ref q7, .ref q8, .ref q9, .ref q10, .ref q11, .ref q12, .ref q13])), (q1, .inl (cI, 40, .inl st)), (q2, .inl (cI, 40, .inl sl)), (q3, .inl (cJ, 40, .inr (.inl ra))), (q4, .inl (cJ, 40, .inr (.inl rb))), (q5, .inl (cZ, 40, .inl ca)), (q6, .inl (cZ, 40, .inl cb)), (q7, .inl (cJ, 40, .inr (.inl ga))), (q8, .inl (cJ, 40, .inr (.inl gb))), (q9, .inl (cI, 40, .inl oc)), (q10, .inl (cI, 40, .inl (upd tb j (tb j + 1)))), (q11, .inl (cI, 40, .inl (if tb j = 0 then upd fb j tk else fb))), (q12, .inl (cI, 40, .inl ka)), (q13, .inl (cI, 40, .inl eb)), (g1, .inl (cI, 16, .inl pr)), (g2, .inl (cI, 16, .inl ho)), (hB, .inr (0, [.int bz, .ref b1, .ref b2, .ref b3, .ref b4, .ref b5, .ref b6])), (b1, .inl (cI, 40, .inl ok)), (b2, .inl (cI, 40, .inl ak)), (b3, .inl (cI, 40, .inl bk)), (b4, .inl (cI, 40, .inl ck)), (b5, .inl (cI, 40, .inl sk)), (b6, .inl (cI, 16, .inl gn))]) (ws' := [(u, .inr (2, [.ref hB, .ref h, .ref g, .int (nI cl), .int tk, .int (nI rm), .int (nI kp), .int (bg + 1), .int an, .int dm, .int uw, .int mu, .int id_])), (h, .inr (3, [.ref hB, .ref q1, .ref q2, .ref q3, .ref q4, .ref q5, .ref q6, .ref q7, .ref q8, .ref q9, .ref q10, .ref q11, .ref q12, .ref q13])), (q1, .inl (cI, 40, .inl st)), (q2, .inl (cI, 40, .inl sl)), (q3, .inl (cJ, 40, .inr (.inl ra))), (q4, .inl (cJ, 40, .inr (.inl rb))), (q5, .inl (cZ, 40, .inl ca)), (q6, .inl (cZ, 40, .inl cb)), (q7, .inl (cJ, 40, .inr (.inl ga))), (q8, .inl (cJ, 40, .inr (.inl gb))), (q9, .inl (cI, 40, .inl oc)), (q10, .inl (cI, 40, .inl (upd tb j (tb j + 1)))), (q11, .inl (cI, 40, .inl (if tb j = 0 then upd fb j tk else fb))), (q12, .inl (cI, 40, .inl ka)), (q13, .inl (cI, 40, .inl eb)), (g, .inr (1, [.int sd, .int (nI lf), .ref g1, .ref g2, .ref g3])), (g1, .inl (cI, 16, .inl pr)), (g2, .inl (cI, 16, .inl ho)), (g3, .inl (cI, 16, .inl (upd be w (be w + 1)))), (hB, .inr (0, [.int bz, .ref b1, .ref b2, .ref b3, .ref b4, .ref b5, .ref b6])), (b1, .inl (cI, 40, .inl ok)), (b2, .inl (cI, 40, .inl ak)), (b3, .inl (cI, 40, .inl bk)), (b4, .inl (cI, 40, .inl ck)), (b5, .inl (cI, 40, .inl sk)), (b6, .inl (cI, 16, .inl gn))]) hP hD hS hA [15, 18] [0, 1, 2, 3, 4, 5, 6, 7, 8, 9, 10, 11, 12, 13, 14, 16, 17, 19, 20, 21, 22, 23, 24, 25] rfl rfl (by decide) (by decide) [0, 1, 2, 3, 4, 5, 6, 7, 8, 9, 10, 11, 12, 13, 14, 24, 15, 16, 25, 17, 18, 19, 20, 21, 22, 23] (by decide) rfl (va_runV (As := [.int (nI w)]) (rest := []) ⟨hx, hb, hml, hown, hts⟩ (k_beginsOnceMore l D cI cJ cZ H.size g g1 g2 g3 sd (nI lf) be w hw) (cwV 1 hts gX2_takeCall_X1_beginsOnceMore rfl rfl rfl (by decide +kernel) ⟨Nat.le_of_ble_eq_true rfl, Nat.le_of_ble_eq_true rfl⟩) ⟨bl_rw, va_recv hK (hP.sub (ws' := [(g, .inr (1, [.int sd, .int (nI lf), .ref g1, .ref g2, .ref g3])), (g3, .inl (cI, 16, .inl be))]) [15, 18] rfl) (ci := 1) (q0 := 0) rfl rfl, fun U hU hW => ⟨rfl, by rw [hU], by rw [hU]; exact (hP.sub (ws' := [(g, .inr (1, [.int sd, .int (nI lf), .ref g1, .ref g2, .ref g3])), (g3, .inl (cI, 16, .inl be))]) [15, 18] rfl), hE.warm2 hW, (hD.sub (ws' := [(g, .inr (1, [.int sd, .int (nI lf), .ref g1, .ref g2, .ref g3])), (g3, .inl (cI, 16, .inl be))]) [15, 18] (by decide) rfl).weaken (fun _ _ _ _ => trivial)⟩⟩ rfl rfl hl.1 rfl (lv_room (Nat.le_of_ble_eq_true rfl)) dX2_takeCall_71 ⟨Nat.zero_le _, Nat.zero_le _⟩) (fun r71 hr71 H locs hP hD hS => ?_)
    subst hr71
    refine lv_aload_n hx hb dX2_takeCall_74 rfl (lv_at hl 1 rfl) ?_
    refine va_get (D := D) (ci := 2) (v := .ref hB) (C := RX2) (T := TX2) (N := 13) hx hb hts hinX2 hown hK hP 0 rfl rfl 0 (by decide) (hts (.fieldLink RX2 18 "LedgerShares$Run" "book" "LLedgerShares$Book;") (List.mem_of_getElem? (i := 13) rfl)) (fun _ h9 => h9) rfl dX2_takeCall_75 ?_
    refine va_get (D := D) (ci := 0) (v := .ref b6) (C := RX0) (T := TX0) (N := 7) hx hb hts hinX0 hown hK hP 19 rfl rfl 6 (by decide) (hts (.fieldLink RX2 120 "LedgerShares$Book" "goneAt" "[I") (List.mem_of_getElem? (i := 14) rfl)) (fun _ h9 => h9) rfl dX2_takeCall_78 ?_
    refine lv_iload_n hx hb dX2_takeCall_81 rfl (lv_at hl 2 rfl) ?_
    refine x_iald hx hb hE hP 25 rfl (w) hw (by decide) (rfl) dX2_takeCall_82 ?_
    refine lv_icmp_ne (tgt := 105) hx hb dX2_takeCall_83 (by decide) (fun c83 => ?_) (fun c83 => ?_)
    · refine lv_aload_n hx hb dX2_takeCall_105 rfl (lv_at hl 1 rfl) ?_
      refine va_get (D := D) (ci := 2) (v := .ref g) (C := RX2) (T := TX2) (N := 13) hx hb hts hinX2 hown hK hP 0 rfl rfl 2 (by decide) (hts (.fieldLink RX2 12 "LedgerShares$Run" "crew" "LLedgerShares$Crew;") (List.mem_of_getElem? (i := 12) rfl)) (fun _ h9 => h9) rfl dX2_takeCall_106 ?_
      refine va_get (D := D) (ci := 1) (v := .ref g2) (C := RX1) (T := TX1) (N := 5) hx hb hts hinX1 hown hK hP 15 rfl rfl 3 (by decide) (hts (.fieldLink RX2 96 "LedgerShares$Crew" "holds" "[I") (List.mem_of_getElem? (i := 16) rfl)) (fun _ h9 => h9) rfl dX2_takeCall_109 ?_
      refine lv_iload_n hx hb dX2_takeCall_112 rfl (lv_at hl 2 rfl) ?_
      refine lv_iload_n hx hb dX2_takeCall_113 rfl (lv_at hl 0 rfl) ?_
      refine x_iast hx hb hE hP hD hS 17 rfl (w) hw (by decide) (rfl) (ws' := [(u, .inr (2, [.ref hB, .ref h, .ref g, .int (nI cl), .int tk, .int (nI rm), .int (nI kp), .int (bg + 1), .int an, .int dm, .int uw, .int mu, .int id_])), (h, .inr (3, [.ref hB, .ref q1, .ref q2, .ref q3, .ref q4, .ref q5, .ref q6, .ref q7, .ref q8, .ref q9, .ref q10, .ref q11, .ref q12, .ref q13])), (q1, .inl (cI, 40, .inl st)), (q2, .inl (cI, 40, .inl sl)), (q3, .inl (cJ, 40, .inr (.inl ra))), (q4, .inl (cJ, 40, .inr (.inl rb))), (q5, .inl (cZ, 40, .inl ca)), (q6, .inl (cZ, 40, .inl cb)), (q7, .inl (cJ, 40, .inr (.inl ga))), (q8, .inl (cJ, 40, .inr (.inl gb))), (q9, .inl (cI, 40, .inl oc)), (q10, .inl (cI, 40, .inl (upd tb j (tb j + 1)))), (q11, .inl (cI, 40, .inl (if tb j = 0 then upd fb j tk else fb))), (q12, .inl (cI, 40, .inl ka)), (q13, .inl (cI, 40, .inl eb)), (g, .inr (1, [.int sd, .int (nI lf), .ref g1, .ref g2, .ref g3])), (g1, .inl (cI, 16, .inl pr)), (g2, .inl (cI, 16, .inl (upd ho w (nI j)))), (g3, .inl (cI, 16, .inl (upd be w (be w + 1)))), (hB, .inr (0, [.int bz, .ref b1, .ref b2, .ref b3, .ref b4, .ref b5, .ref b6])), (b1, .inl (cI, 40, .inl ok)), (b2, .inl (cI, 40, .inl ak)), (b3, .inl (cI, 40, .inl bk)), (b4, .inl (cI, 40, .inl ck)), (b5, .inl (cI, 40, .inl sk)), (b6, .inl (cI, 16, .inl gn))]) (rfl) dX2_takeCall_114 (fun H locs hP hD hS => ?_)
      refine lv_aload_n hx hb dX2_takeCall_115 rfl (lv_at hl 1 rfl) ?_
      refine va_get (D := D) (ci := 2) (v := .ref h) (C := RX2) (T := TX2) (N := 13) hx hb hts hinX2 hown hK hP 0 rfl rfl 1 (by decide) (hts (.fieldLink RX2 27 "LedgerShares$Run" "sheet" "LLedgerShares$Sheet;") (List.mem_of_getElem? (i := 1) rfl)) (fun _ h9 => h9) rfl dX2_takeCall_116 ?_
      refine lv_iload_n hx hb dX2_takeCall_119 rfl (lv_at hl 0 rfl) ?_
      refine x_callv (wc := [(h, .inr (3, [.ref hB, .ref q1, .ref q2, .ref q3, .ref q4, .ref q5, .ref q6, .ref q7, .ref q8, .ref q9, .ref q10, .ref q11, .ref q12, .ref q13])), (q1, .inl (cI, 40, .inl st)), (q2, .inl (cI, 40, .inl sl)), (q3, .inl (cJ, 40, .inr (.inl ra))), (q4, .inl (cJ, 40, .inr (.inl rb))), (q5, .inl (cZ, 40, .inl ca)), (q6, .inl (cZ, 40, .inl cb)), (q7, .inl (cJ, 40, .inr (.inl ga))), (q8, .inl (cJ, 40, .inr (.inl gb))), (hB, .inr (0, [.int bz, .ref b1, .ref b2, .ref b3, .ref b4, .ref b5, .ref b6])), (b2, .inl (cI, 40, .inl ak)), (b3, .inl (cI, 40, .inl bk)), (b5, .inl (cI, 40, .inl sk))]) (wc' := [(h, .inr (3, [.ref hB, .ref q1, .ref q2, .ref q3, .ref q4, .ref q5, .ref q6, .ref q7, .ref q8, .ref q9, .ref q10, .ref q11, .ref q12, .ref q13])), (q1, .inl (cI, 40, .inl (upd st j 1))), (q2, .inl (cI, 40, .inl (upd sl j (sk j)))), (q3, .inl (cJ, 40, .inr (.inl (vp_updL ra j (stnd (upd st j 1) ca ak cb bk ga gb (ak j) j))))), (q4, .inl (cJ, 40, .inr (.inl (vp_updL rb j (stnd (upd st j 1) ca ak cb bk ga gb (bk j) j))))), (q5, .inl (cZ, 40, .inl ca)), (q6, .inl (cZ, 40, .inl cb)), (q7, .inl (cJ, 40, .inr (.inl ga))), (q8, .inl (cJ, 40, .inr (.inl gb))), (hB, .inr (0, [.int bz, .ref b1, .ref b2, .ref b3, .ref b4, .ref b5, .ref b6])), (b2, .inl (cI, 40, .inl ak)), (b3, .inl (cI, 40, .inl bk)), (b5, .inl (cI, 40, .inl sk))]) (wr := [(u, .inr (2, [.ref hB, .ref h, .ref g, .int (nI cl), .int tk, .int (nI rm), .int (nI kp), .int (bg + 1), .int an, .int dm, .int uw, .int mu, .int id_])), (q9, .inl (cI, 40, .inl oc)), (q10, .inl (cI, 40, .inl (upd tb j (tb j + 1)))), (q11, .inl (cI, 40, .inl (if tb j = 0 then upd fb j tk else fb))), (q12, .inl (cI, 40, .inl ka)), (q13, .inl (cI, 40, .inl eb)), (g, .inr (1, [.int sd, .int (nI lf), .ref g1, .ref g2, .ref g3])), (g1, .inl (cI, 16, .inl pr)), (g2, .inl (cI, 16, .inl (upd ho w (nI j)))), (g3, .inl (cI, 16, .inl (upd be w (be w + 1)))), (b1, .inl (cI, 40, .inl ok)), (b4, .inl (cI, 40, .inl ck)), (b6, .inl (cI, 16, .inl gn))]) (ws' := [(u, .inr (2, [.ref hB, .ref h, .ref g, .int (nI cl), .int tk, .int (nI rm), .int (nI kp), .int (bg + 1), .int an, .int dm, .int uw, .int mu, .int id_])), (h, .inr (3, [.ref hB, .ref q1, .ref q2, .ref q3, .ref q4, .ref q5, .ref q6, .ref q7, .ref q8, .ref q9, .ref q10, .ref q11, .ref q12, .ref q13])), (q1, .inl (cI, 40, .inl (upd st j 1))), (q2, .inl (cI, 40, .inl (upd sl j (sk j)))), (q3, .inl (cJ, 40, .inr (.inl (vp_updL ra j (stnd (upd st j 1) ca ak cb bk ga gb (ak j) j))))), (q4, .inl (cJ, 40, .inr (.inl (vp_updL rb j (stnd (upd st j 1) ca ak cb bk ga gb (bk j) j))))), (q5, .inl (cZ, 40, .inl ca)), (q6, .inl (cZ, 40, .inl cb)), (q7, .inl (cJ, 40, .inr (.inl ga))), (q8, .inl (cJ, 40, .inr (.inl gb))), (q9, .inl (cI, 40, .inl oc)), (q10, .inl (cI, 40, .inl (upd tb j (tb j + 1)))), (q11, .inl (cI, 40, .inl (if tb j = 0 then upd fb j tk else fb))), (q12, .inl (cI, 40, .inl ka)), (q13, .inl (cI, 40, .inl eb)), (g, .inr (1, [.int sd, .int (nI lf), .ref g1, .ref g2, .ref g3])), (g1, .inl (cI, 16, .inl pr)), (g2, .inl (cI, 16, .inl (upd ho w (nI j)))), (g3, .inl (cI, 16, .inl (upd be w (be w + 1)))), (hB, .inr (0, [.int bz, .ref b1, .ref b2, .ref b3, .ref b4, .ref b5, .ref b6])), (b1, .inl (cI, 40, .inl ok)), (b2, .inl (cI, 40, .inl ak)), (b3, .inl (cI, 40, .inl bk)), (b4, .inl (cI, 40, .inl ck)), (b5, .inl (cI, 40, .inl sk)), (b6, .inl (cI, 16, .inl gn))]) hP hD hS hA [1, 2, 3, 4, 5, 6, 7, 8, 9, 19, 21, 22, 24] [0, 10, 11, 12, 13, 14, 15, 16, 17, 18, 20, 23, 25] rfl rfl (by decide) (by decide) [0, 13, 14, 15, 16, 17, 18, 19, 20, 21, 1, 2, 3, 4, 5, 6, 7, 8, 9, 22, 10, 23, 24, 11, 25, 12] (by decide) rfl (va_runV (As := [.int (nI j)]) (rest := []) ⟨hx, hb, hml, hown, hts⟩ (k_setUnderWay l D cI cJ cZ H.size h hB q1 q2 q3 q4 q5 q6 q7 q8 q9 q10 q11 q12 q13 st sl ca cb ra rb ga gb b1 b2 b3 b4 b5 b6 bz ak bk sk j hj40) (cwV 1 hts gX2_takeCall_X3_setUnderWay rfl rfl rfl (by decide +kernel) ⟨Nat.le_of_ble_eq_true rfl, Nat.le_of_ble_eq_true rfl⟩) ⟨bl_rw, va_recv hK (hP.sub (ws' := [(h, .inr (3, [.ref hB, .ref q1, .ref q2, .ref q3, .ref q4, .ref q5, .ref q6, .ref q7, .ref q8, .ref q9, .ref q10, .ref q11, .ref q12, .ref q13])), (q1, .inl (cI, 40, .inl st)), (q2, .inl (cI, 40, .inl sl)), (q3, .inl (cJ, 40, .inr (.inl ra))), (q4, .inl (cJ, 40, .inr (.inl rb))), (q5, .inl (cZ, 40, .inl ca)), (q6, .inl (cZ, 40, .inl cb)), (q7, .inl (cJ, 40, .inr (.inl ga))), (q8, .inl (cJ, 40, .inr (.inl gb))), (hB, .inr (0, [.int bz, .ref b1, .ref b2, .ref b3, .ref b4, .ref b5, .ref b6])), (b2, .inl (cI, 40, .inl ak)), (b3, .inl (cI, 40, .inl bk)), (b5, .inl (cI, 40, .inl sk))]) [1, 2, 3, 4, 5, 6, 7, 8, 9, 19, 21, 22, 24] rfl) (ci := 3) (q0 := 0) rfl rfl, fun U hU hW => ⟨rfl, by rw [hU], by rw [hU]; exact (hP.sub (ws' := [(h, .inr (3, [.ref hB, .ref q1, .ref q2, .ref q3, .ref q4, .ref q5, .ref q6, .ref q7, .ref q8, .ref q9, .ref q10, .ref q11, .ref q12, .ref q13])), (q1, .inl (cI, 40, .inl st)), (q2, .inl (cI, 40, .inl sl)), (q3, .inl (cJ, 40, .inr (.inl ra))), (q4, .inl (cJ, 40, .inr (.inl rb))), (q5, .inl (cZ, 40, .inl ca)), (q6, .inl (cZ, 40, .inl cb)), (q7, .inl (cJ, 40, .inr (.inl ga))), (q8, .inl (cJ, 40, .inr (.inl gb))), (hB, .inr (0, [.int bz, .ref b1, .ref b2, .ref b3, .ref b4, .ref b5, .ref b6])), (b2, .inl (cI, 40, .inl ak)), (b3, .inl (cI, 40, .inl bk)), (b5, .inl (cI, 40, .inl sk))]) [1, 2, 3, 4, 5, 6, 7, 8, 9, 19, 21, 22, 24] rfl), hE.warm2 hW, (hD.sub (ws' := [(h, .inr (3, [.ref hB, .ref q1, .ref q2, .ref q3, .ref q4, .ref q5, .ref q6, .ref q7, .ref q8, .ref q9, .ref q10, .ref q11, .ref q12, .ref q13])), (q1, .inl (cI, 40, .inl st)), (q2, .inl (cI, 40, .inl sl)), (q3, .inl (cJ, 40, .inr (.inl ra))), (q4, .inl (cJ, 40, .inr (.inl rb))), (q5, .inl (cZ, 40, .inl ca)), (q6, .inl (cZ, 40, .inl cb)), (q7, .inl (cJ, 40, .inr (.inl ga))), (q8, .inl (cJ, 40, .inr (.inl gb))), (hB, .inr (0, [.int bz, .ref b1, .ref b2, .ref b3, .ref b4, .ref b5, .ref b6])), (b2, .inl (cI, 40, .inl ak)), (b3, .inl (cI, 40, .inl bk)), (b5, .inl (cI, 40, .inl sk))]) [1, 2, 3, 4, 5, 6, 7, 8, 9, 19, 21, 22, 24] (by decide) rfl).weaken (fun _ _ _ _ => trivial)⟩⟩ rfl rfl hl.1 rfl (lv_room (Nat.le_of_ble_eq_true rfl)) dX2_takeCall_120 ⟨Nat.zero_le _, Nat.zero_le _⟩) (fun H locs hP hD hS => ?_)
      refine lv_aload_n hx hb dX2_takeCall_123 rfl (lv_at hl 1 rfl) ?_
      refine lv_dup hx hb dX2_takeCall_124 rfl ?_
      refine va_get (D := D) (ci := 2) (v := .int uw) (C := RX2) (T := TX2) (N := 13) hx hb hts hinX2 hown hK hP 0 rfl rfl 10 (by decide) (hts (.fieldLink RX2 65 "LedgerShares$Run" "underWay" "I") (List.mem_of_getElem? (i := 17) rfl)) (fun _ h9 => h9) rfl dX2_takeCall_125 ?_
      refine lv_iconst (v := 1) hx hb dX2_takeCall_128 (by decide) ?_
      refine lv_iadd hx hb dX2_takeCall_129 ?_
      refine x_put (D := D) (ci := 2) (v := .int (uw + 1)) (ty := .int) (C := RX2) (T := TX2) (N := 13) hx hb hts hinX2 tyX2 tyX2_ok nmX2 hown hK hP hD hS 0 rfl rfl 10 (by decide) (hts (.fieldLink RX2 65 "LedgerShares$Run" "underWay" "I") (List.mem_of_getElem? (i := 17) rfl)) rfl (by decide +kernel) (rfl) (rfl) (Nat.le_of_ble_eq_true rfl) (ws' := [(u, .inr (2, [.ref hB, .ref h, .ref g, .int (nI cl), .int tk, .int (nI rm), .int (nI kp), .int (bg + 1), .int an, .int dm, .int (uw + 1), .int mu, .int id_])), (h, .inr (3, [.ref hB, .ref q1, .ref q2, .ref q3, .ref q4, .ref q5, .ref q6, .ref q7, .ref q8, .ref q9, .ref q10, .ref q11, .ref q12, .ref q13])), (q1, .inl (cI, 40, .inl (upd st j 1))), (q2, .inl (cI, 40, .inl (upd sl j (sk j)))), (q3, .inl (cJ, 40, .inr (.inl (vp_updL ra j (stnd (upd st j 1) ca ak cb bk ga gb (ak j) j))))), (q4, .inl (cJ, 40, .inr (.inl (vp_updL rb j (stnd (upd st j 1) ca ak cb bk ga gb (bk j) j))))), (q5, .inl (cZ, 40, .inl ca)), (q6, .inl (cZ, 40, .inl cb)), (q7, .inl (cJ, 40, .inr (.inl ga))), (q8, .inl (cJ, 40, .inr (.inl gb))), (q9, .inl (cI, 40, .inl oc)), (q10, .inl (cI, 40, .inl (upd tb j (tb j + 1)))), (q11, .inl (cI, 40, .inl (if tb j = 0 then upd fb j tk else fb))), (q12, .inl (cI, 40, .inl ka)), (q13, .inl (cI, 40, .inl eb)), (g, .inr (1, [.int sd, .int (nI lf), .ref g1, .ref g2, .ref g3])), (g1, .inl (cI, 16, .inl pr)), (g2, .inl (cI, 16, .inl (upd ho w (nI j)))), (g3, .inl (cI, 16, .inl (upd be w (be w + 1)))), (hB, .inr (0, [.int bz, .ref b1, .ref b2, .ref b3, .ref b4, .ref b5, .ref b6])), (b1, .inl (cI, 40, .inl ok)), (b2, .inl (cI, 40, .inl ak)), (b3, .inl (cI, 40, .inl bk)), (b4, .inl (cI, 40, .inl ck)), (b5, .inl (cI, 40, .inl sk)), (b6, .inl (cI, 16, .inl gn))]) rfl dX2_takeCall_130 (fun H locs hP hD hS => ?_)
      have q : takeCallF cl rm ak bk sk gn w (kp, tk, bg, an, dm, uw, mu, id_, st, sl, ra, rb, ca, cb, ga, gb, oc, tb, fb, ka, eb, sd, lf, pr, ho, be) = (kp, tk, bg + 1, an, dm, uw + 1, mu, id_, (upd st j 1), (upd sl j (sk j)), (vp_updL ra j (stnd (upd st j 1) ca ak cb bk ga gb (ak j) j)), (vp_updL rb j (stnd (upd st j 1) ca ak cb bk ga gb (bk j) j)), ca, cb, ga, gb, oc, (upd tb j (tb j + 1)), (if tb j = 0 then upd fb j tk else fb), ka, eb, sd, lf, pr, (upd ho w (nI j)), (upd be w (be w + 1))) := by simp [takeCallF, hls, c83]
      rw [q] at hc
      cases hc
      exact W.vret hx hb hr (fun t ht hW => ⟨⟨(), rfl, trivial, by rw [ht]; exact hP, by exact hD⟩, hS.F ht⟩) hS.2.2 dX2_takeCall_133
    · refine lv_aload_n hx hb dX2_takeCall_86 rfl (lv_at hl 1 rfl) ?_
      refine va_get (D := D) (ci := 2) (v := .ref g) (C := RX2) (T := TX2) (N := 13) hx hb hts hinX2 hown hK hP 0 rfl rfl 2 (by decide) (hts (.fieldLink RX2 12 "LedgerShares$Run" "crew" "LLedgerShares$Crew;") (List.mem_of_getElem? (i := 12) rfl)) (fun _ h9 => h9) rfl dX2_takeCall_87 ?_
      refine lv_iload_n hx hb dX2_takeCall_90 rfl (lv_at hl 2 rfl) ?_
      refine x_callv (wc := [(g, .inr (1, [.int sd, .int (nI lf), .ref g1, .ref g2, .ref g3])), (g1, .inl (cI, 16, .inl pr))]) (wc' := [(g, .inr (1, [.int sd, .int (nI (dsm lf (nI w) 17 0 0 pr).2), .ref g1, .ref g2, .ref g3])), (g1, .inl (cI, 16, .inl ((dsm lf (nI w) 17 0 0 pr).1)))]) (wr := [(u, .inr (2, [.ref hB, .ref h, .ref g, .int (nI cl), .int tk, .int (nI rm), .int (nI kp), .int (bg + 1), .int an, .int dm, .int uw, .int mu, .int id_])), (h, .inr (3, [.ref hB, .ref q1, .ref q2, .ref q3, .ref q4, .ref q5, .ref q6, .ref q7, .ref q8, .ref q9, .ref q10, .ref q11, .ref q12, .ref q13])), (q1, .inl (cI, 40, .inl st)), (q2, .inl (cI, 40, .inl sl)), (q3, .inl (cJ, 40, .inr (.inl ra))), (q4, .inl (cJ, 40, .inr (.inl rb))), (q5, .inl (cZ, 40, .inl ca)), (q6, .inl (cZ, 40, .inl cb)), (q7, .inl (cJ, 40, .inr (.inl ga))), (q8, .inl (cJ, 40, .inr (.inl gb))), (q9, .inl (cI, 40, .inl oc)), (q10, .inl (cI, 40, .inl (upd tb j (tb j + 1)))), (q11, .inl (cI, 40, .inl (if tb j = 0 then upd fb j tk else fb))), (q12, .inl (cI, 40, .inl ka)), (q13, .inl (cI, 40, .inl eb)), (g2, .inl (cI, 16, .inl ho)), (g3, .inl (cI, 16, .inl (upd be w (be w + 1)))), (hB, .inr (0, [.int bz, .ref b1, .ref b2, .ref b3, .ref b4, .ref b5, .ref b6])), (b1, .inl (cI, 40, .inl ok)), (b2, .inl (cI, 40, .inl ak)), (b3, .inl (cI, 40, .inl bk)), (b4, .inl (cI, 40, .inl ck)), (b5, .inl (cI, 40, .inl sk)), (b6, .inl (cI, 16, .inl gn))]) (ws' := [(u, .inr (2, [.ref hB, .ref h, .ref g, .int (nI cl), .int tk, .int (nI rm), .int (nI kp), .int (bg + 1), .int an, .int dm, .int uw, .int mu, .int id_])), (h, .inr (3, [.ref hB, .ref q1, .ref q2, .ref q3, .ref q4, .ref q5, .ref q6, .ref q7, .ref q8, .ref q9, .ref q10, .ref q11, .ref q12, .ref q13])), (q1, .inl (cI, 40, .inl st)), (q2, .inl (cI, 40, .inl sl)), (q3, .inl (cJ, 40, .inr (.inl ra))), (q4, .inl (cJ, 40, .inr (.inl rb))), (q5, .inl (cZ, 40, .inl ca)), (q6, .inl (cZ, 40, .inl cb)), (q7, .inl (cJ, 40, .inr (.inl ga))), (q8, .inl (cJ, 40, .inr (.inl gb))), (q9, .inl (cI, 40, .inl oc)), (q10, .inl (cI, 40, .inl (upd tb j (tb j + 1)))), (q11, .inl (cI, 40, .inl (if tb j = 0 then upd fb j tk else fb))), (q12, .inl (cI, 40, .inl ka)), (q13, .inl (cI, 40, .inl eb)), (g, .inr (1, [.int sd, .int (nI (dsm lf (nI w) 17 0 0 pr).2), .ref g1, .ref g2, .ref g3])), (g1, .inl (cI, 16, .inl ((dsm lf (nI w) 17 0 0 pr).1))), (g2, .inl (cI, 16, .inl ho)), (g3, .inl (cI, 16, .inl (upd be w (be w + 1)))), (hB, .inr (0, [.int bz, .ref b1, .ref b2, .ref b3, .ref b4, .ref b5, .ref b6])), (b1, .inl (cI, 40, .inl ok)), (b2, .inl (cI, 40, .inl ak)), (b3, .inl (cI, 40, .inl bk)), (b4, .inl (cI, 40, .inl ck)), (b5, .inl (cI, 40, .inl sk)), (b6, .inl (cI, 16, .inl gn))]) hP hD hS hA [15, 16] [0, 1, 2, 3, 4, 5, 6, 7, 8, 9, 10, 11, 12, 13, 14, 17, 18, 19, 20, 21, 22, 23, 24, 25] rfl rfl (by decide) (by decide) [0, 1, 2, 3, 4, 5, 6, 7, 8, 9, 10, 11, 12, 13, 14, 24, 25, 15, 16, 17, 18, 19, 20, 21, 22, 23] (by decide) rfl (va_runV (As := [.int (nI w)]) (rest := []) ⟨hx, hb, hml, hown, hts⟩ (k_dismiss l D cI cJ cZ H.size g g1 g2 g3 sd lf pr w hl16) (cwV 1 hts gX2_takeCall_X1_dismiss rfl rfl rfl (by decide +kernel) ⟨Nat.le_of_ble_eq_true rfl, Nat.le_of_ble_eq_true rfl⟩) ⟨bl_rw, va_recv hK (hP.sub (ws' := [(g, .inr (1, [.int sd, .int (nI lf), .ref g1, .ref g2, .ref g3])), (g1, .inl (cI, 16, .inl pr))]) [15, 16] rfl) (ci := 1) (q0 := 0) rfl rfl, fun U hU hW => ⟨rfl, by rw [hU], by rw [hU]; exact (hP.sub (ws' := [(g, .inr (1, [.int sd, .int (nI lf), .ref g1, .ref g2, .ref g3])), (g1, .inl (cI, 16, .inl pr))]) [15, 16] rfl), hE.warm2 hW, (hD.sub (ws' := [(g, .inr (1, [.int sd, .int (nI lf), .ref g1, .ref g2, .ref g3])), (g1, .inl (cI, 16, .inl pr))]) [15, 16] (by decide) rfl).weaken (fun _ _ _ _ => trivial)⟩⟩ rfl rfl hl.1 rfl (lv_room (Nat.le_of_ble_eq_true rfl)) dX2_takeCall_91 ⟨Nat.zero_le _, Nat.zero_le _⟩) (fun H locs hP hD hS => ?_)
      refine lv_aload_n hx hb dX2_takeCall_94 rfl (lv_at hl 1 rfl) ?_
      refine lv_dup hx hb dX2_takeCall_95 rfl ?_
      refine va_get (D := D) (ci := 2) (v := .int dm) (C := RX2) (T := TX2) (N := 13) hx hb hts hinX2 hown hK hP 0 rfl rfl 9 (by decide) (hts (.fieldLink RX2 83 "LedgerShares$Run" "dismissed" "I") (List.mem_of_getElem? (i := 15) rfl)) (fun _ h9 => h9) rfl dX2_takeCall_96 ?_
      refine lv_iconst (v := 1) hx hb dX2_takeCall_99 (by decide) ?_
      refine lv_iadd hx hb dX2_takeCall_100 ?_
      refine x_put (D := D) (ci := 2) (v := .int (dm + 1)) (ty := .int) (C := RX2) (T := TX2) (N := 13) hx hb hts hinX2 tyX2 tyX2_ok nmX2 hown hK hP hD hS 0 rfl rfl 9 (by decide) (hts (.fieldLink RX2 83 "LedgerShares$Run" "dismissed" "I") (List.mem_of_getElem? (i := 15) rfl)) rfl (by decide +kernel) (rfl) (rfl) (Nat.le_of_ble_eq_true rfl) (ws' := [(u, .inr (2, [.ref hB, .ref h, .ref g, .int (nI cl), .int tk, .int (nI rm), .int (nI kp), .int (bg + 1), .int an, .int (dm + 1), .int uw, .int mu, .int id_])), (h, .inr (3, [.ref hB, .ref q1, .ref q2, .ref q3, .ref q4, .ref q5, .ref q6, .ref q7, .ref q8, .ref q9, .ref q10, .ref q11, .ref q12, .ref q13])), (q1, .inl (cI, 40, .inl st)), (q2, .inl (cI, 40, .inl sl)), (q3, .inl (cJ, 40, .inr (.inl ra))), (q4, .inl (cJ, 40, .inr (.inl rb))), (q5, .inl (cZ, 40, .inl ca)), (q6, .inl (cZ, 40, .inl cb)), (q7, .inl (cJ, 40, .inr (.inl ga))), (q8, .inl (cJ, 40, .inr (.inl gb))), (q9, .inl (cI, 40, .inl oc)), (q10, .inl (cI, 40, .inl (upd tb j (tb j + 1)))), (q11, .inl (cI, 40, .inl (if tb j = 0 then upd fb j tk else fb))), (q12, .inl (cI, 40, .inl ka)), (q13, .inl (cI, 40, .inl eb)), (g, .inr (1, [.int sd, .int (nI (dsm lf (nI w) 17 0 0 pr).2), .ref g1, .ref g2, .ref g3])), (g1, .inl (cI, 16, .inl ((dsm lf (nI w) 17 0 0 pr).1))), (g2, .inl (cI, 16, .inl ho)), (g3, .inl (cI, 16, .inl (upd be w (be w + 1)))), (hB, .inr (0, [.int bz, .ref b1, .ref b2, .ref b3, .ref b4, .ref b5, .ref b6])), (b1, .inl (cI, 40, .inl ok)), (b2, .inl (cI, 40, .inl ak)), (b3, .inl (cI, 40, .inl bk)), (b4, .inl (cI, 40, .inl ck)), (b5, .inl (cI, 40, .inl sk)), (b6, .inl (cI, 16, .inl gn))]) rfl dX2_takeCall_101 (fun H locs hP hD hS => ?_)
      have q : takeCallF cl rm ak bk sk gn w (kp, tk, bg, an, dm, uw, mu, id_, st, sl, ra, rb, ca, cb, ga, gb, oc, tb, fb, ka, eb, sd, lf, pr, ho, be) = (kp, tk, bg + 1, an, dm + 1, uw, mu, id_, st, sl, ra, rb, ca, cb, ga, gb, oc, (upd tb j (tb j + 1)), (if tb j = 0 then upd fb j tk else fb), ka, eb, sd, (dsm lf (nI w) 17 0 0 pr).2, ((dsm lf (nI w) 17 0 0 pr).1), ho, (upd be w (be w + 1))) := by simp [takeCallF, hls, c83]
      rw [q] at hc
      cases hc
      exact W.vret hx hb hr (fun t ht hW => ⟨⟨(), rfl, trivial, by rw [ht]; exact hP, by exact hD⟩, hS.F ht⟩) hS.2.2 dX2_takeCall_104
end
section
def WFc (cl : Nat) : CS → Prop
  | (kp, tk, bg, an, dm, uw, mu, id_, st, sl, ra, rb, ca, cb, ga, gb, oc, tb, fb, ka, eb, sd, lf, pr, ho, be) => kp ≤ cl ∧ lf ≤ 16 ∧ (∀ i, i < lf → ∃ w, w < 16 ∧ pr i = nI w) ∧ (∀ w, w < 16 → ho w = -1 ∨ ∃ k, k < 40 ∧ ho w = nI k)
theorem dsm_ok {lf : Nat} {w : Int32} {P : Int32 → Prop} : ∀ (n k t : Nat) (f : Nat → Int32), t ≤ k → k ≤ lf → (∀ i, i < lf → P (f i)) → (dsm lf w n k t f).2 ≤ lf ∧ ∀ i, i < lf → P ((dsm lf w n k t f).1 i)
  | 0, k, t, f, h1, h2, h3 => ⟨by show t ≤ lf; omega, h3⟩
  | n + 1, k, t, f, h1, h2, h3 => by
    unfold dsm
    by_cases h : k < lf
    · by_cases h4 : f k = w
      · rw [if_pos h, if_pos h4]
        exact dsm_ok n (k + 1) t f (by omega) (by omega) h3
      · rw [if_pos h, if_neg h4]
        refine dsm_ok n (k + 1) (t + 1) _ (by omega) (by omega) (fun i hi => ?_)
        unfold upd
        by_cases h5 : i = t
        · rw [if_pos h5]; exact h3 k h
        · rw [if_neg h5]; exact h3 i hi
    · rw [if_neg h]
      exact ⟨by show t ≤ lf; omega, h3⟩
theorem ho_upd {ho : Nat → Int32} {w : Nat} {x : Int32} (h : ∀ w, w < 16 → ho w = -1 ∨ ∃ k, k < 40 ∧ ho w = nI k) (hx : x = -1 ∨ ∃ k, k < 40 ∧ x = nI k) : ∀ v, v < 16 → upd ho w x v = -1 ∨ ∃ k, k < 40 ∧ upd ho w x v = nI k := by
  intro v hv
  unfold upd
  by_cases h5 : v = w
  · rw [if_pos h5]; exact hx
  · rw [if_neg h5]; exact h v hv
theorem WF_takeCall {cl rm w : Nat} {ak bk sk gn : Nat → Int32} (hcl : cl ≤ 40) : ∀ {c : CS}, WFc cl c → WFc cl (takeCallF cl rm ak bk sk gn w c) := by
  rintro ⟨kp, tk, bg, an, dm, uw, mu, id_, st, sl, ra, rb, ca, cb, ga, gb, oc, tb, fb, ka, eb, sd, lf, pr, ho, be⟩ ⟨h1, h2, h3, h4⟩
  unfold takeCallF
  dsimp only
  rcases hls : lsN st (min cl (kp + rm)) 41 kp with _ | j
  · exact ⟨h1, h2, h3, h4⟩
  · have hj := lsN_in hls
    dsimp only
    by_cases h : be w + 1 = gn w
    · rw [if_pos h]
      have hd := dsm_ok (lf := lf) (w := nI w) (P := fun x => ∃ w, w < 16 ∧ x = nI w) 17 0 0 pr (Nat.le_refl _) (Nat.zero_le _) h3
      exact ⟨h1, Nat.le_trans hd.1 h2, fun i hi => hd.2 i (Nat.lt_of_lt_of_le hi hd.1), h4⟩
    · rw [if_neg h]
      exact ⟨h1, h2, h3, ho_upd h4 (Or.inr ⟨j, by omega, rfl⟩)⟩
theorem WF_step {cl k w : Nat} {ak bk ok ck : Nat → Int32} : ∀ {c : CS}, WFc cl c → WFc cl (stepF ak bk ok ck k w c) := by
  rintro ⟨kp, tk, bg, an, dm, uw, mu, id_, st, sl, ra, rb, ca, cb, ga, gb, oc, tb, fb, ka, eb, sd, lf, pr, ho, be⟩ ⟨h1, h2, h3, h4⟩
  unfold stepF
  dsimp only
  by_cases h : 0 < sl k - 1
  · rw [if_pos h]; exact ⟨h1, h2, h3, h4⟩
  · rw [if_neg h]; exact ⟨h1, h2, h3, ho_upd h4 (Or.inl rfl)⟩
theorem WF_takeTurn {cl rm w : Nat} {ak bk sk gn ok ck : Nat → Int32} (hcl : cl ≤ 40) : ∀ {c : CS}, WFc cl c → WFc cl (takeTurnF cl rm ak bk sk gn ok ck w c) := by
  rintro ⟨kp, tk, bg, an, dm, uw, mu, id_, st, sl, ra, rb, ca, cb, ga, gb, oc, tb, fb, ka, eb, sd, lf, pr, ho, be⟩ hc
  unfold takeTurnF
  dsimp only
  by_cases h : ho w = -1
  · rw [if_pos h]; exact WF_takeCall hcl hc
  · rw [if_neg h]; exact WF_step hc
theorem WF_keep {cl : Nat} {ak bk : Nat → Int32} : ∀ (n : Nat) {c : CS}, WFc cl c → WFc cl (keepF cl ak bk n c) := by
  intro n
  induction n with
  | zero => intro c hc; exact hc
  | succ n ih =>
    rintro ⟨kp, tk, bg, an, dm, uw, mu, id_, st, sl, ra, rb, ca, cb, ga, gb, oc, tb, fb, ka, eb, sd, lf, pr, ho, be⟩ ⟨h1, h2, h3, h4⟩
    unfold keepF
    by_cases h : kp < cl ∧ st kp = 2
    · rw [if_pos h]
      by_cases h5 : ra kp = stnd st ca ak cb bk ga gb (ak kp) kp ∧ rb kp = stnd st ca ak cb bk ga gb (bk kp) kp
      · rw [if_pos h5]; exact ih ⟨h.1, h2, h3, h4⟩
      · rw [if_neg h5]; exact ⟨h1, h2, h3, h4⟩
    · rw [if_neg h]; exact ⟨h1, h2, h3, h4⟩
theorem if01_t {p : Prop} [Decidable p] (h : (if p then (0 : Int32) else 1) = 0) : p := by
  by_cases hp : p
  · exact hp
  · rw [if_neg hp] at h; exact absurd h (by decide)
theorem if01_f {p : Prop} [Decidable p] (h : ¬ (if p then (0 : Int32) else 1) = 0) : ¬ p := by
  intro hp
  rw [if_pos hp] at h
  exact absurd rfl h
def lkK (S S' : Int32 → Int64) (rest : Int32) : Nat → Nat → Int32
  | 0, _ => rest
  | n + 1, k => if k ≤ 7 then (if S (nI k) = S' (nI k) then lkK S S' rest n (k + 1) else 0) else rest
def lkO (oc oc' : Nat → Int32) (cl : Nat) : Nat → Nat → Int32
  | 0, _ => 1
  | n + 1, k => if k < cl then (if oc k = oc' k then lkO oc oc' cl n (k + 1) else 0) else 1
theorem WF_prep {cl wk : Nat} {seed : Int32} (hwk : wk ≤ 16) : ∀ {c : CS}, (match c with | (kp, tk, bg, an, dm, uw, mu, id_, st, sl, ra, rb, ca, cb, ga, gb, oc, tb, fb, ka, eb, sd, lf, pr, ho, be) => ∀ w, w < 16 → ho w = -1 ∨ ∃ k, k < 40 ∧ ho w = nI k) → WFc cl (prepF wk seed c) := by
  rintro ⟨kp, tk, bg, an, dm, uw, mu, id_, st, sl, ra, rb, ca, cb, ga, gb, oc, tb, fb, ka, eb, sd, lf, pr, ho, be⟩ h4
  refine ⟨Nat.zero_le _, hwk, fun i hi => ⟨i, by omega, by unfold mapTo; rw [if_pos hi]⟩, fun w hw => ?_⟩
  unfold fillTo
  by_cases h : w < wk
  · rw [if_pos h]; exact Or.inl rfl
  · rw [if_neg h]; exact h4 w hw
theorem sw6 (x : Int32) : x = 0 ∨ x = 1 ∨ x = 2 ∨ x = 3 ∨ x = 4 ∨ x = 5 ∨ x = 6 ∨ (¬ x = 0 ∧ ¬ x = 1 ∧ ¬ x = 2 ∧ ¬ x = 3 ∧ ¬ x = 4 ∧ ¬ x = 5 ∧ ¬ x = 6 ∧ (x.toInt < 0 ∨ 6 < x.toInt)) := by
  by_cases h0 : x = 0
  · exact Or.inl h0
  by_cases h1 : x = 1
  · exact Or.inr (Or.inl h1)
  by_cases h2 : x = 2
  · exact Or.inr (Or.inr (Or.inl h2))
  by_cases h3 : x = 3
  · exact Or.inr (Or.inr (Or.inr (Or.inl h3)))
  by_cases h4 : x = 4
  · exact Or.inr (Or.inr (Or.inr (Or.inr (Or.inl h4))))
  by_cases h5 : x = 5
  · exact Or.inr (Or.inr (Or.inr (Or.inr (Or.inr (Or.inl h5)))))
  by_cases h6 : x = 6
  · exact Or.inr (Or.inr (Or.inr (Or.inr (Or.inr (Or.inr (Or.inl h6))))))
  refine Or.inr (Or.inr (Or.inr (Or.inr (Or.inr (Or.inr (Or.inr ⟨h0, h1, h2, h3, h4, h5, h6, ?_⟩))))))
  have g0 : x.toInt ≠ 0 := fun h => h0 (Int32.toInt_inj.mp h)
  have g1 : x.toInt ≠ 1 := fun h => h1 (Int32.toInt_inj.mp h)
  have g2 : x.toInt ≠ 2 := fun h => h2 (Int32.toInt_inj.mp h)
  have g3 : x.toInt ≠ 3 := fun h => h3 (Int32.toInt_inj.mp h)
  have g4 : x.toInt ≠ 4 := fun h => h4 (Int32.toInt_inj.mp h)
  have g5 : x.toInt ≠ 5 := fun h => h5 (Int32.toInt_inj.mp h)
  have g6 : x.toInt ≠ 6 := fun h => h6 (Int32.toInt_inj.mp h)
  omega
end
section
set_option maxHeartbeats 4000000 in
set_option maxRecDepth 100000 in
theorem k_takeTurn (l : Launch) (D : va_G) (cI cJ cZ : ClassId) (sz : Nat) (u h hB q1 q2 q3 q4 q5 q6 q7 q8 q9 q10 q11 q12 q13 g g1 g2 g3 b1 b2 b3 b4 b5 b6 : Nat) (bz : Int32) (ak bk sk gn ok ck : Nat → Int32) (cl rm w : Nat) (kp : Nat) (tk : Int32) (bg : Int32) (an : Int32) (dm : Int32) (uw : Int32) (mu : Int32) (id_ : Int32) (st : Nat → Int32) (sl : Nat → Int32) (ra : Nat → Int64) (rb : Nat → Int64) (ca : Nat → Int32) (cb : Nat → Int32) (ga : Nat → Int64) (gb : Nat → Int64) (oc : Nat → Int32) (tb : Nat → Int32) (fb : Nat → Int32) (ka : Nat → Int32) (eb : Nat → Int32) (sd : Int32) (lf : Nat) (pr : Nat → Int32) (ho : Nat → Int32) (be : Nat → Int32) (kp1 : Nat) (tk1 : Int32) (bg1 : Int32) (an1 : Int32) (dm1 : Int32) (uw1 : Int32) (mu1 : Int32) (id_1 : Int32) (st1 : Nat → Int32) (sl1 : Nat → Int32) (ra1 : Nat → Int64) (rb1 : Nat → Int64) (ca1 : Nat → Int32) (cb1 : Nat → Int32) (ga1 : Nat → Int64) (gb1 : Nat → Int64) (oc1 : Nat → Int32) (tb1 : Nat → Int32) (fb1 : Nat → Int32) (ka1 : Nat → Int32) (eb1 : Nat → Int32) (sd1 : Int32) (lf1 : Nat) (pr1 : Nat → Int32) (ho1 : Nat → Int32) (be1 : Nat → Int32) (hkp : kp ≤ cl) (hcl : cl ≤ 40) (hrm : rm ≤ 40) (hl16 : lf ≤ 16) (hw : w < 16) (hh : ho w = -1 ∨ ∃ k, k < 40 ∧ ho w = nI k) (hc : takeTurnF cl rm ak bk sk gn ok ck w (kp, tk, bg, an, dm, uw, mu, id_, st, sl, ra, rb, ca, cb, ga, gb, oc, tb, fb, ka, eb, sd, lf, pr, ho, be) = (kp1, tk1, bg1, an1, dm1, uw1, mu1, id_1, st1, sl1, ra1, rb1, ca1, cb1, ga1, gb1, oc1, tb1, fb1, ka1, eb1, sd1, lf1, pr1, ho1, be1)) : Met l yX2_takeTurn wsX2_takeTurn ({ frames := 4, cells := 0, slots := 0, locals := 99 }) (PcRW [.ref u, .int (nI w)] sz D cI cJ cZ [(u, .inr (2, [.ref hB, .ref h, .ref g, .int (nI cl), .int tk, .int (nI rm), .int (nI kp), .int bg, .int an, .int dm, .int uw, .int mu, .int id_])), (h, .inr (3, [.ref hB, .ref q1, .ref q2, .ref q3, .ref q4, .ref q5, .ref q6, .ref q7, .ref q8, .ref q9, .ref q10, .ref q11, .ref q12, .ref q13])), (q1, .inl (cI, 40, .inl st)), (q2, .inl (cI, 40, .inl sl)), (q3, .inl (cJ, 40, .inr (.inl ra))), (q4, .inl (cJ, 40, .inr (.inl rb))), (q5, .inl (cZ, 40, .inl ca)), (q6, .inl (cZ, 40, .inl cb)), (q7, .inl (cJ, 40, .inr (.inl ga))), (q8, .inl (cJ, 40, .inr (.inl gb))), (q9, .inl (cI, 40, .inl oc)), (q10, .inl (cI, 40, .inl tb)), (q11, .inl (cI, 40, .inl fb)), (q12, .inl (cI, 40, .inl ka)), (q13, .inl (cI, 40, .inl eb)), (g, .inr (1, [.int sd, .int (nI lf), .ref g1, .ref g2, .ref g3])), (g1, .inl (cI, 16, .inl pr)), (g2, .inl (cI, 16, .inl ho)), (g3, .inl (cI, 16, .inl be)), (hB, .inr (0, [.int bz, .ref b1, .ref b2, .ref b3, .ref b4, .ref b5, .ref b6])), (b1, .inl (cI, 40, .inl ok)), (b2, .inl (cI, 40, .inl ak)), (b3, .inl (cI, 40, .inl bk)), (b4, .inl (cI, 40, .inl ck)), (b5, .inl (cI, 40, .inl sk)), (b6, .inl (cI, 16, .inl gn))]) (QcV D (va_A [(u, .inr (2, [.ref hB, .ref h, .ref g, .int (nI cl), .int tk, .int (nI rm), .int (nI kp), .int bg, .int an, .int dm, .int uw, .int mu, .int id_])), (h, .inr (3, [.ref hB, .ref q1, .ref q2, .ref q3, .ref q4, .ref q5, .ref q6, .ref q7, .ref q8, .ref q9, .ref q10, .ref q11, .ref q12, .ref q13])), (q1, .inl (cI, 40, .inl st)), (q2, .inl (cI, 40, .inl sl)), (q3, .inl (cJ, 40, .inr (.inl ra))), (q4, .inl (cJ, 40, .inr (.inl rb))), (q5, .inl (cZ, 40, .inl ca)), (q6, .inl (cZ, 40, .inl cb)), (q7, .inl (cJ, 40, .inr (.inl ga))), (q8, .inl (cJ, 40, .inr (.inl gb))), (q9, .inl (cI, 40, .inl oc)), (q10, .inl (cI, 40, .inl tb)), (q11, .inl (cI, 40, .inl fb)), (q12, .inl (cI, 40, .inl ka)), (q13, .inl (cI, 40, .inl eb)), (g, .inr (1, [.int sd, .int (nI lf), .ref g1, .ref g2, .ref g3])), (g1, .inl (cI, 16, .inl pr)), (g2, .inl (cI, 16, .inl ho)), (g3, .inl (cI, 16, .inl be)), (hB, .inr (0, [.int bz, .ref b1, .ref b2, .ref b3, .ref b4, .ref b5, .ref b6])), (b1, .inl (cI, 40, .inl ok)), (b2, .inl (cI, 40, .inl ak)), (b3, .inl (cI, 40, .inl bk)), (b4, .inl (cI, 40, .inl ck)), (b5, .inl (cI, 40, .inl sk)), (b6, .inl (cI, 16, .inl gn))] sz) [(u, .inr (2, [.ref hB, .ref h, .ref g, .int (nI cl), .int tk1, .int (nI rm), .int (nI kp1), .int bg1, .int an1, .int dm1, .int uw1, .int mu1, .int id_1])), (h, .inr (3, [.ref hB, .ref q1, .ref q2, .ref q3, .ref q4, .ref q5, .ref q6, .ref q7, .ref q8, .ref q9, .ref q10, .ref q11, .ref q12, .ref q13])), (q1, .inl (cI, 40, .inl st1)), (q2, .inl (cI, 40, .inl sl1)), (q3, .inl (cJ, 40, .inr (.inl ra1))), (q4, .inl (cJ, 40, .inr (.inl rb1))), (q5, .inl (cZ, 40, .inl ca1)), (q6, .inl (cZ, 40, .inl cb1)), (q7, .inl (cJ, 40, .inr (.inl ga1))), (q8, .inl (cJ, 40, .inr (.inl gb1))), (q9, .inl (cI, 40, .inl oc1)), (q10, .inl (cI, 40, .inl tb1)), (q11, .inl (cI, 40, .inl fb1)), (q12, .inl (cI, 40, .inl ka1)), (q13, .inl (cI, 40, .inl eb1)), (g, .inr (1, [.int sd1, .int (nI lf1), .ref g1, .ref g2, .ref g3])), (g1, .inl (cI, 16, .inl pr1)), (g2, .inl (cI, 16, .inl ho1)), (g3, .inl (cI, 16, .inl be1)), (hB, .inr (0, [.int bz, .ref b1, .ref b2, .ref b3, .ref b4, .ref b5, .ref b6])), (b1, .inl (cI, 40, .inl ok)), (b2, .inl (cI, 40, .inl ak)), (b3, .inl (cI, 40, .inl bk)), (b4, .inl (cI, 40, .inl ck)), (b5, .inl (cI, 40, .inl sk)), (b6, .inl (cI, 16, .inl gn))]) 0 0 (va_A [(u, .inr (2, [.ref hB, .ref h, .ref g, .int (nI cl), .int tk, .int (nI rm), .int (nI kp), .int bg, .int an, .int dm, .int uw, .int mu, .int id_])), (h, .inr (3, [.ref hB, .ref q1, .ref q2, .ref q3, .ref q4, .ref q5, .ref q6, .ref q7, .ref q8, .ref q9, .ref q10, .ref q11, .ref q12, .ref q13])), (q1, .inl (cI, 40, .inl st)), (q2, .inl (cI, 40, .inl sl)), (q3, .inl (cJ, 40, .inr (.inl ra))), (q4, .inl (cJ, 40, .inr (.inl rb))), (q5, .inl (cZ, 40, .inl ca)), (q6, .inl (cZ, 40, .inl cb)), (q7, .inl (cJ, 40, .inr (.inl ga))), (q8, .inl (cJ, 40, .inr (.inl gb))), (q9, .inl (cI, 40, .inl oc)), (q10, .inl (cI, 40, .inl tb)), (q11, .inl (cI, 40, .inl fb)), (q12, .inl (cI, 40, .inl ka)), (q13, .inl (cI, 40, .inl eb)), (g, .inr (1, [.int sd, .int (nI lf), .ref g1, .ref g2, .ref g3])), (g1, .inl (cI, 16, .inl pr)), (g2, .inl (cI, 16, .inl ho)), (g3, .inl (cI, 16, .inl be)), (hB, .inr (0, [.int bz, .ref b1, .ref b2, .ref b3, .ref b4, .ref b5, .ref b6])), (b1, .inl (cI, 40, .inl ok)), (b2, .inl (cI, 40, .inl ak)), (b3, .inl (cI, 40, .inl bk)), (b4, .inl (cI, 40, .inl ck)), (b5, .inl (cI, 40, .inl sk)), (b6, .inl (cI, 16, .inl gn))] sz) := by
  refine Met.ofW (cc := cX2_takeTurn) (maxL := 3) (ret := none) (by decide) rfl ?_
  intro p e s m args below meth c s₁ B hml hv
  obtain ⟨rfl, hsz, hP, hE, hD0⟩ := hv
  have hx := B.exec
  have hb := B.bytes
  have hr := B.returns
  have hts := atoms_spec (ws := wsX2_takeTurn) B.pre
  have hown : s.vm.findClass RX2 = some m.cls := findClass_of_methodNamed B.named
  have hlocks := B.notSynchronized
  have hK := hE.1
  subst hsz
  have hD := hD0.self (sz := s.heap.size)
  generalize hAe : va_A [(u, .inr (2, [.ref hB, .ref h, .ref g, .int (nI cl), .int tk, .int (nI rm), .int (nI kp), .int bg, .int an, .int dm, .int uw, .int mu, .int id_])), (h, .inr (3, [.ref hB, .ref q1, .ref q2, .ref q3, .ref q4, .ref q5, .ref q6, .ref q7, .ref q8, .ref q9, .ref q10, .ref q11, .ref q12, .ref q13])), (q1, .inl (cI, 40, .inl st)), (q2, .inl (cI, 40, .inl sl)), (q3, .inl (cJ, 40, .inr (.inl ra))), (q4, .inl (cJ, 40, .inr (.inl rb))), (q5, .inl (cZ, 40, .inl ca)), (q6, .inl (cZ, 40, .inl cb)), (q7, .inl (cJ, 40, .inr (.inl ga))), (q8, .inl (cJ, 40, .inr (.inl gb))), (q9, .inl (cI, 40, .inl oc)), (q10, .inl (cI, 40, .inl tb)), (q11, .inl (cI, 40, .inl fb)), (q12, .inl (cI, 40, .inl ka)), (q13, .inl (cI, 40, .inl eb)), (g, .inr (1, [.int sd, .int (nI lf), .ref g1, .ref g2, .ref g3])), (g1, .inl (cI, 16, .inl pr)), (g2, .inl (cI, 16, .inl ho)), (g3, .inl (cI, 16, .inl be)), (hB, .inr (0, [.int bz, .ref b1, .ref b2, .ref b3, .ref b4, .ref b5, .ref b6])), (b1, .inl (cI, 40, .inl ok)), (b2, .inl (cI, 40, .inl ak)), (b3, .inl (cI, 40, .inl bk)), (b4, .inl (cI, 40, .inl ck)), (b5, .inl (cI, 40, .inl sk)), (b6, .inl (cI, 16, .inl gn))] s.heap.size = A at hD ⊢
  have hA : ∀ q : Nat, s.heap.size ≤ q → A q := fun q h => by rw [← hAe]; exact Or.inr h
  have hS : va_S A s.heap s.heap [] := va_S.rf
  have hl := lv_entry ([.ref u, .int (nI w)]) (n := 3) (Nat.le_of_ble_eq_true rfl)
  rw [lg_entry_eq]
  generalize (lg_sl ([.ref u, .int (nI w)]) ++ List.replicate (3 - (lg_sl ([.ref u, .int (nI w)])).length) Slot.unset).toArray = ls at hl ⊢
  have hl : lv_has ls 3 [(0, .ref u), (1, .int (nI w))] := hl
  have hinX1 : ∀ w ∈ u_ws RX1 TX1 5, w ∈ wsX2_takeTurn := fun _ h => List.mem_cons_of_mem _ (List.mem_append_left _ (List.mem_append_left _ (List.mem_append_right _ h)))
  have hinX2 : ∀ w ∈ u_ws RX2 TX2 13, w ∈ wsX2_takeTurn := fun _ h => List.mem_cons_of_mem _ (List.mem_append_left _ (List.mem_append_left _ (List.mem_append_left _ (List.mem_append_right _ h))))
  refine lv_iload_n hx hb dX2_takeTurn_0 rfl (lv_at hl 1 rfl) ?_
  refine lv_iconst (v := 0) hx hb dX2_takeTurn_1 (by decide) ?_
  refine lv_bipush (v := 15) hx hb dX2_takeTurn_2 (by decide) ?_
  refine vp_callSi (va_Run.run (va_runSN (As := [.int (nI w), .int 0, .int 15]) (rest := []) ⟨hx, hb, hml, hown, hts⟩ (k_within l D cI cJ cZ (nI w) 0 15) ⟨va_cnB 3 hts gX2_takeTurn_X4_within_n92 rfl rfl rfl hE.2.2.2.2.1 (hts (.initialized RX4) (List.mem_of_getElem? (i := 6) rfl)) (by decide +kernel) ⟨Nat.le_of_ble_eq_true rfl, Nat.le_of_ble_eq_true rfl⟩, (hts (.static yX4_within) (List.mem_of_getElem? (i := 5) rfl)), trivial⟩ ⟨bl_ro, fun U hU hW => ⟨rfl, by rw [hU]; exact (hP.sub (ws' := []) [] rfl), hE.warm2 hW⟩⟩ rfl rfl hl.1 rfl (lv_room (Nat.le_of_ble_eq_true rfl)) dX2_takeTurn_4 ⟨Nat.zero_le _, Nat.zero_le _⟩)) (fun r4 hr4 => ?_)
  refine lv_if_ne (tgt := 11) hx hb dX2_takeTurn_7 (by decide) (fun c7 => ?_) (fun c7 => (wi_f (hr4.symm.trans c7) (nI_pos' (by omega)) (nI_le (a := w) (b := 15) (by omega) (by decide))).elim)
  refine lv_aload_n hx hb dX2_takeTurn_11 rfl (lv_at hl 0 rfl) ?_
  refine va_get (D := D) (ci := 2) (v := .ref g) (C := RX2) (T := TX2) (N := 13) hx hb hts hinX2 hown hK hP 0 rfl rfl 2 (by decide) (hts (.fieldLink RX2 12 "LedgerShares$Run" "crew" "LLedgerShares$Crew;") (List.mem_of_getElem? (i := 1) rfl)) (fun _ h9 => h9) rfl dX2_takeTurn_12 ?_
  refine va_get (D := D) (ci := 1) (v := .ref g2) (C := RX1) (T := TX1) (N := 5) hx hb hts hinX1 hown hK hP 15 rfl rfl 3 (by decide) (hts (.fieldLink RX2 96 "LedgerShares$Crew" "holds" "[I") (List.mem_of_getElem? (i := 2) rfl)) (fun _ h9 => h9) rfl dX2_takeTurn_15 ?_
  refine lv_iload_n hx hb dX2_takeTurn_18 rfl (lv_at hl 1 rfl) ?_
  refine x_iald hx hb hE hP 17 rfl (w) hw (by decide) (rfl) dX2_takeTurn_19 ?_
  rcases hh with e20 | ⟨k, hk, e20⟩
  · refine x_topi (y := -1) e20 ?_
    refine lv_istore_n (lv' := [(2, .int (-1)), (0, .ref u), (1, .int (nI w))]) hx hb dX2_takeTurn_20 rfl hl (by decide) rfl (fun ls hl => ?_)
    refine lv_iload_n hx hb dX2_takeTurn_21 rfl (lv_at hl 0 rfl) ?_
    refine lv_iconst (v := (-1)) hx hb dX2_takeTurn_22 (by decide) ?_
    refine lv_icmp_ne (tgt := 34) hx hb dX2_takeTurn_23 (by decide) (fun c23 => absurd (by decide) c23) (fun c23 => ?_)
    refine lv_aload_n hx hb dX2_takeTurn_26 rfl (lv_at hl 1 rfl) ?_
    refine lv_iload_n hx hb dX2_takeTurn_27 rfl (lv_at hl 2 rfl) ?_
    refine x_callv (wc := [(u, .inr (2, [.ref hB, .ref h, .ref g, .int (nI cl), .int tk, .int (nI rm), .int (nI kp), .int bg, .int an, .int dm, .int uw, .int mu, .int id_])), (h, .inr (3, [.ref hB, .ref q1, .ref q2, .ref q3, .ref q4, .ref q5, .ref q6, .ref q7, .ref q8, .ref q9, .ref q10, .ref q11, .ref q12, .ref q13])), (q1, .inl (cI, 40, .inl st)), (q2, .inl (cI, 40, .inl sl)), (q3, .inl (cJ, 40, .inr (.inl ra))), (q4, .inl (cJ, 40, .inr (.inl rb))), (q5, .inl (cZ, 40, .inl ca)), (q6, .inl (cZ, 40, .inl cb)), (q7, .inl (cJ, 40, .inr (.inl ga))), (q8, .inl (cJ, 40, .inr (.inl gb))), (q9, .inl (cI, 40, .inl oc)), (q10, .inl (cI, 40, .inl tb)), (q11, .inl (cI, 40, .inl fb)), (q12, .inl (cI, 40, .inl ka)), (q13, .inl (cI, 40, .inl eb)), (g, .inr (1, [.int sd, .int (nI lf), .ref g1, .ref g2, .ref g3])), (g1, .inl (cI, 16, .inl pr)), (g2, .inl (cI, 16, .inl ho)), (g3, .inl (cI, 16, .inl be)), (hB, .inr (0, [.int bz, .ref b1, .ref b2, .ref b3, .ref b4, .ref b5, .ref b6])), (b1, .inl (cI, 40, .inl ok)), (b2, .inl (cI, 40, .inl ak)), (b3, .inl (cI, 40, .inl bk)), (b4, .inl (cI, 40, .inl ck)), (b5, .inl (cI, 40, .inl sk)), (b6, .inl (cI, 16, .inl gn))]) (wc' := [(u, .inr (2, [.ref hB, .ref h, .ref g, .int (nI cl), .int tk1, .int (nI rm), .int (nI kp1), .int bg1, .int an1, .int dm1, .int uw1, .int mu1, .int id_1])), (h, .inr (3, [.ref hB, .ref q1, .ref q2, .ref q3, .ref q4, .ref q5, .ref q6, .ref q7, .ref q8, .ref q9, .ref q10, .ref q11, .ref q12, .ref q13])), (q1, .inl (cI, 40, .inl st1)), (q2, .inl (cI, 40, .inl sl1)), (q3, .inl (cJ, 40, .inr (.inl ra1))), (q4, .inl (cJ, 40, .inr (.inl rb1))), (q5, .inl (cZ, 40, .inl ca1)), (q6, .inl (cZ, 40, .inl cb1)), (q7, .inl (cJ, 40, .inr (.inl ga1))), (q8, .inl (cJ, 40, .inr (.inl gb1))), (q9, .inl (cI, 40, .inl oc1)), (q10, .inl (cI, 40, .inl tb1)), (q11, .inl (cI, 40, .inl fb1)), (q12, .inl (cI, 40, .inl ka1)), (q13, .inl (cI, 40, .inl eb1)), (g, .inr (1, [.int sd1, .int (nI lf1), .ref g1, .ref g2, .ref g3])), (g1, .inl (cI, 16, .inl pr1)), (g2, .inl (cI, 16, .inl ho1)), (g3, .inl (cI, 16, .inl be1)), (hB, .inr (0, [.int bz, .ref b1, .ref b2, .ref b3, .ref b4, .ref b5, .ref b6])), (b1, .inl (cI, 40, .inl ok)), (b2, .inl (cI, 40, .inl ak)), (b3, .inl (cI, 40, .inl bk)), (b4, .inl (cI, 40, .inl ck)), (b5, .inl (cI, 40, .inl sk)), (b6, .inl (cI, 16, .inl gn))]) (wr := []) (ws' := [(u, .inr (2, [.ref hB, .ref h, .ref g, .int (nI cl), .int tk1, .int (nI rm), .int (nI kp1), .int bg1, .int an1, .int dm1, .int uw1, .int mu1, .int id_1])), (h, .inr (3, [.ref hB, .ref q1, .ref q2, .ref q3, .ref q4, .ref q5, .ref q6, .ref q7, .ref q8, .ref q9, .ref q10, .ref q11, .ref q12, .ref q13])), (q1, .inl (cI, 40, .inl st1)), (q2, .inl (cI, 40, .inl sl1)), (q3, .inl (cJ, 40, .inr (.inl ra1))), (q4, .inl (cJ, 40, .inr (.inl rb1))), (q5, .inl (cZ, 40, .inl ca1)), (q6, .inl (cZ, 40, .inl cb1)), (q7, .inl (cJ, 40, .inr (.inl ga1))), (q8, .inl (cJ, 40, .inr (.inl gb1))), (q9, .inl (cI, 40, .inl oc1)), (q10, .inl (cI, 40, .inl tb1)), (q11, .inl (cI, 40, .inl fb1)), (q12, .inl (cI, 40, .inl ka1)), (q13, .inl (cI, 40, .inl eb1)), (g, .inr (1, [.int sd1, .int (nI lf1), .ref g1, .ref g2, .ref g3])), (g1, .inl (cI, 16, .inl pr1)), (g2, .inl (cI, 16, .inl ho1)), (g3, .inl (cI, 16, .inl be1)), (hB, .inr (0, [.int bz, .ref b1, .ref b2, .ref b3, .ref b4, .ref b5, .ref b6])), (b1, .inl (cI, 40, .inl ok)), (b2, .inl (cI, 40, .inl ak)), (b3, .inl (cI, 40, .inl bk)), (b4, .inl (cI, 40, .inl ck)), (b5, .inl (cI, 40, .inl sk)), (b6, .inl (cI, 16, .inl gn))]) hP hD hS hA [0, 1, 2, 3, 4, 5, 6, 7, 8, 9, 10, 11, 12, 13, 14, 15, 16, 17, 18, 19, 20, 21, 22, 23, 24, 25] [] rfl rfl (by decide) (by decide) [0, 1, 2, 3, 4, 5, 6, 7, 8, 9, 10, 11, 12, 13, 14, 15, 16, 17, 18, 19, 20, 21, 22, 23, 24, 25] (by decide) rfl (va_runV (As := [.int (nI w)]) (rest := []) ⟨hx, hb, hml, hown, hts⟩ (k_takeCall l D cI cJ cZ s.heap.size u h hB q1 q2 q3 q4 q5 q6 q7 q8 q9 q10 q11 q12 q13 g g1 g2 g3 b1 b2 b3 b4 b5 b6 bz ak bk sk gn ok ck cl rm w kp tk bg an dm uw mu id_ st sl ra rb ca cb ga gb oc tb fb ka eb sd lf pr ho be kp1 tk1 bg1 an1 dm1 uw1 mu1 id_1 st1 sl1 ra1 rb1 ca1 cb1 ga1 gb1 oc1 tb1 fb1 ka1 eb1 sd1 lf1 pr1 ho1 be1 hkp hcl hrm hl16 hw (by rw [← hc]; simp [takeTurnF, e20])) (cwV 1 hts gX2_takeTurn_X2_takeCall rfl rfl rfl (by decide +kernel) ⟨Nat.le_of_ble_eq_true rfl, Nat.le_of_ble_eq_true rfl⟩) ⟨bl_rw, va_recv hK (hP.sub (ws' := [(u, .inr (2, [.ref hB, .ref h, .ref g, .int (nI cl), .int tk, .int (nI rm), .int (nI kp), .int bg, .int an, .int dm, .int uw, .int mu, .int id_])), (h, .inr (3, [.ref hB, .ref q1, .ref q2, .ref q3, .ref q4, .ref q5, .ref q6, .ref q7, .ref q8, .ref q9, .ref q10, .ref q11, .ref q12, .ref q13])), (q1, .inl (cI, 40, .inl st)), (q2, .inl (cI, 40, .inl sl)), (q3, .inl (cJ, 40, .inr (.inl ra))), (q4, .inl (cJ, 40, .inr (.inl rb))), (q5, .inl (cZ, 40, .inl ca)), (q6, .inl (cZ, 40, .inl cb)), (q7, .inl (cJ, 40, .inr (.inl ga))), (q8, .inl (cJ, 40, .inr (.inl gb))), (q9, .inl (cI, 40, .inl oc)), (q10, .inl (cI, 40, .inl tb)), (q11, .inl (cI, 40, .inl fb)), (q12, .inl (cI, 40, .inl ka)), (q13, .inl (cI, 40, .inl eb)), (g, .inr (1, [.int sd, .int (nI lf), .ref g1, .ref g2, .ref g3])), (g1, .inl (cI, 16, .inl pr)), (g2, .inl (cI, 16, .inl ho)), (g3, .inl (cI, 16, .inl be)), (hB, .inr (0, [.int bz, .ref b1, .ref b2, .ref b3, .ref b4, .ref b5, .ref b6])), (b1, .inl (cI, 40, .inl ok)), (b2, .inl (cI, 40, .inl ak)), (b3, .inl (cI, 40, .inl bk)), (b4, .inl (cI, 40, .inl ck)), (b5, .inl (cI, 40, .inl sk)), (b6, .inl (cI, 16, .inl gn))]) [0, 1, 2, 3, 4, 5, 6, 7, 8, 9, 10, 11, 12, 13, 14, 15, 16, 17, 18, 19, 20, 21, 22, 23, 24, 25] rfl) (ci := 2) (q0 := 0) rfl rfl, fun U hU hW => ⟨rfl, by rw [hU], by rw [hU]; exact (hP.sub (ws' := [(u, .inr (2, [.ref hB, .ref h, .ref g, .int (nI cl), .int tk, .int (nI rm), .int (nI kp), .int bg, .int an, .int dm, .int uw, .int mu, .int id_])), (h, .inr (3, [.ref hB, .ref q1, .ref q2, .ref q3, .ref q4, .ref q5, .ref q6, .ref q7, .ref q8, .ref q9, .ref q10, .ref q11, .ref q12, .ref q13])), (q1, .inl (cI, 40, .inl st)), (q2, .inl (cI, 40, .inl sl)), (q3, .inl (cJ, 40, .inr (.inl ra))), (q4, .inl (cJ, 40, .inr (.inl rb))), (q5, .inl (cZ, 40, .inl ca)), (q6, .inl (cZ, 40, .inl cb)), (q7, .inl (cJ, 40, .inr (.inl ga))), (q8, .inl (cJ, 40, .inr (.inl gb))), (q9, .inl (cI, 40, .inl oc)), (q10, .inl (cI, 40, .inl tb)), (q11, .inl (cI, 40, .inl fb)), (q12, .inl (cI, 40, .inl ka)), (q13, .inl (cI, 40, .inl eb)), (g, .inr (1, [.int sd, .int (nI lf), .ref g1, .ref g2, .ref g3])), (g1, .inl (cI, 16, .inl pr)), (g2, .inl (cI, 16, .inl ho)), (g3, .inl (cI, 16, .inl be)), (hB, .inr (0, [.int bz, .ref b1, .ref b2, .ref b3, .ref b4, .ref b5, .ref b6])), (b1, .inl (cI, 40, .inl ok)), (b2, .inl (cI, 40, .inl ak)), (b3, .inl (cI, 40, .inl bk)), (b4, .inl (cI, 40, .inl ck)), (b5, .inl (cI, 40, .inl sk)), (b6, .inl (cI, 16, .inl gn))]) [0, 1, 2, 3, 4, 5, 6, 7, 8, 9, 10, 11, 12, 13, 14, 15, 16, 17, 18, 19, 20, 21, 22, 23, 24, 25] rfl), hE.warm2 hW, (hD.sub (ws' := [(u, .inr (2, [.ref hB, .ref h, .ref g, .int (nI cl), .int tk, .int (nI rm), .int (nI kp), .int bg, .int an, .int dm, .int uw, .int mu, .int id_])), (h, .inr (3, [.ref hB, .ref q1, .ref q2, .ref q3, .ref q4, .ref q5, .ref q6, .ref q7, .ref q8, .ref q9, .ref q10, .ref q11, .ref q12, .ref q13])), (q1, .inl (cI, 40, .inl st)), (q2, .inl (cI, 40, .inl sl)), (q3, .inl (cJ, 40, .inr (.inl ra))), (q4, .inl (cJ, 40, .inr (.inl rb))), (q5, .inl (cZ, 40, .inl ca)), (q6, .inl (cZ, 40, .inl cb)), (q7, .inl (cJ, 40, .inr (.inl ga))), (q8, .inl (cJ, 40, .inr (.inl gb))), (q9, .inl (cI, 40, .inl oc)), (q10, .inl (cI, 40, .inl tb)), (q11, .inl (cI, 40, .inl fb)), (q12, .inl (cI, 40, .inl ka)), (q13, .inl (cI, 40, .inl eb)), (g, .inr (1, [.int sd, .int (nI lf), .ref g1, .ref g2, .ref g3])), (g1, .inl (cI, 16, .inl pr)), (g2, .inl (cI, 16, .inl ho)), (g3, .inl (cI, 16, .inl be)), (hB, .inr (0, [.int bz, .ref b1, .ref b2, .ref b3, .ref b4, .ref b5, .ref b6])), (b1, .inl (cI, 40, .inl ok)), (b2, .inl (cI, 40, .inl ak)), (b3, .inl (cI, 40, .inl bk)), (b4, .inl (cI, 40, .inl ck)), (b5, .inl (cI, 40, .inl sk)), (b6, .inl (cI, 16, .inl gn))]) [0, 1, 2, 3, 4, 5, 6, 7, 8, 9, 10, 11, 12, 13, 14, 15, 16, 17, 18, 19, 20, 21, 22, 23, 24, 25] (by decide) rfl).weaken (fun _ _ _ _ => trivial)⟩⟩ rfl rfl hl.1 rfl (lv_room (Nat.le_of_ble_eq_true rfl)) dX2_takeTurn_28 ⟨Nat.zero_le _, Nat.zero_le _⟩) (fun H locs hP hD hS => ?_)
    refine lv_goto (tgt := 66) hx hb dX2_takeTurn_31 (by decide) ?_
    exact W.vret hx hb hr (fun t ht hW => ⟨⟨(), rfl, trivial, by rw [ht]; exact hP, by exact hD⟩, hS.F ht⟩) hS.2.2 dX2_takeTurn_66
  · refine x_topi (y := nI k) e20 ?_
    refine lv_istore_n (lv' := [(2, .int (nI k)), (0, .ref u), (1, .int (nI w))]) hx hb dX2_takeTurn_20 rfl hl (by decide) rfl (fun ls hl => ?_)
    refine lv_iload_n hx hb dX2_takeTurn_21 rfl (lv_at hl 0 rfl) ?_
    refine lv_iconst (v := (-1)) hx hb dX2_takeTurn_22 (by decide) ?_
    refine lv_icmp_ne (tgt := 34) hx hb dX2_takeTurn_23 (by decide) (fun c23 => ?_) (fun c23 => absurd c23 (nI_ne_m1 (by omega)))
    refine lv_aload_n hx hb dX2_takeTurn_34 rfl (lv_at hl 1 rfl) ?_
    refine va_get (D := D) (ci := 2) (v := .ref h) (C := RX2) (T := TX2) (N := 13) hx hb hts hinX2 hown hK hP 0 rfl rfl 1 (by decide) (hts (.fieldLink RX2 27 "LedgerShares$Run" "sheet" "LLedgerShares$Sheet;") (List.mem_of_getElem? (i := 3) rfl)) (fun _ h9 => h9) rfl dX2_takeTurn_35 ?_
    refine lv_iload_n hx hb dX2_takeTurn_38 rfl (lv_at hl 0 rfl) ?_
    refine lv_iload_n hx hb dX2_takeTurn_39 rfl (lv_at hl 2 rfl) ?_
    refine x_calli (wc := [(h, .inr (3, [.ref hB, .ref q1, .ref q2, .ref q3, .ref q4, .ref q5, .ref q6, .ref q7, .ref q8, .ref q9, .ref q10, .ref q11, .ref q12, .ref q13])), (q1, .inl (cI, 40, .inl st)), (q2, .inl (cI, 40, .inl sl)), (q3, .inl (cJ, 40, .inr (.inl ra))), (q4, .inl (cJ, 40, .inr (.inl rb))), (q9, .inl (cI, 40, .inl oc)), (q5, .inl (cZ, 40, .inl ca)), (q6, .inl (cZ, 40, .inl cb)), (q7, .inl (cJ, 40, .inr (.inl ga))), (q8, .inl (cJ, 40, .inr (.inl gb))), (q13, .inl (cI, 40, .inl eb)), (hB, .inr (0, [.int bz, .ref b1, .ref b2, .ref b3, .ref b4, .ref b5, .ref b6])), (b1, .inl (cI, 40, .inl ok)), (b2, .inl (cI, 40, .inl ak)), (b3, .inl (cI, 40, .inl bk)), (b4, .inl (cI, 40, .inl ck))]) (wc' := [(h, .inr (3, [.ref hB, .ref q1, .ref q2, .ref q3, .ref q4, .ref q5, .ref q6, .ref q7, .ref q8, .ref q9, .ref q10, .ref q11, .ref q12, .ref q13])), (q1, .inl (cI, 40, .inl (if 0 < sl k - 1 then st else upd st k 2))), (q2, .inl (cI, 40, .inl (upd sl k (sl k - 1)))), (q3, .inl (cJ, 40, .inr (.inl ra))), (q4, .inl (cJ, 40, .inr (.inl rb))), (q9, .inl (cI, 40, .inl (if 0 < sl k - 1 then oc else upd oc k (wOut (ok k) (ra k) (rb k) (Int32.toInt64 (ck k)))))), (q5, .inl (cZ, 40, .inl (if 0 < sl k - 1 then ca else upd ca k (wChA (ok k) (ak k) (bk k) (ra k) (Int32.toInt64 (ck k)))))), (q6, .inl (cZ, 40, .inl (if 0 < sl k - 1 then cb else upd cb k (wChB (ok k) (ak k) (bk k) (ra k) (rb k) (Int32.toInt64 (ck k)))))), (q7, .inl (cJ, 40, .inr (.inl (if 0 < sl k - 1 then ga else if wChA (ok k) (ak k) (bk k) (ra k) (Int32.toInt64 (ck k)) = 1 then vp_updL ga k (wGA (ok k) (ra k) (rb k) (Int32.toInt64 (ck k))) else ga)))), (q8, .inl (cJ, 40, .inr (.inl (if 0 < sl k - 1 then gb else if wChB (ok k) (ak k) (bk k) (ra k) (rb k) (Int32.toInt64 (ck k)) = 1 then vp_updL gb k (wGB (ok k) (ra k) (rb k) (Int32.toInt64 (ck k))) else gb)))), (q13, .inl (cI, 40, .inl (if 0 < sl k - 1 then eb else upd eb k (nI w)))), (hB, .inr (0, [.int bz, .ref b1, .ref b2, .ref b3, .ref b4, .ref b5, .ref b6])), (b1, .inl (cI, 40, .inl ok)), (b2, .inl (cI, 40, .inl ak)), (b3, .inl (cI, 40, .inl bk)), (b4, .inl (cI, 40, .inl ck))]) (wr := [(u, .inr (2, [.ref hB, .ref h, .ref g, .int (nI cl), .int tk, .int (nI rm), .int (nI kp), .int bg, .int an, .int dm, .int uw, .int mu, .int id_])), (q10, .inl (cI, 40, .inl tb)), (q11, .inl (cI, 40, .inl fb)), (q12, .inl (cI, 40, .inl ka)), (g, .inr (1, [.int sd, .int (nI lf), .ref g1, .ref g2, .ref g3])), (g1, .inl (cI, 16, .inl pr)), (g2, .inl (cI, 16, .inl ho)), (g3, .inl (cI, 16, .inl be)), (b5, .inl (cI, 40, .inl sk)), (b6, .inl (cI, 16, .inl gn))]) (ws' := [(u, .inr (2, [.ref hB, .ref h, .ref g, .int (nI cl), .int tk, .int (nI rm), .int (nI kp), .int bg, .int an, .int dm, .int uw, .int mu, .int id_])), (h, .inr (3, [.ref hB, .ref q1, .ref q2, .ref q3, .ref q4, .ref q5, .ref q6, .ref q7, .ref q8, .ref q9, .ref q10, .ref q11, .ref q12, .ref q13])), (q1, .inl (cI, 40, .inl (if 0 < sl k - 1 then st else upd st k 2))), (q2, .inl (cI, 40, .inl (upd sl k (sl k - 1)))), (q3, .inl (cJ, 40, .inr (.inl ra))), (q4, .inl (cJ, 40, .inr (.inl rb))), (q5, .inl (cZ, 40, .inl (if 0 < sl k - 1 then ca else upd ca k (wChA (ok k) (ak k) (bk k) (ra k) (Int32.toInt64 (ck k)))))), (q6, .inl (cZ, 40, .inl (if 0 < sl k - 1 then cb else upd cb k (wChB (ok k) (ak k) (bk k) (ra k) (rb k) (Int32.toInt64 (ck k)))))), (q7, .inl (cJ, 40, .inr (.inl (if 0 < sl k - 1 then ga else if wChA (ok k) (ak k) (bk k) (ra k) (Int32.toInt64 (ck k)) = 1 then vp_updL ga k (wGA (ok k) (ra k) (rb k) (Int32.toInt64 (ck k))) else ga)))), (q8, .inl (cJ, 40, .inr (.inl (if 0 < sl k - 1 then gb else if wChB (ok k) (ak k) (bk k) (ra k) (rb k) (Int32.toInt64 (ck k)) = 1 then vp_updL gb k (wGB (ok k) (ra k) (rb k) (Int32.toInt64 (ck k))) else gb)))), (q9, .inl (cI, 40, .inl (if 0 < sl k - 1 then oc else upd oc k (wOut (ok k) (ra k) (rb k) (Int32.toInt64 (ck k)))))), (q10, .inl (cI, 40, .inl tb)), (q11, .inl (cI, 40, .inl fb)), (q12, .inl (cI, 40, .inl ka)), (q13, .inl (cI, 40, .inl (if 0 < sl k - 1 then eb else upd eb k (nI w)))), (g, .inr (1, [.int sd, .int (nI lf), .ref g1, .ref g2, .ref g3])), (g1, .inl (cI, 16, .inl pr)), (g2, .inl (cI, 16, .inl ho)), (g3, .inl (cI, 16, .inl be)), (hB, .inr (0, [.int bz, .ref b1, .ref b2, .ref b3, .ref b4, .ref b5, .ref b6])), (b1, .inl (cI, 40, .inl ok)), (b2, .inl (cI, 40, .inl ak)), (b3, .inl (cI, 40, .inl bk)), (b4, .inl (cI, 40, .inl ck)), (b5, .inl (cI, 40, .inl sk)), (b6, .inl (cI, 16, .inl gn))]) hP hD hS hA [1, 2, 3, 4, 5, 10, 6, 7, 8, 9, 14, 19, 20, 21, 22, 23] [0, 11, 12, 13, 15, 16, 17, 18, 24, 25] rfl rfl (by decide) (by decide) [0, 10, 11, 12, 13, 14, 16, 17, 18, 19, 15, 1, 2, 3, 20, 4, 5, 6, 7, 21, 22, 23, 24, 25, 8, 9] (by decide) rfl (va_runV (As := [.int (nI k), .int (nI w)]) (rest := []) ⟨hx, hb, hml, hown, hts⟩ (k_doesLastStep l D cI cJ cZ s.heap.size h hB q1 q2 q3 q4 q5 q6 q7 q8 q9 q10 q11 q12 q13 st sl oc ca cb eb ra rb ga gb b1 b2 b3 b4 b5 b6 bz ok ak bk ck k hk (nI w)) (cwV 2 hts gX2_takeTurn_X3_doesLastStep rfl rfl rfl (by decide +kernel) ⟨Nat.le_of_ble_eq_true rfl, Nat.le_of_ble_eq_true rfl⟩) ⟨bl_rw, va_recv hK (hP.sub (ws' := [(h, .inr (3, [.ref hB, .ref q1, .ref q2, .ref q3, .ref q4, .ref q5, .ref q6, .ref q7, .ref q8, .ref q9, .ref q10, .ref q11, .ref q12, .ref q13])), (q1, .inl (cI, 40, .inl st)), (q2, .inl (cI, 40, .inl sl)), (q3, .inl (cJ, 40, .inr (.inl ra))), (q4, .inl (cJ, 40, .inr (.inl rb))), (q9, .inl (cI, 40, .inl oc)), (q5, .inl (cZ, 40, .inl ca)), (q6, .inl (cZ, 40, .inl cb)), (q7, .inl (cJ, 40, .inr (.inl ga))), (q8, .inl (cJ, 40, .inr (.inl gb))), (q13, .inl (cI, 40, .inl eb)), (hB, .inr (0, [.int bz, .ref b1, .ref b2, .ref b3, .ref b4, .ref b5, .ref b6])), (b1, .inl (cI, 40, .inl ok)), (b2, .inl (cI, 40, .inl ak)), (b3, .inl (cI, 40, .inl bk)), (b4, .inl (cI, 40, .inl ck))]) [1, 2, 3, 4, 5, 10, 6, 7, 8, 9, 14, 19, 20, 21, 22, 23] rfl) (ci := 3) (q0 := 0) rfl rfl, fun U hU hW => ⟨rfl, by rw [hU], by rw [hU]; exact (hP.sub (ws' := [(h, .inr (3, [.ref hB, .ref q1, .ref q2, .ref q3, .ref q4, .ref q5, .ref q6, .ref q7, .ref q8, .ref q9, .ref q10, .ref q11, .ref q12, .ref q13])), (q1, .inl (cI, 40, .inl st)), (q2, .inl (cI, 40, .inl sl)), (q3, .inl (cJ, 40, .inr (.inl ra))), (q4, .inl (cJ, 40, .inr (.inl rb))), (q9, .inl (cI, 40, .inl oc)), (q5, .inl (cZ, 40, .inl ca)), (q6, .inl (cZ, 40, .inl cb)), (q7, .inl (cJ, 40, .inr (.inl ga))), (q8, .inl (cJ, 40, .inr (.inl gb))), (q13, .inl (cI, 40, .inl eb)), (hB, .inr (0, [.int bz, .ref b1, .ref b2, .ref b3, .ref b4, .ref b5, .ref b6])), (b1, .inl (cI, 40, .inl ok)), (b2, .inl (cI, 40, .inl ak)), (b3, .inl (cI, 40, .inl bk)), (b4, .inl (cI, 40, .inl ck))]) [1, 2, 3, 4, 5, 10, 6, 7, 8, 9, 14, 19, 20, 21, 22, 23] rfl), hE.warm2 hW, (hD.sub (ws' := [(h, .inr (3, [.ref hB, .ref q1, .ref q2, .ref q3, .ref q4, .ref q5, .ref q6, .ref q7, .ref q8, .ref q9, .ref q10, .ref q11, .ref q12, .ref q13])), (q1, .inl (cI, 40, .inl st)), (q2, .inl (cI, 40, .inl sl)), (q3, .inl (cJ, 40, .inr (.inl ra))), (q4, .inl (cJ, 40, .inr (.inl rb))), (q9, .inl (cI, 40, .inl oc)), (q5, .inl (cZ, 40, .inl ca)), (q6, .inl (cZ, 40, .inl cb)), (q7, .inl (cJ, 40, .inr (.inl ga))), (q8, .inl (cJ, 40, .inr (.inl gb))), (q13, .inl (cI, 40, .inl eb)), (hB, .inr (0, [.int bz, .ref b1, .ref b2, .ref b3, .ref b4, .ref b5, .ref b6])), (b1, .inl (cI, 40, .inl ok)), (b2, .inl (cI, 40, .inl ak)), (b3, .inl (cI, 40, .inl bk)), (b4, .inl (cI, 40, .inl ck))]) [1, 2, 3, 4, 5, 10, 6, 7, 8, 9, 14, 19, 20, 21, 22, 23] (by decide) rfl).weaken (fun _ _ _ _ => trivial)⟩⟩ rfl rfl hl.1 rfl (lv_room (Nat.le_of_ble_eq_true rfl)) dX2_takeTurn_40 ⟨Nat.zero_le _, Nat.zero_le _⟩) (fun r40 hr40 H locs hP hD hS => ?_)
    refine lv_if_eq (tgt := 66) hx hb dX2_takeTurn_43 (by decide) (fun c43 => ?_) (fun c43 => ?_)
    · have g43 := if01_t (hr40.symm.trans c43)
      have q : takeTurnF cl rm ak bk sk gn ok ck w (kp, tk, bg, an, dm, uw, mu, id_, st, sl, ra, rb, ca, cb, ga, gb, oc, tb, fb, ka, eb, sd, lf, pr, ho, be) = (kp, tk, bg, an, dm, uw, mu, id_, (if 0 < sl k - 1 then st else upd st k 2), (upd sl k (sl k - 1)), ra, rb, (if 0 < sl k - 1 then ca else upd ca k (wChA (ok k) (ak k) (bk k) (ra k) (Int32.toInt64 (ck k)))), (if 0 < sl k - 1 then cb else upd cb k (wChB (ok k) (ak k) (bk k) (ra k) (rb k) (Int32.toInt64 (ck k)))), (if 0 < sl k - 1 then ga else if wChA (ok k) (ak k) (bk k) (ra k) (Int32.toInt64 (ck k)) = 1 then vp_updL ga k (wGA (ok k) (ra k) (rb k) (Int32.toInt64 (ck k))) else ga), (if 0 < sl k - 1 then gb else if wChB (ok k) (ak k) (bk k) (ra k) (rb k) (Int32.toInt64 (ck k)) = 1 then vp_updL gb k (wGB (ok k) (ra k) (rb k) (Int32.toInt64 (ck k))) else gb), (if 0 < sl k - 1 then oc else upd oc k (wOut (ok k) (ra k) (rb k) (Int32.toInt64 (ck k)))), tb, fb, ka, (if 0 < sl k - 1 then eb else upd eb k (nI w)), sd, lf, pr, ho, be) := by simp [takeTurnF, stepF, e20, nI_ne_m1 (show k < 2 ^ 31 by omega), nI_clamp (show k < 2 ^ 31 by omega), g43]
      rw [q] at hc
      cases hc
      exact W.vret hx hb hr (fun t ht hW => ⟨⟨(), rfl, trivial, by rw [ht]; exact hP, by exact hD⟩, hS.F ht⟩) hS.2.2 dX2_takeTurn_66
    · refine lv_aload_n hx hb dX2_takeTurn_46 rfl (lv_at hl 1 rfl) ?_
      refine va_get (D := D) (ci := 2) (v := .ref g) (C := RX2) (T := TX2) (N := 13) hx hb hts hinX2 hown hK hP 0 rfl rfl 2 (by decide) (hts (.fieldLink RX2 12 "LedgerShares$Run" "crew" "LLedgerShares$Crew;") (List.mem_of_getElem? (i := 1) rfl)) (fun _ h9 => h9) rfl dX2_takeTurn_47 ?_
      refine va_get (D := D) (ci := 1) (v := .ref g2) (C := RX1) (T := TX1) (N := 5) hx hb hts hinX1 hown hK hP 15 rfl rfl 3 (by decide) (hts (.fieldLink RX2 96 "LedgerShares$Crew" "holds" "[I") (List.mem_of_getElem? (i := 2) rfl)) (fun _ h9 => h9) rfl dX2_takeTurn_50 ?_
      refine lv_iload_n hx hb dX2_takeTurn_53 rfl (lv_at hl 2 rfl) ?_
      refine lv_iconst (v := (-1)) hx hb dX2_takeTurn_54 (by decide) ?_
      refine x_iast hx hb hE hP hD hS 17 rfl (w) hw (by decide) (rfl) (ws' := [(u, .inr (2, [.ref hB, .ref h, .ref g, .int (nI cl), .int tk, .int (nI rm), .int (nI kp), .int bg, .int an, .int dm, .int uw, .int mu, .int id_])), (h, .inr (3, [.ref hB, .ref q1, .ref q2, .ref q3, .ref q4, .ref q5, .ref q6, .ref q7, .ref q8, .ref q9, .ref q10, .ref q11, .ref q12, .ref q13])), (q1, .inl (cI, 40, .inl (if 0 < sl k - 1 then st else upd st k 2))), (q2, .inl (cI, 40, .inl (upd sl k (sl k - 1)))), (q3, .inl (cJ, 40, .inr (.inl ra))), (q4, .inl (cJ, 40, .inr (.inl rb))), (q5, .inl (cZ, 40, .inl (if 0 < sl k - 1 then ca else upd ca k (wChA (ok k) (ak k) (bk k) (ra k) (Int32.toInt64 (ck k)))))), (q6, .inl (cZ, 40, .inl (if 0 < sl k - 1 then cb else upd cb k (wChB (ok k) (ak k) (bk k) (ra k) (rb k) (Int32.toInt64 (ck k)))))), (q7, .inl (cJ, 40, .inr (.inl (if 0 < sl k - 1 then ga else if wChA (ok k) (ak k) (bk k) (ra k) (Int32.toInt64 (ck k)) = 1 then vp_updL ga k (wGA (ok k) (ra k) (rb k) (Int32.toInt64 (ck k))) else ga)))), (q8, .inl (cJ, 40, .inr (.inl (if 0 < sl k - 1 then gb else if wChB (ok k) (ak k) (bk k) (ra k) (rb k) (Int32.toInt64 (ck k)) = 1 then vp_updL gb k (wGB (ok k) (ra k) (rb k) (Int32.toInt64 (ck k))) else gb)))), (q9, .inl (cI, 40, .inl (if 0 < sl k - 1 then oc else upd oc k (wOut (ok k) (ra k) (rb k) (Int32.toInt64 (ck k)))))), (q10, .inl (cI, 40, .inl tb)), (q11, .inl (cI, 40, .inl fb)), (q12, .inl (cI, 40, .inl ka)), (q13, .inl (cI, 40, .inl (if 0 < sl k - 1 then eb else upd eb k (nI w)))), (g, .inr (1, [.int sd, .int (nI lf), .ref g1, .ref g2, .ref g3])), (g1, .inl (cI, 16, .inl pr)), (g2, .inl (cI, 16, .inl (upd ho w ((-1))))), (g3, .inl (cI, 16, .inl be)), (hB, .inr (0, [.int bz, .ref b1, .ref b2, .ref b3, .ref b4, .ref b5, .ref b6])), (b1, .inl (cI, 40, .inl ok)), (b2, .inl (cI, 40, .inl ak)), (b3, .inl (cI, 40, .inl bk)), (b4, .inl (cI, 40, .inl ck)), (b5, .inl (cI, 40, .inl sk)), (b6, .inl (cI, 16, .inl gn))]) (rfl) dX2_takeTurn_55 (fun H locs hP hD hS => ?_)
      refine lv_aload_n hx hb dX2_takeTurn_56 rfl (lv_at hl 1 rfl) ?_
      refine lv_dup hx hb dX2_takeTurn_57 rfl ?_
      refine va_get (D := D) (ci := 2) (v := .int uw) (C := RX2) (T := TX2) (N := 13) hx hb hts hinX2 hown hK hP 0 rfl rfl 10 (by decide) (hts (.fieldLink RX2 65 "LedgerShares$Run" "underWay" "I") (List.mem_of_getElem? (i := 4) rfl)) (fun _ h9 => h9) rfl dX2_takeTurn_58 ?_
      refine lv_iconst (v := 1) hx hb dX2_takeTurn_61 (by decide) ?_
      refine lv_isub hx hb dX2_takeTurn_62 ?_
      refine x_put (D := D) (ci := 2) (v := .int (uw - 1)) (ty := .int) (C := RX2) (T := TX2) (N := 13) hx hb hts hinX2 tyX2 tyX2_ok nmX2 hown hK hP hD hS 0 rfl rfl 10 (by decide) (hts (.fieldLink RX2 65 "LedgerShares$Run" "underWay" "I") (List.mem_of_getElem? (i := 4) rfl)) rfl (by decide +kernel) (rfl) (rfl) (Nat.le_of_ble_eq_true rfl) (ws' := [(u, .inr (2, [.ref hB, .ref h, .ref g, .int (nI cl), .int tk, .int (nI rm), .int (nI kp), .int bg, .int an, .int dm, .int (uw - 1), .int mu, .int id_])), (h, .inr (3, [.ref hB, .ref q1, .ref q2, .ref q3, .ref q4, .ref q5, .ref q6, .ref q7, .ref q8, .ref q9, .ref q10, .ref q11, .ref q12, .ref q13])), (q1, .inl (cI, 40, .inl (if 0 < sl k - 1 then st else upd st k 2))), (q2, .inl (cI, 40, .inl (upd sl k (sl k - 1)))), (q3, .inl (cJ, 40, .inr (.inl ra))), (q4, .inl (cJ, 40, .inr (.inl rb))), (q5, .inl (cZ, 40, .inl (if 0 < sl k - 1 then ca else upd ca k (wChA (ok k) (ak k) (bk k) (ra k) (Int32.toInt64 (ck k)))))), (q6, .inl (cZ, 40, .inl (if 0 < sl k - 1 then cb else upd cb k (wChB (ok k) (ak k) (bk k) (ra k) (rb k) (Int32.toInt64 (ck k)))))), (q7, .inl (cJ, 40, .inr (.inl (if 0 < sl k - 1 then ga else if wChA (ok k) (ak k) (bk k) (ra k) (Int32.toInt64 (ck k)) = 1 then vp_updL ga k (wGA (ok k) (ra k) (rb k) (Int32.toInt64 (ck k))) else ga)))), (q8, .inl (cJ, 40, .inr (.inl (if 0 < sl k - 1 then gb else if wChB (ok k) (ak k) (bk k) (ra k) (rb k) (Int32.toInt64 (ck k)) = 1 then vp_updL gb k (wGB (ok k) (ra k) (rb k) (Int32.toInt64 (ck k))) else gb)))), (q9, .inl (cI, 40, .inl (if 0 < sl k - 1 then oc else upd oc k (wOut (ok k) (ra k) (rb k) (Int32.toInt64 (ck k)))))), (q10, .inl (cI, 40, .inl tb)), (q11, .inl (cI, 40, .inl fb)), (q12, .inl (cI, 40, .inl ka)), (q13, .inl (cI, 40, .inl (if 0 < sl k - 1 then eb else upd eb k (nI w)))), (g, .inr (1, [.int sd, .int (nI lf), .ref g1, .ref g2, .ref g3])), (g1, .inl (cI, 16, .inl pr)), (g2, .inl (cI, 16, .inl (upd ho w ((-1))))), (g3, .inl (cI, 16, .inl be)), (hB, .inr (0, [.int bz, .ref b1, .ref b2, .ref b3, .ref b4, .ref b5, .ref b6])), (b1, .inl (cI, 40, .inl ok)), (b2, .inl (cI, 40, .inl ak)), (b3, .inl (cI, 40, .inl bk)), (b4, .inl (cI, 40, .inl ck)), (b5, .inl (cI, 40, .inl sk)), (b6, .inl (cI, 16, .inl gn))]) rfl dX2_takeTurn_63 (fun H locs hP hD hS => ?_)
      have g43 := if01_f (fun z => c43 (hr40.trans z))
      have q : takeTurnF cl rm ak bk sk gn ok ck w (kp, tk, bg, an, dm, uw, mu, id_, st, sl, ra, rb, ca, cb, ga, gb, oc, tb, fb, ka, eb, sd, lf, pr, ho, be) = (kp, tk, bg, an, dm, uw - 1, mu, id_, (if 0 < sl k - 1 then st else upd st k 2), (upd sl k (sl k - 1)), ra, rb, (if 0 < sl k - 1 then ca else upd ca k (wChA (ok k) (ak k) (bk k) (ra k) (Int32.toInt64 (ck k)))), (if 0 < sl k - 1 then cb else upd cb k (wChB (ok k) (ak k) (bk k) (ra k) (rb k) (Int32.toInt64 (ck k)))), (if 0 < sl k - 1 then ga else if wChA (ok k) (ak k) (bk k) (ra k) (Int32.toInt64 (ck k)) = 1 then vp_updL ga k (wGA (ok k) (ra k) (rb k) (Int32.toInt64 (ck k))) else ga), (if 0 < sl k - 1 then gb else if wChB (ok k) (ak k) (bk k) (ra k) (rb k) (Int32.toInt64 (ck k)) = 1 then vp_updL gb k (wGB (ok k) (ra k) (rb k) (Int32.toInt64 (ck k))) else gb), (if 0 < sl k - 1 then oc else upd oc k (wOut (ok k) (ra k) (rb k) (Int32.toInt64 (ck k)))), tb, fb, ka, (if 0 < sl k - 1 then eb else upd eb k (nI w)), sd, lf, pr, (upd ho w ((-1))), be) := by simp [takeTurnF, stepF, e20, nI_ne_m1 (show k < 2 ^ 31 by omega), nI_clamp (show k < 2 ^ 31 by omega), g43]
      rw [q] at hc
      cases hc
      exact W.vret hx hb hr (fun t ht hW => ⟨⟨(), rfl, trivial, by rw [ht]; exact hP, by exact hD⟩, hS.F ht⟩) hS.2.2 dX2_takeTurn_66
set_option maxHeartbeats 4000000 in
set_option maxRecDepth 100000 in
theorem k_keep (l : Launch) (D : va_G) (cI cJ cZ : ClassId) (sz : Nat) (u h hB q1 q2 q3 q4 q5 q6 q7 q8 q9 q10 q11 q12 q13 g g1 g2 g3 b1 b2 b3 b4 b5 b6 : Nat) (bz : Int32) (ak bk sk gn ok ck : Nat → Int32) (cl rm : Nat) (kp : Nat) (tk : Int32) (bg : Int32) (an : Int32) (dm : Int32) (uw : Int32) (mu : Int32) (id_ : Int32) (st : Nat → Int32) (sl : Nat → Int32) (ra : Nat → Int64) (rb : Nat → Int64) (ca : Nat → Int32) (cb : Nat → Int32) (ga : Nat → Int64) (gb : Nat → Int64) (oc : Nat → Int32) (tb : Nat → Int32) (fb : Nat → Int32) (ka : Nat → Int32) (eb : Nat → Int32) (sd : Int32) (lf : Nat) (pr : Nat → Int32) (ho : Nat → Int32) (be : Nat → Int32) (kp1 : Nat) (tk1 : Int32) (bg1 : Int32) (an1 : Int32) (dm1 : Int32) (uw1 : Int32) (mu1 : Int32) (id_1 : Int32) (st1 : Nat → Int32) (sl1 : Nat → Int32) (ra1 : Nat → Int64) (rb1 : Nat → Int64) (ca1 : Nat → Int32) (cb1 : Nat → Int32) (ga1 : Nat → Int64) (gb1 : Nat → Int64) (oc1 : Nat → Int32) (tb1 : Nat → Int32) (fb1 : Nat → Int32) (ka1 : Nat → Int32) (eb1 : Nat → Int32) (sd1 : Int32) (lf1 : Nat) (pr1 : Nat → Int32) (ho1 : Nat → Int32) (be1 : Nat → Int32) (hkp : kp ≤ cl) (hcl : cl ≤ 40) (hc : keepF cl ak bk 41 (kp, tk, bg, an, dm, uw, mu, id_, st, sl, ra, rb, ca, cb, ga, gb, oc, tb, fb, ka, eb, sd, lf, pr, ho, be) = (kp1, tk1, bg1, an1, dm1, uw1, mu1, id_1, st1, sl1, ra1, rb1, ca1, cb1, ga1, gb1, oc1, tb1, fb1, ka1, eb1, sd1, lf1, pr1, ho1, be1)) : Met l yX2_keepWhatStands wsX2_keepWhatStands ({ frames := 3, cells := 0, slots := 0, locals := 67 }) (PcRW [.ref u] sz D cI cJ cZ [(u, .inr (2, [.ref hB, .ref h, .ref g, .int (nI cl), .int tk, .int (nI rm), .int (nI kp), .int bg, .int an, .int dm, .int uw, .int mu, .int id_])), (h, .inr (3, [.ref hB, .ref q1, .ref q2, .ref q3, .ref q4, .ref q5, .ref q6, .ref q7, .ref q8, .ref q9, .ref q10, .ref q11, .ref q12, .ref q13])), (q1, .inl (cI, 40, .inl st)), (q2, .inl (cI, 40, .inl sl)), (q3, .inl (cJ, 40, .inr (.inl ra))), (q4, .inl (cJ, 40, .inr (.inl rb))), (q5, .inl (cZ, 40, .inl ca)), (q6, .inl (cZ, 40, .inl cb)), (q7, .inl (cJ, 40, .inr (.inl ga))), (q8, .inl (cJ, 40, .inr (.inl gb))), (q9, .inl (cI, 40, .inl oc)), (q10, .inl (cI, 40, .inl tb)), (q11, .inl (cI, 40, .inl fb)), (q12, .inl (cI, 40, .inl ka)), (q13, .inl (cI, 40, .inl eb)), (g, .inr (1, [.int sd, .int (nI lf), .ref g1, .ref g2, .ref g3])), (g1, .inl (cI, 16, .inl pr)), (g2, .inl (cI, 16, .inl ho)), (g3, .inl (cI, 16, .inl be)), (hB, .inr (0, [.int bz, .ref b1, .ref b2, .ref b3, .ref b4, .ref b5, .ref b6])), (b1, .inl (cI, 40, .inl ok)), (b2, .inl (cI, 40, .inl ak)), (b3, .inl (cI, 40, .inl bk)), (b4, .inl (cI, 40, .inl ck)), (b5, .inl (cI, 40, .inl sk)), (b6, .inl (cI, 16, .inl gn))]) (QcV D (va_A [(u, .inr (2, [.ref hB, .ref h, .ref g, .int (nI cl), .int tk, .int (nI rm), .int (nI kp), .int bg, .int an, .int dm, .int uw, .int mu, .int id_])), (h, .inr (3, [.ref hB, .ref q1, .ref q2, .ref q3, .ref q4, .ref q5, .ref q6, .ref q7, .ref q8, .ref q9, .ref q10, .ref q11, .ref q12, .ref q13])), (q1, .inl (cI, 40, .inl st)), (q2, .inl (cI, 40, .inl sl)), (q3, .inl (cJ, 40, .inr (.inl ra))), (q4, .inl (cJ, 40, .inr (.inl rb))), (q5, .inl (cZ, 40, .inl ca)), (q6, .inl (cZ, 40, .inl cb)), (q7, .inl (cJ, 40, .inr (.inl ga))), (q8, .inl (cJ, 40, .inr (.inl gb))), (q9, .inl (cI, 40, .inl oc)), (q10, .inl (cI, 40, .inl tb)), (q11, .inl (cI, 40, .inl fb)), (q12, .inl (cI, 40, .inl ka)), (q13, .inl (cI, 40, .inl eb)), (g, .inr (1, [.int sd, .int (nI lf), .ref g1, .ref g2, .ref g3])), (g1, .inl (cI, 16, .inl pr)), (g2, .inl (cI, 16, .inl ho)), (g3, .inl (cI, 16, .inl be)), (hB, .inr (0, [.int bz, .ref b1, .ref b2, .ref b3, .ref b4, .ref b5, .ref b6])), (b1, .inl (cI, 40, .inl ok)), (b2, .inl (cI, 40, .inl ak)), (b3, .inl (cI, 40, .inl bk)), (b4, .inl (cI, 40, .inl ck)), (b5, .inl (cI, 40, .inl sk)), (b6, .inl (cI, 16, .inl gn))] sz) [(u, .inr (2, [.ref hB, .ref h, .ref g, .int (nI cl), .int tk1, .int (nI rm), .int (nI kp1), .int bg1, .int an1, .int dm1, .int uw1, .int mu1, .int id_1])), (h, .inr (3, [.ref hB, .ref q1, .ref q2, .ref q3, .ref q4, .ref q5, .ref q6, .ref q7, .ref q8, .ref q9, .ref q10, .ref q11, .ref q12, .ref q13])), (q1, .inl (cI, 40, .inl st1)), (q2, .inl (cI, 40, .inl sl1)), (q3, .inl (cJ, 40, .inr (.inl ra1))), (q4, .inl (cJ, 40, .inr (.inl rb1))), (q5, .inl (cZ, 40, .inl ca1)), (q6, .inl (cZ, 40, .inl cb1)), (q7, .inl (cJ, 40, .inr (.inl ga1))), (q8, .inl (cJ, 40, .inr (.inl gb1))), (q9, .inl (cI, 40, .inl oc1)), (q10, .inl (cI, 40, .inl tb1)), (q11, .inl (cI, 40, .inl fb1)), (q12, .inl (cI, 40, .inl ka1)), (q13, .inl (cI, 40, .inl eb1)), (g, .inr (1, [.int sd1, .int (nI lf1), .ref g1, .ref g2, .ref g3])), (g1, .inl (cI, 16, .inl pr1)), (g2, .inl (cI, 16, .inl ho1)), (g3, .inl (cI, 16, .inl be1)), (hB, .inr (0, [.int bz, .ref b1, .ref b2, .ref b3, .ref b4, .ref b5, .ref b6])), (b1, .inl (cI, 40, .inl ok)), (b2, .inl (cI, 40, .inl ak)), (b3, .inl (cI, 40, .inl bk)), (b4, .inl (cI, 40, .inl ck)), (b5, .inl (cI, 40, .inl sk)), (b6, .inl (cI, 16, .inl gn))]) 0 0 (va_A [(u, .inr (2, [.ref hB, .ref h, .ref g, .int (nI cl), .int tk, .int (nI rm), .int (nI kp), .int bg, .int an, .int dm, .int uw, .int mu, .int id_])), (h, .inr (3, [.ref hB, .ref q1, .ref q2, .ref q3, .ref q4, .ref q5, .ref q6, .ref q7, .ref q8, .ref q9, .ref q10, .ref q11, .ref q12, .ref q13])), (q1, .inl (cI, 40, .inl st)), (q2, .inl (cI, 40, .inl sl)), (q3, .inl (cJ, 40, .inr (.inl ra))), (q4, .inl (cJ, 40, .inr (.inl rb))), (q5, .inl (cZ, 40, .inl ca)), (q6, .inl (cZ, 40, .inl cb)), (q7, .inl (cJ, 40, .inr (.inl ga))), (q8, .inl (cJ, 40, .inr (.inl gb))), (q9, .inl (cI, 40, .inl oc)), (q10, .inl (cI, 40, .inl tb)), (q11, .inl (cI, 40, .inl fb)), (q12, .inl (cI, 40, .inl ka)), (q13, .inl (cI, 40, .inl eb)), (g, .inr (1, [.int sd, .int (nI lf), .ref g1, .ref g2, .ref g3])), (g1, .inl (cI, 16, .inl pr)), (g2, .inl (cI, 16, .inl ho)), (g3, .inl (cI, 16, .inl be)), (hB, .inr (0, [.int bz, .ref b1, .ref b2, .ref b3, .ref b4, .ref b5, .ref b6])), (b1, .inl (cI, 40, .inl ok)), (b2, .inl (cI, 40, .inl ak)), (b3, .inl (cI, 40, .inl bk)), (b4, .inl (cI, 40, .inl ck)), (b5, .inl (cI, 40, .inl sk)), (b6, .inl (cI, 16, .inl gn))] sz) := by
  refine Met.ofW (cc := cX2_keepWhatStands) (maxL := 1) (ret := none) (by decide) rfl ?_
  intro p e s m args below meth c s₁ B hml hv
  obtain ⟨rfl, hsz, hP, hE, hD0⟩ := hv
  have hx := B.exec
  have hb := B.bytes
  have hr := B.returns
  have hts := atoms_spec (ws := wsX2_keepWhatStands) B.pre
  have hown : s.vm.findClass RX2 = some m.cls := findClass_of_methodNamed B.named
  have hlocks := B.notSynchronized
  have hK := hE.1
  subst hsz
  have hD := hD0.self (sz := s.heap.size)
  generalize hAe : va_A [(u, .inr (2, [.ref hB, .ref h, .ref g, .int (nI cl), .int tk, .int (nI rm), .int (nI kp), .int bg, .int an, .int dm, .int uw, .int mu, .int id_])), (h, .inr (3, [.ref hB, .ref q1, .ref q2, .ref q3, .ref q4, .ref q5, .ref q6, .ref q7, .ref q8, .ref q9, .ref q10, .ref q11, .ref q12, .ref q13])), (q1, .inl (cI, 40, .inl st)), (q2, .inl (cI, 40, .inl sl)), (q3, .inl (cJ, 40, .inr (.inl ra))), (q4, .inl (cJ, 40, .inr (.inl rb))), (q5, .inl (cZ, 40, .inl ca)), (q6, .inl (cZ, 40, .inl cb)), (q7, .inl (cJ, 40, .inr (.inl ga))), (q8, .inl (cJ, 40, .inr (.inl gb))), (q9, .inl (cI, 40, .inl oc)), (q10, .inl (cI, 40, .inl tb)), (q11, .inl (cI, 40, .inl fb)), (q12, .inl (cI, 40, .inl ka)), (q13, .inl (cI, 40, .inl eb)), (g, .inr (1, [.int sd, .int (nI lf), .ref g1, .ref g2, .ref g3])), (g1, .inl (cI, 16, .inl pr)), (g2, .inl (cI, 16, .inl ho)), (g3, .inl (cI, 16, .inl be)), (hB, .inr (0, [.int bz, .ref b1, .ref b2, .ref b3, .ref b4, .ref b5, .ref b6])), (b1, .inl (cI, 40, .inl ok)), (b2, .inl (cI, 40, .inl ak)), (b3, .inl (cI, 40, .inl bk)), (b4, .inl (cI, 40, .inl ck)), (b5, .inl (cI, 40, .inl sk)), (b6, .inl (cI, 16, .inl gn))] s.heap.size = A at hD ⊢
  have hA : ∀ q : Nat, s.heap.size ≤ q → A q := fun q h => by rw [← hAe]; exact Or.inr h
  have hS : va_S A s.heap s.heap [] := va_S.rf
  have hl := lv_entry ([.ref u]) (n := 1) (Nat.le_of_ble_eq_true rfl)
  rw [lg_entry_eq]
  generalize (lg_sl ([.ref u]) ++ List.replicate (1 - (lg_sl ([.ref u])).length) Slot.unset).toArray = ls at hl ⊢
  have hl : lv_has ls 1 [(0, .ref u)] := hl
  have hinX2 : ∀ w ∈ u_ws RX2 TX2 13, w ∈ wsX2_keepWhatStands := fun _ h => List.mem_cons_of_mem _ (List.mem_append_left _ (List.mem_append_left _ (List.mem_append_right _ h)))
  have loop0 : ∀ (n : Nat) (kq : Nat) (sq kz : Nat → Int32), (kq ≤ cl) → (41 ≤ kq + n) → (keepF cl ak bk 41 (kp, tk, bg, an, dm, uw, mu, id_, st, sl, ra, rb, ca, cb, ga, gb, oc, tb, fb, ka, eb, sd, lf, pr, ho, be) = keepF cl ak bk n (kq, tk, bg, an, dm, uw, mu, id_, sq, sl, ra, rb, ca, cb, ga, gb, oc, tb, fb, kz, eb, sd, lf, pr, ho, be)) → ∀ (H : Heap) (locs : List Loc) (ls : Array Slot), va_P D vwCl [(u, .inr (2, [.ref hB, .ref h, .ref g, .int (nI cl), .int tk, .int (nI rm), .int (nI kq), .int bg, .int an, .int dm, .int uw, .int mu, .int id_])), (h, .inr (3, [.ref hB, .ref q1, .ref q2, .ref q3, .ref q4, .ref q5, .ref q6, .ref q7, .ref q8, .ref q9, .ref q10, .ref q11, .ref q12, .ref q13])), (q1, .inl (cI, 40, .inl sq)), (q2, .inl (cI, 40, .inl sl)), (q3, .inl (cJ, 40, .inr (.inl ra))), (q4, .inl (cJ, 40, .inr (.inl rb))), (q5, .inl (cZ, 40, .inl ca)), (q6, .inl (cZ, 40, .inl cb)), (q7, .inl (cJ, 40, .inr (.inl ga))), (q8, .inl (cJ, 40, .inr (.inl gb))), (q9, .inl (cI, 40, .inl oc)), (q10, .inl (cI, 40, .inl tb)), (q11, .inl (cI, 40, .inl fb)), (q12, .inl (cI, 40, .inl kz)), (q13, .inl (cI, 40, .inl eb)), (g, .inr (1, [.int sd, .int (nI lf), .ref g1, .ref g2, .ref g3])), (g1, .inl (cI, 16, .inl pr)), (g2, .inl (cI, 16, .inl ho)), (g3, .inl (cI, 16, .inl be)), (hB, .inr (0, [.int bz, .ref b1, .ref b2, .ref b3, .ref b4, .ref b5, .ref b6])), (b1, .inl (cI, 40, .inl ok)), (b2, .inl (cI, 40, .inl ak)), (b3, .inl (cI, 40, .inl bk)), (b4, .inl (cI, 40, .inl ck)), (b5, .inl (cI, 40, .inl sk)), (b6, .inl (cI, 16, .inl gn))] H → va_D A [(u, .inr (2, [.ref hB, .ref h, .ref g, .int (nI cl), .int tk, .int (nI rm), .int (nI kq), .int bg, .int an, .int dm, .int uw, .int mu, .int id_])), (h, .inr (3, [.ref hB, .ref q1, .ref q2, .ref q3, .ref q4, .ref q5, .ref q6, .ref q7, .ref q8, .ref q9, .ref q10, .ref q11, .ref q12, .ref q13])), (q1, .inl (cI, 40, .inl sq)), (q2, .inl (cI, 40, .inl sl)), (q3, .inl (cJ, 40, .inr (.inl ra))), (q4, .inl (cJ, 40, .inr (.inl rb))), (q5, .inl (cZ, 40, .inl ca)), (q6, .inl (cZ, 40, .inl cb)), (q7, .inl (cJ, 40, .inr (.inl ga))), (q8, .inl (cJ, 40, .inr (.inl gb))), (q9, .inl (cI, 40, .inl oc)), (q10, .inl (cI, 40, .inl tb)), (q11, .inl (cI, 40, .inl fb)), (q12, .inl (cI, 40, .inl kz)), (q13, .inl (cI, 40, .inl eb)), (g, .inr (1, [.int sd, .int (nI lf), .ref g1, .ref g2, .ref g3])), (g1, .inl (cI, 16, .inl pr)), (g2, .inl (cI, 16, .inl ho)), (g3, .inl (cI, 16, .inl be)), (hB, .inr (0, [.int bz, .ref b1, .ref b2, .ref b3, .ref b4, .ref b5, .ref b6])), (b1, .inl (cI, 40, .inl ok)), (b2, .inl (cI, 40, .inl ak)), (b3, .inl (cI, 40, .inl bk)), (b4, .inl (cI, 40, .inl ck)), (b5, .inl (cI, 40, .inl sk)), (b6, .inl (cI, 16, .inl gn))] → va_S A s.heap H locs → lv_has ls 1 [(0, .ref u)] → W p l e (headSpec wsX2_keepWhatStands ({ frames := 3, cells := 0, slots := 0, locals := 67 })).room s m ([.ref u].toArray) below meth c H locs 0 0 (MQ below (QcV D A [(u, .inr (2, [.ref hB, .ref h, .ref g, .int (nI cl), .int tk1, .int (nI rm), .int (nI kp1), .int bg1, .int an1, .int dm1, .int uw1, .int mu1, .int id_1])), (h, .inr (3, [.ref hB, .ref q1, .ref q2, .ref q3, .ref q4, .ref q5, .ref q6, .ref q7, .ref q8, .ref q9, .ref q10, .ref q11, .ref q12, .ref q13])), (q1, .inl (cI, 40, .inl st1)), (q2, .inl (cI, 40, .inl sl1)), (q3, .inl (cJ, 40, .inr (.inl ra1))), (q4, .inl (cJ, 40, .inr (.inl rb1))), (q5, .inl (cZ, 40, .inl ca1)), (q6, .inl (cZ, 40, .inl cb1)), (q7, .inl (cJ, 40, .inr (.inl ga1))), (q8, .inl (cJ, 40, .inr (.inl gb1))), (q9, .inl (cI, 40, .inl oc1)), (q10, .inl (cI, 40, .inl tb1)), (q11, .inl (cI, 40, .inl fb1)), (q12, .inl (cI, 40, .inl ka1)), (q13, .inl (cI, 40, .inl eb1)), (g, .inr (1, [.int sd1, .int (nI lf1), .ref g1, .ref g2, .ref g3])), (g1, .inl (cI, 16, .inl pr1)), (g2, .inl (cI, 16, .inl ho1)), (g3, .inl (cI, 16, .inl be1)), (hB, .inr (0, [.int bz, .ref b1, .ref b2, .ref b3, .ref b4, .ref b5, .ref b6])), (b1, .inl (cI, 40, .inl ok)), (b2, .inl (cI, 40, .inl ak)), (b3, .inl (cI, 40, .inl bk)), (b4, .inl (cI, 40, .inl ck)), (b5, .inl (cI, 40, .inl sk)), (b6, .inl (cI, 16, .inl gn))]) ([.ref u].toArray) s 0 0 A) (F0 m 0 ls []) := by
    intro n
    induction n with
    | zero =>
      intro kq sq kz hk hf hinv
      exact absurd hf (by omega)
    | succ n ih0 =>
      intro kq sq kz hk hf hinv H locs ls hP hD hS hl
      refine lv_aload_n hx hb dX2_keepWhatStands_0 rfl (lv_at hl 0 rfl) ?_
      refine va_get (D := D) (ci := 2) (v := .int (nI kq)) (C := RX2) (T := TX2) (N := 13) hx hb hts hinX2 hown hK hP 0 rfl rfl 6 (by decide) (hts (.fieldLink RX2 38 "LedgerShares$Run" "kept" "I") (List.mem_of_getElem? (i := 1) rfl)) (fun _ h9 => h9) rfl dX2_keepWhatStands_1 ?_
      refine lv_aload_n hx hb dX2_keepWhatStands_4 rfl (lv_at hl 0 rfl) ?_
      refine va_get (D := D) (ci := 2) (v := .int (nI cl)) (C := RX2) (T := TX2) (N := 13) hx hb hts hinX2 hown hK hP 0 rfl rfl 3 (by decide) (hts (.fieldLink RX2 42 "LedgerShares$Run" "calls" "I") (List.mem_of_getElem? (i := 2) rfl)) (fun _ h9 => h9) rfl dX2_keepWhatStands_5 ?_
      refine lv_icmp_ge (tgt := 67) hx hb dX2_keepWhatStands_8 (by decide) (fun c8 => ?_) (fun c8 => ?_)
      · have q : keepF cl ak bk 41 (kp, tk, bg, an, dm, uw, mu, id_, st, sl, ra, rb, ca, cb, ga, gb, oc, tb, fb, ka, eb, sd, lf, pr, ho, be) = (kq, tk, bg, an, dm, uw, mu, id_, sq, sl, ra, rb, ca, cb, ga, gb, oc, tb, fb, kz, eb, sd, lf, pr, ho, be) := by rw [hinv]; simp only [keepF, if_neg (show ¬ (kq < cl ∧ sq kq = 2) from fun z => absurd c8 (nI_ge z.1 (by omega)))]
        rw [q] at hc
        cases hc
        exact W.vret hx hb hr (fun t ht hW => ⟨⟨(), rfl, trivial, by rw [ht]; exact hP, by exact hD⟩, hS.F ht⟩) hS.2.2 dX2_keepWhatStands_67
      · have g8 : kq < cl := Nat.lt_of_not_le (fun z => c8 (nI_le z (by omega)))
        refine lv_aload_n hx hb dX2_keepWhatStands_11 rfl (lv_at hl 0 rfl) ?_
        refine va_get (D := D) (ci := 2) (v := .ref h) (C := RX2) (T := TX2) (N := 13) hx hb hts hinX2 hown hK hP 0 rfl rfl 1 (by decide) (hts (.fieldLink RX2 27 "LedgerShares$Run" "sheet" "LLedgerShares$Sheet;") (List.mem_of_getElem? (i := 3) rfl)) (fun _ h9 => h9) rfl dX2_keepWhatStands_12 ?_
        refine lv_aload_n hx hb dX2_keepWhatStands_15 rfl (lv_at hl 0 rfl) ?_
        refine va_get (D := D) (ci := 2) (v := .int (nI kq)) (C := RX2) (T := TX2) (N := 13) hx hb hts hinX2 hown hK hP 0 rfl rfl 6 (by decide) (hts (.fieldLink RX2 38 "LedgerShares$Run" "kept" "I") (List.mem_of_getElem? (i := 1) rfl)) (fun _ h9 => h9) rfl dX2_keepWhatStands_16 ?_
        refine vp_callSi (va_Run.run (va_runV (As := [.int (nI kq)]) (rest := []) ⟨hx, hb, hml, hown, hts⟩ (k_waits l D cI cJ cZ h hB q1 q2 q3 q4 q5 q6 q7 q8 q9 q10 q11 q12 q13 sq kq (by omega)) (cwV 1 hts gX2_keepWhatStands_X3_waitsToBeKept rfl rfl rfl (by decide +kernel) ⟨Nat.le_of_ble_eq_true rfl, Nat.le_of_ble_eq_true rfl⟩) ⟨bl_ro, va_recv hK (hP.sub (ws' := [(h, .inr (3, [.ref hB, .ref q1, .ref q2, .ref q3, .ref q4, .ref q5, .ref q6, .ref q7, .ref q8, .ref q9, .ref q10, .ref q11, .ref q12, .ref q13])), (q1, .inl (cI, 40, .inl sq))]) [1, 2] rfl) (ci := 3) (q0 := 0) rfl rfl, fun U hU hW => ⟨rfl, by rw [hU]; exact (hP.sub (ws' := [(h, .inr (3, [.ref hB, .ref q1, .ref q2, .ref q3, .ref q4, .ref q5, .ref q6, .ref q7, .ref q8, .ref q9, .ref q10, .ref q11, .ref q12, .ref q13])), (q1, .inl (cI, 40, .inl sq))]) [1, 2] rfl), hE.warm2 hW⟩⟩ rfl rfl hl.1 rfl (lv_room (Nat.le_of_ble_eq_true rfl)) dX2_keepWhatStands_19 ⟨Nat.zero_le _, Nat.zero_le _⟩)) (fun r19 hr19 => ?_)
        refine lv_if_eq (tgt := 67) hx hb dX2_keepWhatStands_22 (by decide) (fun c22 => ?_) (fun c22 => ?_)
        · have q : keepF cl ak bk 41 (kp, tk, bg, an, dm, uw, mu, id_, st, sl, ra, rb, ca, cb, ga, gb, oc, tb, fb, ka, eb, sd, lf, pr, ho, be) = (kq, tk, bg, an, dm, uw, mu, id_, sq, sl, ra, rb, ca, cb, ga, gb, oc, tb, fb, kz, eb, sd, lf, pr, ho, be) := by rw [hinv]; simp only [keepF, if_neg (show ¬ (kq < cl ∧ sq kq = 2) from fun z => (if1_f (hr19.symm.trans c22)) z.2)]
          rw [q] at hc
          cases hc
          exact W.vret hx hb hr (fun t ht hW => ⟨⟨(), rfl, trivial, by rw [ht]; exact hP, by exact hD⟩, hS.F ht⟩) hS.2.2 dX2_keepWhatStands_67
        · have g22 := if1_t (fun z => c22 (hr19.trans z))
          refine lv_aload_n hx hb dX2_keepWhatStands_25 rfl (lv_at hl 0 rfl) ?_
          refine va_get (D := D) (ci := 2) (v := .ref h) (C := RX2) (T := TX2) (N := 13) hx hb hts hinX2 hown hK hP 0 rfl rfl 1 (by decide) (hts (.fieldLink RX2 27 "LedgerShares$Run" "sheet" "LLedgerShares$Sheet;") (List.mem_of_getElem? (i := 3) rfl)) (fun _ h9 => h9) rfl dX2_keepWhatStands_26 ?_
          refine lv_aload_n hx hb dX2_keepWhatStands_29 rfl (lv_at hl 0 rfl) ?_
          refine va_get (D := D) (ci := 2) (v := .int (nI kq)) (C := RX2) (T := TX2) (N := 13) hx hb hts hinX2 hown hK hP 0 rfl rfl 6 (by decide) (hts (.fieldLink RX2 38 "LedgerShares$Run" "kept" "I") (List.mem_of_getElem? (i := 1) rfl)) (fun _ h9 => h9) rfl dX2_keepWhatStands_30 ?_
          refine lv_aload_n hx hb dX2_keepWhatStands_33 rfl (lv_at hl 0 rfl) ?_
          refine va_get (D := D) (ci := 2) (v := .int tk) (C := RX2) (T := TX2) (N := 13) hx hb hts hinX2 hown hK hP 0 rfl rfl 4 (by decide) (hts (.fieldLink RX2 48 "LedgerShares$Run" "ticks" "I") (List.mem_of_getElem? (i := 4) rfl)) (fun _ h9 => h9) rfl dX2_keepWhatStands_34 ?_
          refine x_calli (wc := [(h, .inr (3, [.ref hB, .ref q1, .ref q2, .ref q3, .ref q4, .ref q5, .ref q6, .ref q7, .ref q8, .ref q9, .ref q10, .ref q11, .ref q12, .ref q13])), (q1, .inl (cI, 40, .inl sq)), (q3, .inl (cJ, 40, .inr (.inl ra))), (q4, .inl (cJ, 40, .inr (.inl rb))), (q5, .inl (cZ, 40, .inl ca)), (q6, .inl (cZ, 40, .inl cb)), (q7, .inl (cJ, 40, .inr (.inl ga))), (q8, .inl (cJ, 40, .inr (.inl gb))), (q12, .inl (cI, 40, .inl kz)), (hB, .inr (0, [.int bz, .ref b1, .ref b2, .ref b3, .ref b4, .ref b5, .ref b6])), (b2, .inl (cI, 40, .inl ak)), (b3, .inl (cI, 40, .inl bk))]) (wc' := [(h, .inr (3, [.ref hB, .ref q1, .ref q2, .ref q3, .ref q4, .ref q5, .ref q6, .ref q7, .ref q8, .ref q9, .ref q10, .ref q11, .ref q12, .ref q13])), (q1, .inl (cI, 40, .inl (if ra kq = stnd sq ca ak cb bk ga gb (ak kq) kq ∧ rb kq = stnd sq ca ak cb bk ga gb (bk kq) kq then upd sq kq 3 else upd sq kq 0))), (q3, .inl (cJ, 40, .inr (.inl ra))), (q4, .inl (cJ, 40, .inr (.inl rb))), (q5, .inl (cZ, 40, .inl ca)), (q6, .inl (cZ, 40, .inl cb)), (q7, .inl (cJ, 40, .inr (.inl ga))), (q8, .inl (cJ, 40, .inr (.inl gb))), (q12, .inl (cI, 40, .inl (if ra kq = stnd sq ca ak cb bk ga gb (ak kq) kq ∧ rb kq = stnd sq ca ak cb bk ga gb (bk kq) kq then upd kz kq tk else kz))), (hB, .inr (0, [.int bz, .ref b1, .ref b2, .ref b3, .ref b4, .ref b5, .ref b6])), (b2, .inl (cI, 40, .inl ak)), (b3, .inl (cI, 40, .inl bk))]) (wr := [(u, .inr (2, [.ref hB, .ref h, .ref g, .int (nI cl), .int tk, .int (nI rm), .int (nI kq), .int bg, .int an, .int dm, .int uw, .int mu, .int id_])), (q2, .inl (cI, 40, .inl sl)), (q9, .inl (cI, 40, .inl oc)), (q10, .inl (cI, 40, .inl tb)), (q11, .inl (cI, 40, .inl fb)), (q13, .inl (cI, 40, .inl eb)), (g, .inr (1, [.int sd, .int (nI lf), .ref g1, .ref g2, .ref g3])), (g1, .inl (cI, 16, .inl pr)), (g2, .inl (cI, 16, .inl ho)), (g3, .inl (cI, 16, .inl be)), (b1, .inl (cI, 40, .inl ok)), (b4, .inl (cI, 40, .inl ck)), (b5, .inl (cI, 40, .inl sk)), (b6, .inl (cI, 16, .inl gn))]) (ws' := [(u, .inr (2, [.ref hB, .ref h, .ref g, .int (nI cl), .int tk, .int (nI rm), .int (nI kq), .int bg, .int an, .int dm, .int uw, .int mu, .int id_])), (h, .inr (3, [.ref hB, .ref q1, .ref q2, .ref q3, .ref q4, .ref q5, .ref q6, .ref q7, .ref q8, .ref q9, .ref q10, .ref q11, .ref q12, .ref q13])), (q1, .inl (cI, 40, .inl (if ra kq = stnd sq ca ak cb bk ga gb (ak kq) kq ∧ rb kq = stnd sq ca ak cb bk ga gb (bk kq) kq then upd sq kq 3 else upd sq kq 0))), (q2, .inl (cI, 40, .inl sl)), (q3, .inl (cJ, 40, .inr (.inl ra))), (q4, .inl (cJ, 40, .inr (.inl rb))), (q5, .inl (cZ, 40, .inl ca)), (q6, .inl (cZ, 40, .inl cb)), (q7, .inl (cJ, 40, .inr (.inl ga))), (q8, .inl (cJ, 40, .inr (.inl gb))), (q9, .inl (cI, 40, .inl oc)), (q10, .inl (cI, 40, .inl tb)), (q11, .inl (cI, 40, .inl fb)), (q12, .inl (cI, 40, .inl (if ra kq = stnd sq ca ak cb bk ga gb (ak kq) kq ∧ rb kq = stnd sq ca ak cb bk ga gb (bk kq) kq then upd kz kq tk else kz))), (q13, .inl (cI, 40, .inl eb)), (g, .inr (1, [.int sd, .int (nI lf), .ref g1, .ref g2, .ref g3])), (g1, .inl (cI, 16, .inl pr)), (g2, .inl (cI, 16, .inl ho)), (g3, .inl (cI, 16, .inl be)), (hB, .inr (0, [.int bz, .ref b1, .ref b2, .ref b3, .ref b4, .ref b5, .ref b6])), (b1, .inl (cI, 40, .inl ok)), (b2, .inl (cI, 40, .inl ak)), (b3, .inl (cI, 40, .inl bk)), (b4, .inl (cI, 40, .inl ck)), (b5, .inl (cI, 40, .inl sk)), (b6, .inl (cI, 16, .inl gn))]) hP hD hS hA [1, 2, 4, 5, 6, 7, 8, 9, 13, 19, 21, 22] [0, 3, 10, 11, 12, 14, 15, 16, 17, 18, 20, 23, 24, 25] rfl rfl (by decide) (by decide) [0, 14, 15, 1, 16, 17, 18, 19, 20, 21, 2, 3, 4, 22, 5, 6, 7, 8, 9, 23, 10, 24, 25, 11, 12, 13] (by decide) rfl (va_runV (As := [.int (nI kq), .int tk]) (rest := []) ⟨hx, hb, hml, hown, hts⟩ (k_settle l D cI cJ cZ H.size h hB q1 q2 q3 q4 q5 q6 q7 q8 q9 q10 q11 q12 q13 sq ca cb kz ra rb ga gb b1 b2 b3 b4 b5 b6 bz ak bk kq (by omega) tk) (cwV 2 hts gX2_keepWhatStands_X3_settle rfl rfl rfl (by decide +kernel) ⟨Nat.le_of_ble_eq_true rfl, Nat.le_of_ble_eq_true rfl⟩) ⟨bl_rw, va_recv hK (hP.sub (ws' := [(h, .inr (3, [.ref hB, .ref q1, .ref q2, .ref q3, .ref q4, .ref q5, .ref q6, .ref q7, .ref q8, .ref q9, .ref q10, .ref q11, .ref q12, .ref q13])), (q1, .inl (cI, 40, .inl sq)), (q3, .inl (cJ, 40, .inr (.inl ra))), (q4, .inl (cJ, 40, .inr (.inl rb))), (q5, .inl (cZ, 40, .inl ca)), (q6, .inl (cZ, 40, .inl cb)), (q7, .inl (cJ, 40, .inr (.inl ga))), (q8, .inl (cJ, 40, .inr (.inl gb))), (q12, .inl (cI, 40, .inl kz)), (hB, .inr (0, [.int bz, .ref b1, .ref b2, .ref b3, .ref b4, .ref b5, .ref b6])), (b2, .inl (cI, 40, .inl ak)), (b3, .inl (cI, 40, .inl bk))]) [1, 2, 4, 5, 6, 7, 8, 9, 13, 19, 21, 22] rfl) (ci := 3) (q0 := 0) rfl rfl, fun U hU hW => ⟨rfl, by rw [hU], by rw [hU]; exact (hP.sub (ws' := [(h, .inr (3, [.ref hB, .ref q1, .ref q2, .ref q3, .ref q4, .ref q5, .ref q6, .ref q7, .ref q8, .ref q9, .ref q10, .ref q11, .ref q12, .ref q13])), (q1, .inl (cI, 40, .inl sq)), (q3, .inl (cJ, 40, .inr (.inl ra))), (q4, .inl (cJ, 40, .inr (.inl rb))), (q5, .inl (cZ, 40, .inl ca)), (q6, .inl (cZ, 40, .inl cb)), (q7, .inl (cJ, 40, .inr (.inl ga))), (q8, .inl (cJ, 40, .inr (.inl gb))), (q12, .inl (cI, 40, .inl kz)), (hB, .inr (0, [.int bz, .ref b1, .ref b2, .ref b3, .ref b4, .ref b5, .ref b6])), (b2, .inl (cI, 40, .inl ak)), (b3, .inl (cI, 40, .inl bk))]) [1, 2, 4, 5, 6, 7, 8, 9, 13, 19, 21, 22] rfl), hE.warm2 hW, (hD.sub (ws' := [(h, .inr (3, [.ref hB, .ref q1, .ref q2, .ref q3, .ref q4, .ref q5, .ref q6, .ref q7, .ref q8, .ref q9, .ref q10, .ref q11, .ref q12, .ref q13])), (q1, .inl (cI, 40, .inl sq)), (q3, .inl (cJ, 40, .inr (.inl ra))), (q4, .inl (cJ, 40, .inr (.inl rb))), (q5, .inl (cZ, 40, .inl ca)), (q6, .inl (cZ, 40, .inl cb)), (q7, .inl (cJ, 40, .inr (.inl ga))), (q8, .inl (cJ, 40, .inr (.inl gb))), (q12, .inl (cI, 40, .inl kz)), (hB, .inr (0, [.int bz, .ref b1, .ref b2, .ref b3, .ref b4, .ref b5, .ref b6])), (b2, .inl (cI, 40, .inl ak)), (b3, .inl (cI, 40, .inl bk))]) [1, 2, 4, 5, 6, 7, 8, 9, 13, 19, 21, 22] (by decide) rfl).weaken (fun _ _ _ _ => trivial)⟩⟩ rfl rfl hl.1 rfl (lv_room (Nat.le_of_ble_eq_true rfl)) dX2_keepWhatStands_37 ⟨Nat.zero_le _, Nat.zero_le _⟩) (fun r37 hr37 H locs hP hD hS => ?_)
          refine lv_if_ne (tgt := 54) hx hb dX2_keepWhatStands_40 (by decide) (fun c40 => ?_) (fun c40 => ?_)
          · have e40 := if1_t (fun z => c40 (hr37.trans z))
            simp only [if_pos e40] at hP hD
            refine lv_aload_n hx hb dX2_keepWhatStands_54 rfl (lv_at hl 0 rfl) ?_
            refine lv_dup hx hb dX2_keepWhatStands_55 rfl ?_
            refine va_get (D := D) (ci := 2) (v := .int (nI kq)) (C := RX2) (T := TX2) (N := 13) hx hb hts hinX2 hown hK hP 0 rfl rfl 6 (by decide) (hts (.fieldLink RX2 38 "LedgerShares$Run" "kept" "I") (List.mem_of_getElem? (i := 1) rfl)) (fun _ h9 => h9) rfl dX2_keepWhatStands_56 ?_
            refine lv_iconst (v := 1) hx hb dX2_keepWhatStands_59 (by decide) ?_
            refine lv_iadd hx hb dX2_keepWhatStands_60 ?_
            refine x_topi (y := nI (kq + 1)) (nI_1 kq) ?_
            refine x_put (D := D) (ci := 2) (v := .int (nI (kq + 1))) (ty := .int) (C := RX2) (T := TX2) (N := 13) hx hb hts hinX2 tyX2 tyX2_ok nmX2 hown hK hP hD hS 0 rfl rfl 6 (by decide) (hts (.fieldLink RX2 38 "LedgerShares$Run" "kept" "I") (List.mem_of_getElem? (i := 1) rfl)) rfl (by decide +kernel) (rfl) (rfl) (Nat.le_of_ble_eq_true rfl) (ws' := [(u, .inr (2, [.ref hB, .ref h, .ref g, .int (nI cl), .int tk, .int (nI rm), .int (nI (kq + 1)), .int bg, .int an, .int dm, .int uw, .int mu, .int id_])), (h, .inr (3, [.ref hB, .ref q1, .ref q2, .ref q3, .ref q4, .ref q5, .ref q6, .ref q7, .ref q8, .ref q9, .ref q10, .ref q11, .ref q12, .ref q13])), (q1, .inl (cI, 40, .inl (upd sq kq 3))), (q2, .inl (cI, 40, .inl sl)), (q3, .inl (cJ, 40, .inr (.inl ra))), (q4, .inl (cJ, 40, .inr (.inl rb))), (q5, .inl (cZ, 40, .inl ca)), (q6, .inl (cZ, 40, .inl cb)), (q7, .inl (cJ, 40, .inr (.inl ga))), (q8, .inl (cJ, 40, .inr (.inl gb))), (q9, .inl (cI, 40, .inl oc)), (q10, .inl (cI, 40, .inl tb)), (q11, .inl (cI, 40, .inl fb)), (q12, .inl (cI, 40, .inl (upd kz kq tk))), (q13, .inl (cI, 40, .inl eb)), (g, .inr (1, [.int sd, .int (nI lf), .ref g1, .ref g2, .ref g3])), (g1, .inl (cI, 16, .inl pr)), (g2, .inl (cI, 16, .inl ho)), (g3, .inl (cI, 16, .inl be)), (hB, .inr (0, [.int bz, .ref b1, .ref b2, .ref b3, .ref b4, .ref b5, .ref b6])), (b1, .inl (cI, 40, .inl ok)), (b2, .inl (cI, 40, .inl ak)), (b3, .inl (cI, 40, .inl bk)), (b4, .inl (cI, 40, .inl ck)), (b5, .inl (cI, 40, .inl sk)), (b6, .inl (cI, 16, .inl gn))]) rfl dX2_keepWhatStands_61 (fun H locs hP hD hS => ?_)
            refine lv_goto (tgt := 0) hx hb dX2_keepWhatStands_64 (by decide) ?_
            exact ih0 (kq + 1) (upd sq kq 3) (upd kz kq tk) (by omega) (by omega) (by rw [hinv]; simp only [keepF, if_pos (show kq < cl ∧ sq kq = 2 from ⟨g8, g22⟩), if_pos e40]) _ _ ls hP hD hS (lv_sub hl [0] rfl)
          · have e40 := if1_f (hr37.symm.trans c40)
            simp only [if_neg e40] at hP hD
            refine lv_aload_n hx hb dX2_keepWhatStands_43 rfl (lv_at hl 0 rfl) ?_
            refine lv_dup hx hb dX2_keepWhatStands_44 rfl ?_
            refine va_get (D := D) (ci := 2) (v := .int an) (C := RX2) (T := TX2) (N := 13) hx hb hts hinX2 hown hK hP 0 rfl rfl 8 (by decide) (hts (.fieldLink RX2 80 "LedgerShares$Run" "anew" "I") (List.mem_of_getElem? (i := 5) rfl)) (fun _ h9 => h9) rfl dX2_keepWhatStands_45 ?_
            refine lv_iconst (v := 1) hx hb dX2_keepWhatStands_48 (by decide) ?_
            refine lv_iadd hx hb dX2_keepWhatStands_49 ?_
            refine x_put (D := D) (ci := 2) (v := .int (an + 1)) (ty := .int) (C := RX2) (T := TX2) (N := 13) hx hb hts hinX2 tyX2 tyX2_ok nmX2 hown hK hP hD hS 0 rfl rfl 8 (by decide) (hts (.fieldLink RX2 80 "LedgerShares$Run" "anew" "I") (List.mem_of_getElem? (i := 5) rfl)) rfl (by decide +kernel) (rfl) (rfl) (Nat.le_of_ble_eq_true rfl) (ws' := [(u, .inr (2, [.ref hB, .ref h, .ref g, .int (nI cl), .int tk, .int (nI rm), .int (nI kq), .int bg, .int (an + 1), .int dm, .int uw, .int mu, .int id_])), (h, .inr (3, [.ref hB, .ref q1, .ref q2, .ref q3, .ref q4, .ref q5, .ref q6, .ref q7, .ref q8, .ref q9, .ref q10, .ref q11, .ref q12, .ref q13])), (q1, .inl (cI, 40, .inl (upd sq kq 0))), (q2, .inl (cI, 40, .inl sl)), (q3, .inl (cJ, 40, .inr (.inl ra))), (q4, .inl (cJ, 40, .inr (.inl rb))), (q5, .inl (cZ, 40, .inl ca)), (q6, .inl (cZ, 40, .inl cb)), (q7, .inl (cJ, 40, .inr (.inl ga))), (q8, .inl (cJ, 40, .inr (.inl gb))), (q9, .inl (cI, 40, .inl oc)), (q10, .inl (cI, 40, .inl tb)), (q11, .inl (cI, 40, .inl fb)), (q12, .inl (cI, 40, .inl kz)), (q13, .inl (cI, 40, .inl eb)), (g, .inr (1, [.int sd, .int (nI lf), .ref g1, .ref g2, .ref g3])), (g1, .inl (cI, 16, .inl pr)), (g2, .inl (cI, 16, .inl ho)), (g3, .inl (cI, 16, .inl be)), (hB, .inr (0, [.int bz, .ref b1, .ref b2, .ref b3, .ref b4, .ref b5, .ref b6])), (b1, .inl (cI, 40, .inl ok)), (b2, .inl (cI, 40, .inl ak)), (b3, .inl (cI, 40, .inl bk)), (b4, .inl (cI, 40, .inl ck)), (b5, .inl (cI, 40, .inl sk)), (b6, .inl (cI, 16, .inl gn))]) rfl dX2_keepWhatStands_50 (fun H locs hP hD hS => ?_)
            have q : keepF cl ak bk 41 (kp, tk, bg, an, dm, uw, mu, id_, st, sl, ra, rb, ca, cb, ga, gb, oc, tb, fb, ka, eb, sd, lf, pr, ho, be) = (kq, tk, bg, an + 1, dm, uw, mu, id_, (upd sq kq 0), sl, ra, rb, ca, cb, ga, gb, oc, tb, fb, kz, eb, sd, lf, pr, ho, be) := by rw [hinv]; simp only [keepF, if_pos (show kq < cl ∧ sq kq = 2 from ⟨g8, g22⟩), if_neg e40]
            rw [q] at hc
            cases hc
            exact W.vret hx hb hr (fun t ht hW => ⟨⟨(), rfl, trivial, by rw [ht]; exact hP, by exact hD⟩, hS.F ht⟩) hS.2.2 dX2_keepWhatStands_53
  exact loop0 41 kp st ka hkp (by omega) rfl _ _ ls hP hD hS (lv_sub hl [0] rfl)
set_option maxHeartbeats 4000000 in
set_option maxRecDepth 100000 in
theorem k_total (l : Launch) (D : va_G) (cI cJ cZ : ClassId) (u h hB q1 q2 q3 q4 q5 q6 q7 q8 q9 q10 q11 q12 q13 g : Nat) (cl : Nat) (tk rmv kpv bg an dm uw mu id_ : Int32) (oc : Nat → Int32) (w : Int32) (hcl : cl ≤ 40) : Met l yX2_total wsX2_total ({ frames := 1, cells := 0, slots := 0, locals := 23 }) (PcRO [.ref u, .int w] D cI cJ cZ [(u, .inr (2, [.ref hB, .ref h, .ref g, .int (nI cl), .int tk, .int rmv, .int kpv, .int bg, .int an, .int dm, .int uw, .int mu, .int id_])), (h, .inr (3, [.ref hB, .ref q1, .ref q2, .ref q3, .ref q4, .ref q5, .ref q6, .ref q7, .ref q8, .ref q9, .ref q10, .ref q11, .ref q12, .ref q13])), (q9, .inl (cI, 40, .inl oc))]) (vp_Si (fun r => r = if w = 0 then nI cl else if w = 1 then tk else if w = 2 then bg else if w = 3 then an else if w = 4 then dm else if w = 5 then mu else if w = 6 then id_ else fails oc cl 41 0 0)) 0 0 noF := by
  refine Met.ofW (cc := cX2_total) (maxL := 2) (ret := some .int) (by decide) rfl ?_
  intro p e s m args below meth c s₁ B hml hv
  obtain ⟨rfl, hP, hE⟩ := hv
  have hx := B.exec
  have hb := B.bytes
  have hr := B.returns
  have hts := atoms_spec (ws := wsX2_total) B.pre
  have hown : s.vm.findClass RX2 = some m.cls := findClass_of_methodNamed B.named
  have hlocks := B.notSynchronized
  have hK := hE.1
  have hl := lv_entry ([.ref u, .int w]) (n := 2) (Nat.le_of_ble_eq_true rfl)
  rw [lg_entry_eq]
  generalize (lg_sl ([.ref u, .int w]) ++ List.replicate (2 - (lg_sl ([.ref u, .int w])).length) Slot.unset).toArray = ls at hl ⊢
  have hl : lv_has ls 2 [(0, .ref u), (1, .int w)] := hl
  have hinX2 : ∀ w ∈ u_ws RX2 TX2 13, w ∈ wsX2_total := fun _ h => List.mem_cons_of_mem _ (List.mem_append_left _ (List.mem_append_right _ h))
  refine lv_iload_n hx hb dX2_total_0 rfl (lv_at hl 1 rfl) ?_
  rcases sw6 w with e1 | e1 | e1 | e1 | e1 | e1 | e1 | ⟨n0, n1, n2, n3, n4, n5, n6, n7⟩
  · refine lv_tableIn (off := 43) (tgt := 44) hx hb dX2_total_1 (by rw [e1]; decide) (by rw [e1]; decide) (by rw [e1]; rfl) (by decide) ?_
    refine lv_aload_n hx hb dX2_total_44 rfl (lv_at hl 0 rfl) ?_
    refine va_get (D := D) (ci := 2) (v := .int (nI cl)) (C := RX2) (T := TX2) (N := 13) hx hb hts hinX2 hown hK hP 0 rfl rfl 3 (by decide) (hts (.fieldLink RX2 42 "LedgerShares$Run" "calls" "I") (List.mem_of_getElem? (i := 1) rfl)) (fun _ h9 => h9) rfl dX2_total_45 ?_
    exact W.iret hx hb hr (fun t ht hW => ⟨_, rfl, by simp [e1], ht⟩) (fun q h => by cases h) dX2_total_48
  · refine lv_tableIn (off := 48) (tgt := 49) hx hb dX2_total_1 (by rw [e1]; decide) (by rw [e1]; decide) (by rw [e1]; rfl) (by decide) ?_
    refine lv_aload_n hx hb dX2_total_49 rfl (lv_at hl 0 rfl) ?_
    refine va_get (D := D) (ci := 2) (v := .int tk) (C := RX2) (T := TX2) (N := 13) hx hb hts hinX2 hown hK hP 0 rfl rfl 4 (by decide) (hts (.fieldLink RX2 48 "LedgerShares$Run" "ticks" "I") (List.mem_of_getElem? (i := 2) rfl)) (fun _ h9 => h9) rfl dX2_total_50 ?_
    exact W.iret hx hb hr (fun t ht hW => ⟨_, rfl, by simp [e1], ht⟩) (fun q h => by cases h) dX2_total_53
  · refine lv_tableIn (off := 53) (tgt := 54) hx hb dX2_total_1 (by rw [e1]; decide) (by rw [e1]; decide) (by rw [e1]; rfl) (by decide) ?_
    refine lv_aload_n hx hb dX2_total_54 rfl (lv_at hl 0 rfl) ?_
    refine va_get (D := D) (ci := 2) (v := .int bg) (C := RX2) (T := TX2) (N := 13) hx hb hts hinX2 hown hK hP 0 rfl rfl 7 (by decide) (hts (.fieldLink RX2 77 "LedgerShares$Run" "begun" "I") (List.mem_of_getElem? (i := 3) rfl)) (fun _ h9 => h9) rfl dX2_total_55 ?_
    exact W.iret hx hb hr (fun t ht hW => ⟨_, rfl, by simp [e1], ht⟩) (fun q h => by cases h) dX2_total_58
  · refine lv_tableIn (off := 58) (tgt := 59) hx hb dX2_total_1 (by rw [e1]; decide) (by rw [e1]; decide) (by rw [e1]; rfl) (by decide) ?_
    refine lv_aload_n hx hb dX2_total_59 rfl (lv_at hl 0 rfl) ?_
    refine va_get (D := D) (ci := 2) (v := .int an) (C := RX2) (T := TX2) (N := 13) hx hb hts hinX2 hown hK hP 0 rfl rfl 8 (by decide) (hts (.fieldLink RX2 80 "LedgerShares$Run" "anew" "I") (List.mem_of_getElem? (i := 4) rfl)) (fun _ h9 => h9) rfl dX2_total_60 ?_
    exact W.iret hx hb hr (fun t ht hW => ⟨_, rfl, by simp [e1], ht⟩) (fun q h => by cases h) dX2_total_63
  · refine lv_tableIn (off := 63) (tgt := 64) hx hb dX2_total_1 (by rw [e1]; decide) (by rw [e1]; decide) (by rw [e1]; rfl) (by decide) ?_
    refine lv_aload_n hx hb dX2_total_64 rfl (lv_at hl 0 rfl) ?_
    refine va_get (D := D) (ci := 2) (v := .int dm) (C := RX2) (T := TX2) (N := 13) hx hb hts hinX2 hown hK hP 0 rfl rfl 9 (by decide) (hts (.fieldLink RX2 83 "LedgerShares$Run" "dismissed" "I") (List.mem_of_getElem? (i := 5) rfl)) (fun _ h9 => h9) rfl dX2_total_65 ?_
    exact W.iret hx hb hr (fun t ht hW => ⟨_, rfl, by simp [e1], ht⟩) (fun q h => by cases h) dX2_total_68
  · refine lv_tableIn (off := 68) (tgt := 69) hx hb dX2_total_1 (by rw [e1]; decide) (by rw [e1]; decide) (by rw [e1]; rfl) (by decide) ?_
    refine lv_aload_n hx hb dX2_total_69 rfl (lv_at hl 0 rfl) ?_
    refine va_get (D := D) (ci := 2) (v := .int mu) (C := RX2) (T := TX2) (N := 13) hx hb hts hinX2 hown hK hP 0 rfl rfl 11 (by decide) (hts (.fieldLink RX2 62 "LedgerShares$Run" "mostUnderWay" "I") (List.mem_of_getElem? (i := 6) rfl)) (fun _ h9 => h9) rfl dX2_total_70 ?_
    exact W.iret hx hb hr (fun t ht hW => ⟨_, rfl, by simp [e1], ht⟩) (fun q h => by cases h) dX2_total_73
  · refine lv_tableIn (off := 73) (tgt := 74) hx hb dX2_total_1 (by rw [e1]; decide) (by rw [e1]; decide) (by rw [e1]; rfl) (by decide) ?_
    refine lv_aload_n hx hb dX2_total_74 rfl (lv_at hl 0 rfl) ?_
    refine va_get (D := D) (ci := 2) (v := .int id_) (C := RX2) (T := TX2) (N := 13) hx hb hts hinX2 hown hK hP 0 rfl rfl 12 (by decide) (hts (.fieldLink RX2 86 "LedgerShares$Run" "idle" "I") (List.mem_of_getElem? (i := 7) rfl)) (fun _ h9 => h9) rfl dX2_total_75 ?_
    exact W.iret hx hb hr (fun t ht hW => ⟨_, rfl, by simp [e1], ht⟩) (fun q h => by cases h) dX2_total_78
  · refine lv_tableOut (tgt := 79) hx hb dX2_total_1 (n7) (by decide) ?_
    refine lv_aload_n hx hb dX2_total_79 rfl (lv_at hl 0 rfl) ?_
    refine va_get (D := D) (ci := 2) (v := .ref h) (C := RX2) (T := TX2) (N := 13) hx hb hts hinX2 hown hK hP 0 rfl rfl 1 (by decide) (hts (.fieldLink RX2 27 "LedgerShares$Run" "sheet" "LLedgerShares$Sheet;") (List.mem_of_getElem? (i := 8) rfl)) (fun _ h9 => h9) rfl dX2_total_80 ?_
    refine lv_aload_n hx hb dX2_total_83 rfl (lv_at hl 0 rfl) ?_
    refine va_get (D := D) (ci := 2) (v := .int (nI cl)) (C := RX2) (T := TX2) (N := 13) hx hb hts hinX2 hown hK hP 0 rfl rfl 3 (by decide) (hts (.fieldLink RX2 42 "LedgerShares$Run" "calls" "I") (List.mem_of_getElem? (i := 1) rfl)) (fun _ h9 => h9) rfl dX2_total_84 ?_
    refine vp_callSi (va_Run.run (va_runV (As := [.int (nI cl)]) (rest := []) ⟨hx, hb, hml, hown, hts⟩ (k_failures l D cI cJ cZ h hB q1 q2 q3 q4 q5 q6 q7 q8 q9 q10 q11 q12 q13 oc cl hcl) (cwV 1 hts gX2_total_X3_failures rfl rfl rfl (by decide +kernel) ⟨Nat.le_of_ble_eq_true rfl, Nat.le_of_ble_eq_true rfl⟩) ⟨bl_ro, va_recv hK (hP.sub (ws' := [(h, .inr (3, [.ref hB, .ref q1, .ref q2, .ref q3, .ref q4, .ref q5, .ref q6, .ref q7, .ref q8, .ref q9, .ref q10, .ref q11, .ref q12, .ref q13])), (q9, .inl (cI, 40, .inl oc))]) [1, 2] rfl) (ci := 3) (q0 := 0) rfl rfl, fun U hU hW => ⟨rfl, by rw [hU]; exact (hP.sub (ws' := [(h, .inr (3, [.ref hB, .ref q1, .ref q2, .ref q3, .ref q4, .ref q5, .ref q6, .ref q7, .ref q8, .ref q9, .ref q10, .ref q11, .ref q12, .ref q13])), (q9, .inl (cI, 40, .inl oc))]) [1, 2] rfl), hE.warm2 hW⟩⟩ rfl rfl hl.1 rfl (lv_room (Nat.le_of_ble_eq_true rfl)) dX2_total_87 ⟨Nat.zero_le _, Nat.zero_le _⟩)) (fun r87 hr87 => ?_)
    exact W.iret hx hb hr (fun t ht hW => ⟨_, rfl, by simp [n0, n1, n2, n3, n4, n5, n6, hr87], ht⟩) (fun q h => by cases h) dX2_total_90
end
section
set_option maxHeartbeats 4000000 in
set_option maxRecDepth 100000 in
theorem k_goes (l : Launch) (D : va_G) (cI cJ cZ : ClassId) (sz : Nat) (u h hB q1 q2 q3 q4 q5 q6 q7 q8 q9 q10 q11 q12 q13 g g1 g2 g3 b1 b2 b3 b4 b5 b6 : Nat) (bz : Int32) (ak bk sk gn ok ck : Nat → Int32) (cl rm wk : Nat) (seed : Int32) (o1 o2 o3 o4 o5 o6 o7 o8 o9 o10 sd0 lf0 : Int32) (st : Nat → Int32) (sl : Nat → Int32) (ra : Nat → Int64) (rb : Nat → Int64) (ca : Nat → Int32) (cb : Nat → Int32) (ga : Nat → Int64) (gb : Nat → Int64) (oc : Nat → Int32) (tb : Nat → Int32) (fb : Nat → Int32) (ka : Nat → Int32) (eb : Nat → Int32) (pr : Nat → Int32) (ho : Nat → Int32) (be : Nat → Int32) (kp1 : Nat) (tk1 : Int32) (bg1 : Int32) (an1 : Int32) (dm1 : Int32) (uw1 : Int32) (mu1 : Int32) (id_1 : Int32) (st1 : Nat → Int32) (sl1 : Nat → Int32) (ra1 : Nat → Int64) (rb1 : Nat → Int64) (ca1 : Nat → Int32) (cb1 : Nat → Int32) (ga1 : Nat → Int64) (gb1 : Nat → Int64) (oc1 : Nat → Int32) (tb1 : Nat → Int32) (fb1 : Nat → Int32) (ka1 : Nat → Int32) (eb1 : Nat → Int32) (sd1 : Int32) (lf1 : Nat) (pr1 : Nat → Int32) (ho1 : Nat → Int32) (be1 : Nat → Int32) (hcl : cl ≤ 40) (hrm : rm ≤ 40) (hwk : 1 ≤ wk ∧ wk ≤ 16) (hho : ∀ w, w < 16 → ho w = -1 ∨ ∃ k, k < 40 ∧ ho w = nI k) (hc : runF cl rm ak bk sk gn ok ck wk seed (0, 0, 0, 0, 0, 0, 0, 0, st, sl, ra, rb, ca, cb, ga, gb, oc, tb, fb, ka, eb, 0, 0, pr, ho, be) = (kp1, tk1, bg1, an1, dm1, uw1, mu1, id_1, st1, sl1, ra1, rb1, ca1, cb1, ga1, gb1, oc1, tb1, fb1, ka1, eb1, sd1, lf1, pr1, ho1, be1)) : Met l yX2_goesThrough wsX2_goesThrough ({ frames := 5, cells := 0, slots := 0, locals := 121 }) (PcRW [.ref u, .int (nI cl), .int (nI wk), .int seed, .int (nI rm)] sz D cI cJ cZ [(u, .inr (2, [.ref hB, .ref h, .ref g, .int o1, .int o2, .int o3, .int o4, .int o5, .int o6, .int o7, .int o8, .int o9, .int o10])), (h, .inr (3, [.ref hB, .ref q1, .ref q2, .ref q3, .ref q4, .ref q5, .ref q6, .ref q7, .ref q8, .ref q9, .ref q10, .ref q11, .ref q12, .ref q13])), (q1, .inl (cI, 40, .inl st)), (q2, .inl (cI, 40, .inl sl)), (q3, .inl (cJ, 40, .inr (.inl ra))), (q4, .inl (cJ, 40, .inr (.inl rb))), (q5, .inl (cZ, 40, .inl ca)), (q6, .inl (cZ, 40, .inl cb)), (q7, .inl (cJ, 40, .inr (.inl ga))), (q8, .inl (cJ, 40, .inr (.inl gb))), (q9, .inl (cI, 40, .inl oc)), (q10, .inl (cI, 40, .inl tb)), (q11, .inl (cI, 40, .inl fb)), (q12, .inl (cI, 40, .inl ka)), (q13, .inl (cI, 40, .inl eb)), (g, .inr (1, [.int sd0, .int lf0, .ref g1, .ref g2, .ref g3])), (g1, .inl (cI, 16, .inl pr)), (g2, .inl (cI, 16, .inl ho)), (g3, .inl (cI, 16, .inl be)), (hB, .inr (0, [.int bz, .ref b1, .ref b2, .ref b3, .ref b4, .ref b5, .ref b6])), (b1, .inl (cI, 40, .inl ok)), (b2, .inl (cI, 40, .inl ak)), (b3, .inl (cI, 40, .inl bk)), (b4, .inl (cI, 40, .inl ck)), (b5, .inl (cI, 40, .inl sk)), (b6, .inl (cI, 16, .inl gn))]) (QcI (fun r => r = if kp1 = cl then 1 else 0) D (va_A [(u, .inr (2, [.ref hB, .ref h, .ref g, .int o1, .int o2, .int o3, .int o4, .int o5, .int o6, .int o7, .int o8, .int o9, .int o10])), (h, .inr (3, [.ref hB, .ref q1, .ref q2, .ref q3, .ref q4, .ref q5, .ref q6, .ref q7, .ref q8, .ref q9, .ref q10, .ref q11, .ref q12, .ref q13])), (q1, .inl (cI, 40, .inl st)), (q2, .inl (cI, 40, .inl sl)), (q3, .inl (cJ, 40, .inr (.inl ra))), (q4, .inl (cJ, 40, .inr (.inl rb))), (q5, .inl (cZ, 40, .inl ca)), (q6, .inl (cZ, 40, .inl cb)), (q7, .inl (cJ, 40, .inr (.inl ga))), (q8, .inl (cJ, 40, .inr (.inl gb))), (q9, .inl (cI, 40, .inl oc)), (q10, .inl (cI, 40, .inl tb)), (q11, .inl (cI, 40, .inl fb)), (q12, .inl (cI, 40, .inl ka)), (q13, .inl (cI, 40, .inl eb)), (g, .inr (1, [.int sd0, .int lf0, .ref g1, .ref g2, .ref g3])), (g1, .inl (cI, 16, .inl pr)), (g2, .inl (cI, 16, .inl ho)), (g3, .inl (cI, 16, .inl be)), (hB, .inr (0, [.int bz, .ref b1, .ref b2, .ref b3, .ref b4, .ref b5, .ref b6])), (b1, .inl (cI, 40, .inl ok)), (b2, .inl (cI, 40, .inl ak)), (b3, .inl (cI, 40, .inl bk)), (b4, .inl (cI, 40, .inl ck)), (b5, .inl (cI, 40, .inl sk)), (b6, .inl (cI, 16, .inl gn))] sz) [(u, .inr (2, [.ref hB, .ref h, .ref g, .int (nI cl), .int tk1, .int (nI rm), .int (nI kp1), .int bg1, .int an1, .int dm1, .int uw1, .int mu1, .int id_1])), (h, .inr (3, [.ref hB, .ref q1, .ref q2, .ref q3, .ref q4, .ref q5, .ref q6, .ref q7, .ref q8, .ref q9, .ref q10, .ref q11, .ref q12, .ref q13])), (q1, .inl (cI, 40, .inl st1)), (q2, .inl (cI, 40, .inl sl1)), (q3, .inl (cJ, 40, .inr (.inl ra1))), (q4, .inl (cJ, 40, .inr (.inl rb1))), (q5, .inl (cZ, 40, .inl ca1)), (q6, .inl (cZ, 40, .inl cb1)), (q7, .inl (cJ, 40, .inr (.inl ga1))), (q8, .inl (cJ, 40, .inr (.inl gb1))), (q9, .inl (cI, 40, .inl oc1)), (q10, .inl (cI, 40, .inl tb1)), (q11, .inl (cI, 40, .inl fb1)), (q12, .inl (cI, 40, .inl ka1)), (q13, .inl (cI, 40, .inl eb1)), (g, .inr (1, [.int sd1, .int (nI lf1), .ref g1, .ref g2, .ref g3])), (g1, .inl (cI, 16, .inl pr1)), (g2, .inl (cI, 16, .inl ho1)), (g3, .inl (cI, 16, .inl be1)), (hB, .inr (0, [.int bz, .ref b1, .ref b2, .ref b3, .ref b4, .ref b5, .ref b6])), (b1, .inl (cI, 40, .inl ok)), (b2, .inl (cI, 40, .inl ak)), (b3, .inl (cI, 40, .inl bk)), (b4, .inl (cI, 40, .inl ck)), (b5, .inl (cI, 40, .inl sk)), (b6, .inl (cI, 16, .inl gn))]) 0 0 (va_A [(u, .inr (2, [.ref hB, .ref h, .ref g, .int o1, .int o2, .int o3, .int o4, .int o5, .int o6, .int o7, .int o8, .int o9, .int o10])), (h, .inr (3, [.ref hB, .ref q1, .ref q2, .ref q3, .ref q4, .ref q5, .ref q6, .ref q7, .ref q8, .ref q9, .ref q10, .ref q11, .ref q12, .ref q13])), (q1, .inl (cI, 40, .inl st)), (q2, .inl (cI, 40, .inl sl)), (q3, .inl (cJ, 40, .inr (.inl ra))), (q4, .inl (cJ, 40, .inr (.inl rb))), (q5, .inl (cZ, 40, .inl ca)), (q6, .inl (cZ, 40, .inl cb)), (q7, .inl (cJ, 40, .inr (.inl ga))), (q8, .inl (cJ, 40, .inr (.inl gb))), (q9, .inl (cI, 40, .inl oc)), (q10, .inl (cI, 40, .inl tb)), (q11, .inl (cI, 40, .inl fb)), (q12, .inl (cI, 40, .inl ka)), (q13, .inl (cI, 40, .inl eb)), (g, .inr (1, [.int sd0, .int lf0, .ref g1, .ref g2, .ref g3])), (g1, .inl (cI, 16, .inl pr)), (g2, .inl (cI, 16, .inl ho)), (g3, .inl (cI, 16, .inl be)), (hB, .inr (0, [.int bz, .ref b1, .ref b2, .ref b3, .ref b4, .ref b5, .ref b6])), (b1, .inl (cI, 40, .inl ok)), (b2, .inl (cI, 40, .inl ak)), (b3, .inl (cI, 40, .inl bk)), (b4, .inl (cI, 40, .inl ck)), (b5, .inl (cI, 40, .inl sk)), (b6, .inl (cI, 16, .inl gn))] sz) := by
  refine Met.ofW (cc := cX2_goesThrough) (maxL := 6) (ret := some .boolean) (by decide) rfl ?_
  intro p e s m args below meth c s₁ B hml hv
  obtain ⟨rfl, hsz, hP, hE, hD0⟩ := hv
  have hx := B.exec
  have hb := B.bytes
  have hr := B.returns
  have hts := atoms_spec (ws := wsX2_goesThrough) B.pre
  have hown : s.vm.findClass RX2 = some m.cls := findClass_of_methodNamed B.named
  have hlocks := B.notSynchronized
  have hK := hE.1
  subst hsz
  have hD := hD0.self (sz := s.heap.size)
  generalize hAe : va_A [(u, .inr (2, [.ref hB, .ref h, .ref g, .int o1, .int o2, .int o3, .int o4, .int o5, .int o6, .int o7, .int o8, .int o9, .int o10])), (h, .inr (3, [.ref hB, .ref q1, .ref q2, .ref q3, .ref q4, .ref q5, .ref q6, .ref q7, .ref q8, .ref q9, .ref q10, .ref q11, .ref q12, .ref q13])), (q1, .inl (cI, 40, .inl st)), (q2, .inl (cI, 40, .inl sl)), (q3, .inl (cJ, 40, .inr (.inl ra))), (q4, .inl (cJ, 40, .inr (.inl rb))), (q5, .inl (cZ, 40, .inl ca)), (q6, .inl (cZ, 40, .inl cb)), (q7, .inl (cJ, 40, .inr (.inl ga))), (q8, .inl (cJ, 40, .inr (.inl gb))), (q9, .inl (cI, 40, .inl oc)), (q10, .inl (cI, 40, .inl tb)), (q11, .inl (cI, 40, .inl fb)), (q12, .inl (cI, 40, .inl ka)), (q13, .inl (cI, 40, .inl eb)), (g, .inr (1, [.int sd0, .int lf0, .ref g1, .ref g2, .ref g3])), (g1, .inl (cI, 16, .inl pr)), (g2, .inl (cI, 16, .inl ho)), (g3, .inl (cI, 16, .inl be)), (hB, .inr (0, [.int bz, .ref b1, .ref b2, .ref b3, .ref b4, .ref b5, .ref b6])), (b1, .inl (cI, 40, .inl ok)), (b2, .inl (cI, 40, .inl ak)), (b3, .inl (cI, 40, .inl bk)), (b4, .inl (cI, 40, .inl ck)), (b5, .inl (cI, 40, .inl sk)), (b6, .inl (cI, 16, .inl gn))] s.heap.size = A at hD ⊢
  have hA : ∀ q : Nat, s.heap.size ≤ q → A q := fun q h => by rw [← hAe]; exact Or.inr h
  have hS : va_S A s.heap s.heap [] := va_S.rf
  have hl := lv_entry ([.ref u, .int (nI cl), .int (nI wk), .int seed, .int (nI rm)]) (n := 6) (Nat.le_of_ble_eq_true rfl)
  rw [lg_entry_eq]
  generalize (lg_sl ([.ref u, .int (nI cl), .int (nI wk), .int seed, .int (nI rm)]) ++ List.replicate (6 - (lg_sl ([.ref u, .int (nI cl), .int (nI wk), .int seed, .int (nI rm)])).length) Slot.unset).toArray = ls at hl ⊢
  have hl : lv_has ls 6 [(0, .ref u), (1, .int (nI cl)), (2, .int (nI wk)), (3, .int seed), (4, .int (nI rm))] := hl
  have hinX1 : ∀ w ∈ u_ws RX1 TX1 5, w ∈ wsX2_goesThrough := fun _ h => List.mem_cons_of_mem _ (List.mem_append_left _ (List.mem_append_left _ (List.mem_append_right _ h)))
  have hinX2 : ∀ w ∈ u_ws RX2 TX2 13, w ∈ wsX2_goesThrough := fun _ h => List.mem_cons_of_mem _ (List.mem_append_left _ (List.mem_append_left _ (List.mem_append_left _ (List.mem_append_right _ h))))
  refine lv_aload_n hx hb dX2_goesThrough_0 rfl (lv_at hl 0 rfl) ?_
  refine lv_iload_n hx hb dX2_goesThrough_1 rfl (lv_at hl 1 rfl) ?_
  refine lv_iload hx hb dX2_goesThrough_2 (lv_at hl 4 rfl) ?_
  refine x_callv (wc := [(u, .inr (2, [.ref hB, .ref h, .ref g, .int o1, .int o2, .int o3, .int o4, .int o5, .int o6, .int o7, .int o8, .int o9, .int o10])), (h, .inr (3, [.ref hB, .ref q1, .ref q2, .ref q3, .ref q4, .ref q5, .ref q6, .ref q7, .ref q8, .ref q9, .ref q10, .ref q11, .ref q12, .ref q13])), (q1, .inl (cI, 40, .inl st)), (q9, .inl (cI, 40, .inl oc)), (q10, .inl (cI, 40, .inl tb)), (q11, .inl (cI, 40, .inl fb)), (q12, .inl (cI, 40, .inl ka)), (q13, .inl (cI, 40, .inl eb))]) (wc' := [(u, .inr (2, [.ref hB, .ref h, .ref g, .int (nI cl), .int 0, .int (nI rm), .int 0, .int 0, .int 0, .int 0, .int 0, .int 0, .int 0])), (h, .inr (3, [.ref hB, .ref q1, .ref q2, .ref q3, .ref q4, .ref q5, .ref q6, .ref q7, .ref q8, .ref q9, .ref q10, .ref q11, .ref q12, .ref q13])), (q1, .inl (cI, 40, .inl (fillTo st 40 (0)))), (q9, .inl (cI, 40, .inl (fillTo oc 40 (0)))), (q10, .inl (cI, 40, .inl (fillTo tb 40 (0)))), (q11, .inl (cI, 40, .inl (fillTo fb 40 (-1)))), (q12, .inl (cI, 40, .inl (fillTo ka 40 (-1)))), (q13, .inl (cI, 40, .inl (fillTo eb 40 (-1))))]) (wr := [(q2, .inl (cI, 40, .inl sl)), (q3, .inl (cJ, 40, .inr (.inl ra))), (q4, .inl (cJ, 40, .inr (.inl rb))), (q5, .inl (cZ, 40, .inl ca)), (q6, .inl (cZ, 40, .inl cb)), (q7, .inl (cJ, 40, .inr (.inl ga))), (q8, .inl (cJ, 40, .inr (.inl gb))), (g, .inr (1, [.int sd0, .int lf0, .ref g1, .ref g2, .ref g3])), (g1, .inl (cI, 16, .inl pr)), (g2, .inl (cI, 16, .inl ho)), (g3, .inl (cI, 16, .inl be)), (hB, .inr (0, [.int bz, .ref b1, .ref b2, .ref b3, .ref b4, .ref b5, .ref b6])), (b1, .inl (cI, 40, .inl ok)), (b2, .inl (cI, 40, .inl ak)), (b3, .inl (cI, 40, .inl bk)), (b4, .inl (cI, 40, .inl ck)), (b5, .inl (cI, 40, .inl sk)), (b6, .inl (cI, 16, .inl gn))]) (ws' := [(u, .inr (2, [.ref hB, .ref h, .ref g, .int (nI cl), .int 0, .int (nI rm), .int 0, .int 0, .int 0, .int 0, .int 0, .int 0, .int 0])), (h, .inr (3, [.ref hB, .ref q1, .ref q2, .ref q3, .ref q4, .ref q5, .ref q6, .ref q7, .ref q8, .ref q9, .ref q10, .ref q11, .ref q12, .ref q13])), (q1, .inl (cI, 40, .inl (fillTo st 40 (0)))), (q2, .inl (cI, 40, .inl sl)), (q3, .inl (cJ, 40, .inr (.inl ra))), (q4, .inl (cJ, 40, .inr (.inl rb))), (q5, .inl (cZ, 40, .inl ca)), (q6, .inl (cZ, 40, .inl cb)), (q7, .inl (cJ, 40, .inr (.inl ga))), (q8, .inl (cJ, 40, .inr (.inl gb))), (q9, .inl (cI, 40, .inl (fillTo oc 40 (0)))), (q10, .inl (cI, 40, .inl (fillTo tb 40 (0)))), (q11, .inl (cI, 40, .inl (fillTo fb 40 (-1)))), (q12, .inl (cI, 40, .inl (fillTo ka 40 (-1)))), (q13, .inl (cI, 40, .inl (fillTo eb 40 (-1)))), (g, .inr (1, [.int sd0, .int lf0, .ref g1, .ref g2, .ref g3])), (g1, .inl (cI, 16, .inl pr)), (g2, .inl (cI, 16, .inl ho)), (g3, .inl (cI, 16, .inl be)), (hB, .inr (0, [.int bz, .ref b1, .ref b2, .ref b3, .ref b4, .ref b5, .ref b6])), (b1, .inl (cI, 40, .inl ok)), (b2, .inl (cI, 40, .inl ak)), (b3, .inl (cI, 40, .inl bk)), (b4, .inl (cI, 40, .inl ck)), (b5, .inl (cI, 40, .inl sk)), (b6, .inl (cI, 16, .inl gn))]) hP hD hS hA [0, 1, 2, 10, 11, 12, 13, 14] [3, 4, 5, 6, 7, 8, 9, 15, 16, 17, 18, 19, 20, 21, 22, 23, 24, 25] rfl rfl (by decide) (by decide) [18, 19, 20, 0, 1, 2, 3, 4, 5, 6, 21, 22, 23, 24, 25, 7, 8, 9, 10, 11, 12, 13, 14, 15, 16, 17] (by decide) rfl (va_runV (As := [.int (nI cl), .int (nI rm)]) (rest := []) ⟨hx, hb, hml, hown, hts⟩ (k_prepare l D cI cJ cZ s.heap.size u h hB q1 q2 q3 q4 q5 q6 q7 q8 q9 q10 q11 q12 q13 g o1 o2 o3 o4 o5 o6 o7 o8 o9 o10 st oc tb fb ka eb (nI cl) (nI rm)) (cwV 2 hts gX2_goesThrough_X2_prepare rfl rfl rfl (by decide +kernel) ⟨Nat.le_of_ble_eq_true rfl, Nat.le_of_ble_eq_true rfl⟩) ⟨bl_rw, va_recv hK (hP.sub (ws' := [(u, .inr (2, [.ref hB, .ref h, .ref g, .int o1, .int o2, .int o3, .int o4, .int o5, .int o6, .int o7, .int o8, .int o9, .int o10])), (h, .inr (3, [.ref hB, .ref q1, .ref q2, .ref q3, .ref q4, .ref q5, .ref q6, .ref q7, .ref q8, .ref q9, .ref q10, .ref q11, .ref q12, .ref q13])), (q1, .inl (cI, 40, .inl st)), (q9, .inl (cI, 40, .inl oc)), (q10, .inl (cI, 40, .inl tb)), (q11, .inl (cI, 40, .inl fb)), (q12, .inl (cI, 40, .inl ka)), (q13, .inl (cI, 40, .inl eb))]) [0, 1, 2, 10, 11, 12, 13, 14] rfl) (ci := 2) (q0 := 0) rfl rfl, fun U hU hW => ⟨rfl, by rw [hU], by rw [hU]; exact (hP.sub (ws' := [(u, .inr (2, [.ref hB, .ref h, .ref g, .int o1, .int o2, .int o3, .int o4, .int o5, .int o6, .int o7, .int o8, .int o9, .int o10])), (h, .inr (3, [.ref hB, .ref q1, .ref q2, .ref q3, .ref q4, .ref q5, .ref q6, .ref q7, .ref q8, .ref q9, .ref q10, .ref q11, .ref q12, .ref q13])), (q1, .inl (cI, 40, .inl st)), (q9, .inl (cI, 40, .inl oc)), (q10, .inl (cI, 40, .inl tb)), (q11, .inl (cI, 40, .inl fb)), (q12, .inl (cI, 40, .inl ka)), (q13, .inl (cI, 40, .inl eb))]) [0, 1, 2, 10, 11, 12, 13, 14] rfl), hE.warm2 hW, (hD.sub (ws' := [(u, .inr (2, [.ref hB, .ref h, .ref g, .int o1, .int o2, .int o3, .int o4, .int o5, .int o6, .int o7, .int o8, .int o9, .int o10])), (h, .inr (3, [.ref hB, .ref q1, .ref q2, .ref q3, .ref q4, .ref q5, .ref q6, .ref q7, .ref q8, .ref q9, .ref q10, .ref q11, .ref q12, .ref q13])), (q1, .inl (cI, 40, .inl st)), (q9, .inl (cI, 40, .inl oc)), (q10, .inl (cI, 40, .inl tb)), (q11, .inl (cI, 40, .inl fb)), (q12, .inl (cI, 40, .inl ka)), (q13, .inl (cI, 40, .inl eb))]) [0, 1, 2, 10, 11, 12, 13, 14] (by decide) rfl).weaken (fun _ _ _ _ => trivial)⟩⟩ rfl rfl hl.1 rfl (lv_room (Nat.le_of_ble_eq_true rfl)) dX2_goesThrough_4 ⟨Nat.zero_le _, Nat.zero_le _⟩) (fun H locs hP hD hS => ?_)
  refine lv_aload_n hx hb dX2_goesThrough_7 rfl (lv_at hl 0 rfl) ?_
  refine va_get (D := D) (ci := 2) (v := .ref g) (C := RX2) (T := TX2) (N := 13) hx hb hts hinX2 hown hK hP 0 rfl rfl 2 (by decide) (hts (.fieldLink RX2 12 "LedgerShares$Run" "crew" "LLedgerShares$Crew;") (List.mem_of_getElem? (i := 1) rfl)) (fun _ h9 => h9) rfl dX2_goesThrough_8 ?_
  refine lv_iload_n hx hb dX2_goesThrough_11 rfl (lv_at hl 2 rfl) ?_
  refine lv_iload_n hx hb dX2_goesThrough_12 rfl (lv_at hl 3 rfl) ?_
  refine x_callv (wc := [(g, .inr (1, [.int sd0, .int lf0, .ref g1, .ref g2, .ref g3])), (g1, .inl (cI, 16, .inl pr)), (g2, .inl (cI, 16, .inl ho)), (g3, .inl (cI, 16, .inl be))]) (wc' := [(g, .inr (1, [.int seed, .int (nI wk), .ref g1, .ref g2, .ref g3])), (g1, .inl (cI, 16, .inl (mapTo pr wk nI))), (g2, .inl (cI, 16, .inl (fillTo ho wk (-1)))), (g3, .inl (cI, 16, .inl (fillTo be wk 0)))]) (wr := [(u, .inr (2, [.ref hB, .ref h, .ref g, .int (nI cl), .int 0, .int (nI rm), .int 0, .int 0, .int 0, .int 0, .int 0, .int 0, .int 0])), (h, .inr (3, [.ref hB, .ref q1, .ref q2, .ref q3, .ref q4, .ref q5, .ref q6, .ref q7, .ref q8, .ref q9, .ref q10, .ref q11, .ref q12, .ref q13])), (q1, .inl (cI, 40, .inl (fillTo st 40 (0)))), (q2, .inl (cI, 40, .inl sl)), (q3, .inl (cJ, 40, .inr (.inl ra))), (q4, .inl (cJ, 40, .inr (.inl rb))), (q5, .inl (cZ, 40, .inl ca)), (q6, .inl (cZ, 40, .inl cb)), (q7, .inl (cJ, 40, .inr (.inl ga))), (q8, .inl (cJ, 40, .inr (.inl gb))), (q9, .inl (cI, 40, .inl (fillTo oc 40 (0)))), (q10, .inl (cI, 40, .inl (fillTo tb 40 (0)))), (q11, .inl (cI, 40, .inl (fillTo fb 40 (-1)))), (q12, .inl (cI, 40, .inl (fillTo ka 40 (-1)))), (q13, .inl (cI, 40, .inl (fillTo eb 40 (-1)))), (hB, .inr (0, [.int bz, .ref b1, .ref b2, .ref b3, .ref b4, .ref b5, .ref b6])), (b1, .inl (cI, 40, .inl ok)), (b2, .inl (cI, 40, .inl ak)), (b3, .inl (cI, 40, .inl bk)), (b4, .inl (cI, 40, .inl ck)), (b5, .inl (cI, 40, .inl sk)), (b6, .inl (cI, 16, .inl gn))]) (ws' := [(u, .inr (2, [.ref hB, .ref h, .ref g, .int (nI cl), .int 0, .int (nI rm), .int 0, .int 0, .int 0, .int 0, .int 0, .int 0, .int 0])), (h, .inr (3, [.ref hB, .ref q1, .ref q2, .ref q3, .ref q4, .ref q5, .ref q6, .ref q7, .ref q8, .ref q9, .ref q10, .ref q11, .ref q12, .ref q13])), (q1, .inl (cI, 40, .inl (fillTo st 40 (0)))), (q2, .inl (cI, 40, .inl sl)), (q3, .inl (cJ, 40, .inr (.inl ra))), (q4, .inl (cJ, 40, .inr (.inl rb))), (q5, .inl (cZ, 40, .inl ca)), (q6, .inl (cZ, 40, .inl cb)), (q7, .inl (cJ, 40, .inr (.inl ga))), (q8, .inl (cJ, 40, .inr (.inl gb))), (q9, .inl (cI, 40, .inl (fillTo oc 40 (0)))), (q10, .inl (cI, 40, .inl (fillTo tb 40 (0)))), (q11, .inl (cI, 40, .inl (fillTo fb 40 (-1)))), (q12, .inl (cI, 40, .inl (fillTo ka 40 (-1)))), (q13, .inl (cI, 40, .inl (fillTo eb 40 (-1)))), (g, .inr (1, [.int seed, .int (nI wk), .ref g1, .ref g2, .ref g3])), (g1, .inl (cI, 16, .inl (mapTo pr wk nI))), (g2, .inl (cI, 16, .inl (fillTo ho wk (-1)))), (g3, .inl (cI, 16, .inl (fillTo be wk 0))), (hB, .inr (0, [.int bz, .ref b1, .ref b2, .ref b3, .ref b4, .ref b5, .ref b6])), (b1, .inl (cI, 40, .inl ok)), (b2, .inl (cI, 40, .inl ak)), (b3, .inl (cI, 40, .inl bk)), (b4, .inl (cI, 40, .inl ck)), (b5, .inl (cI, 40, .inl sk)), (b6, .inl (cI, 16, .inl gn))]) hP hD hS hA [15, 16, 17, 18] [0, 1, 2, 3, 4, 5, 6, 7, 8, 9, 10, 11, 12, 13, 14, 19, 20, 21, 22, 23, 24, 25] rfl rfl (by decide) (by decide) [0, 1, 2, 3, 4, 5, 6, 7, 8, 9, 10, 11, 12, 13, 14, 22, 23, 24, 25, 15, 16, 17, 18, 19, 20, 21] (by decide) rfl (va_runV (As := [.int (nI wk), .int seed]) (rest := []) ⟨hx, hb, hml, hown, hts⟩ (k_gather l D cI cJ cZ H.size g g1 g2 g3 sd0 lf0 pr ho be wk hwk.2 seed) (cwV 2 hts gX2_goesThrough_X1_gather rfl rfl rfl (by decide +kernel) ⟨Nat.le_of_ble_eq_true rfl, Nat.le_of_ble_eq_true rfl⟩) ⟨bl_rw, va_recv hK (hP.sub (ws' := [(g, .inr (1, [.int sd0, .int lf0, .ref g1, .ref g2, .ref g3])), (g1, .inl (cI, 16, .inl pr)), (g2, .inl (cI, 16, .inl ho)), (g3, .inl (cI, 16, .inl be))]) [15, 16, 17, 18] rfl) (ci := 1) (q0 := 0) rfl rfl, fun U hU hW => ⟨rfl, by rw [hU], by rw [hU]; exact (hP.sub (ws' := [(g, .inr (1, [.int sd0, .int lf0, .ref g1, .ref g2, .ref g3])), (g1, .inl (cI, 16, .inl pr)), (g2, .inl (cI, 16, .inl ho)), (g3, .inl (cI, 16, .inl be))]) [15, 16, 17, 18] rfl), hE.warm2 hW, (hD.sub (ws' := [(g, .inr (1, [.int sd0, .int lf0, .ref g1, .ref g2, .ref g3])), (g1, .inl (cI, 16, .inl pr)), (g2, .inl (cI, 16, .inl ho)), (g3, .inl (cI, 16, .inl be))]) [15, 16, 17, 18] (by decide) rfl).weaken (fun _ _ _ _ => trivial)⟩⟩ rfl rfl hl.1 rfl (lv_room (Nat.le_of_ble_eq_true rfl)) dX2_goesThrough_13 ⟨Nat.zero_le _, Nat.zero_le _⟩) (fun H locs hP hD hS => ?_)
  refine lv_iconst (v := 1) hx hb dX2_goesThrough_16 (by decide) ?_
  refine lv_istore (lv' := [(5, .int 1), (0, .ref u), (1, .int (nI cl)), (2, .int (nI wk)), (3, .int seed), (4, .int (nI rm))]) hx hb dX2_goesThrough_17 hl (by decide) rfl (fun ls hl => ?_)
  have loop19 : ∀ (n : Nat) (t : Nat) (kpz : Nat) (tkz : Int32) (bgz : Int32) (anz : Int32) (dmz : Int32) (uwz : Int32) (muz : Int32) (id_z : Int32) (stz : Nat → Int32) (slz : Nat → Int32) (raz : Nat → Int64) (rbz : Nat → Int64) (caz : Nat → Int32) (cbz : Nat → Int32) (gaz : Nat → Int64) (gbz : Nat → Int64) (ocz : Nat → Int32) (tbz : Nat → Int32) (fbz : Nat → Int32) (kaz : Nat → Int32) (ebz : Nat → Int32) (sdz : Int32) (lfz : Nat) (prz : Nat → Int32) (hoz : Nat → Int32) (bez : Nat → Int32), (t ≤ 30001) → (30002 ≤ t + n) → (WFc cl (kpz, tkz, bgz, anz, dmz, uwz, muz, id_z, stz, slz, raz, rbz, caz, cbz, gaz, gbz, ocz, tbz, fbz, kaz, ebz, sdz, lfz, prz, hoz, bez)) → (runF cl rm ak bk sk gn ok ck wk seed (0, 0, 0, 0, 0, 0, 0, 0, st, sl, ra, rb, ca, cb, ga, gb, oc, tb, fb, ka, eb, 0, 0, pr, ho, be) = goF cl rm ak bk sk gn ok ck n t (kpz, tkz, bgz, anz, dmz, uwz, muz, id_z, stz, slz, raz, rbz, caz, cbz, gaz, gbz, ocz, tbz, fbz, kaz, ebz, sdz, lfz, prz, hoz, bez)) → ∀ (H : Heap) (locs : List Loc) (ls : Array Slot), va_P D vwCl [(u, .inr (2, [.ref hB, .ref h, .ref g, .int (nI cl), .int tkz, .int (nI rm), .int (nI kpz), .int bgz, .int anz, .int dmz, .int uwz, .int muz, .int id_z])), (h, .inr (3, [.ref hB, .ref q1, .ref q2, .ref q3, .ref q4, .ref q5, .ref q6, .ref q7, .ref q8, .ref q9, .ref q10, .ref q11, .ref q12, .ref q13])), (q1, .inl (cI, 40, .inl stz)), (q2, .inl (cI, 40, .inl slz)), (q3, .inl (cJ, 40, .inr (.inl raz))), (q4, .inl (cJ, 40, .inr (.inl rbz))), (q5, .inl (cZ, 40, .inl caz)), (q6, .inl (cZ, 40, .inl cbz)), (q7, .inl (cJ, 40, .inr (.inl gaz))), (q8, .inl (cJ, 40, .inr (.inl gbz))), (q9, .inl (cI, 40, .inl ocz)), (q10, .inl (cI, 40, .inl tbz)), (q11, .inl (cI, 40, .inl fbz)), (q12, .inl (cI, 40, .inl kaz)), (q13, .inl (cI, 40, .inl ebz)), (g, .inr (1, [.int sdz, .int (nI lfz), .ref g1, .ref g2, .ref g3])), (g1, .inl (cI, 16, .inl prz)), (g2, .inl (cI, 16, .inl hoz)), (g3, .inl (cI, 16, .inl bez)), (hB, .inr (0, [.int bz, .ref b1, .ref b2, .ref b3, .ref b4, .ref b5, .ref b6])), (b1, .inl (cI, 40, .inl ok)), (b2, .inl (cI, 40, .inl ak)), (b3, .inl (cI, 40, .inl bk)), (b4, .inl (cI, 40, .inl ck)), (b5, .inl (cI, 40, .inl sk)), (b6, .inl (cI, 16, .inl gn))] H → va_D A [(u, .inr (2, [.ref hB, .ref h, .ref g, .int (nI cl), .int tkz, .int (nI rm), .int (nI kpz), .int bgz, .int anz, .int dmz, .int uwz, .int muz, .int id_z])), (h, .inr (3, [.ref hB, .ref q1, .ref q2, .ref q3, .ref q4, .ref q5, .ref q6, .ref q7, .ref q8, .ref q9, .ref q10, .ref q11, .ref q12, .ref q13])), (q1, .inl (cI, 40, .inl stz)), (q2, .inl (cI, 40, .inl slz)), (q3, .inl (cJ, 40, .inr (.inl raz))), (q4, .inl (cJ, 40, .inr (.inl rbz))), (q5, .inl (cZ, 40, .inl caz)), (q6, .inl (cZ, 40, .inl cbz)), (q7, .inl (cJ, 40, .inr (.inl gaz))), (q8, .inl (cJ, 40, .inr (.inl gbz))), (q9, .inl (cI, 40, .inl ocz)), (q10, .inl (cI, 40, .inl tbz)), (q11, .inl (cI, 40, .inl fbz)), (q12, .inl (cI, 40, .inl kaz)), (q13, .inl (cI, 40, .inl ebz)), (g, .inr (1, [.int sdz, .int (nI lfz), .ref g1, .ref g2, .ref g3])), (g1, .inl (cI, 16, .inl prz)), (g2, .inl (cI, 16, .inl hoz)), (g3, .inl (cI, 16, .inl bez)), (hB, .inr (0, [.int bz, .ref b1, .ref b2, .ref b3, .ref b4, .ref b5, .ref b6])), (b1, .inl (cI, 40, .inl ok)), (b2, .inl (cI, 40, .inl ak)), (b3, .inl (cI, 40, .inl bk)), (b4, .inl (cI, 40, .inl ck)), (b5, .inl (cI, 40, .inl sk)), (b6, .inl (cI, 16, .inl gn))] → va_S A s.heap H locs → lv_has ls 6 [(5, .int (nI t)), (0, .ref u), (1, .int (nI cl)), (2, .int (nI wk)), (3, .int seed), (4, .int (nI rm))] → W p l e (headSpec wsX2_goesThrough ({ frames := 5, cells := 0, slots := 0, locals := 121 })).room s m ([.ref u, .int (nI cl), .int (nI wk), .int seed, .int (nI rm)].toArray) below meth c H locs 0 0 (MQ below (QcI (fun r => r = if kp1 = cl then 1 else 0) D A [(u, .inr (2, [.ref hB, .ref h, .ref g, .int (nI cl), .int tk1, .int (nI rm), .int (nI kp1), .int bg1, .int an1, .int dm1, .int uw1, .int mu1, .int id_1])), (h, .inr (3, [.ref hB, .ref q1, .ref q2, .ref q3, .ref q4, .ref q5, .ref q6, .ref q7, .ref q8, .ref q9, .ref q10, .ref q11, .ref q12, .ref q13])), (q1, .inl (cI, 40, .inl st1)), (q2, .inl (cI, 40, .inl sl1)), (q3, .inl (cJ, 40, .inr (.inl ra1))), (q4, .inl (cJ, 40, .inr (.inl rb1))), (q5, .inl (cZ, 40, .inl ca1)), (q6, .inl (cZ, 40, .inl cb1)), (q7, .inl (cJ, 40, .inr (.inl ga1))), (q8, .inl (cJ, 40, .inr (.inl gb1))), (q9, .inl (cI, 40, .inl oc1)), (q10, .inl (cI, 40, .inl tb1)), (q11, .inl (cI, 40, .inl fb1)), (q12, .inl (cI, 40, .inl ka1)), (q13, .inl (cI, 40, .inl eb1)), (g, .inr (1, [.int sd1, .int (nI lf1), .ref g1, .ref g2, .ref g3])), (g1, .inl (cI, 16, .inl pr1)), (g2, .inl (cI, 16, .inl ho1)), (g3, .inl (cI, 16, .inl be1)), (hB, .inr (0, [.int bz, .ref b1, .ref b2, .ref b3, .ref b4, .ref b5, .ref b6])), (b1, .inl (cI, 40, .inl ok)), (b2, .inl (cI, 40, .inl ak)), (b3, .inl (cI, 40, .inl bk)), (b4, .inl (cI, 40, .inl ck)), (b5, .inl (cI, 40, .inl sk)), (b6, .inl (cI, 16, .inl gn))]) ([.ref u, .int (nI cl), .int (nI wk), .int seed, .int (nI rm)].toArray) s 0 0 A) (F0 m 19 ls []) := by
    intro n
    induction n with
    | zero =>
      intro t kpz tkz bgz anz dmz uwz muz id_z stz slz raz rbz caz cbz gaz gbz ocz tbz fbz kaz ebz sdz lfz prz hoz bez ht hf hwf hinv
      exact absurd hf (by omega)
    | succ n ih19 =>
      intro t kpz tkz bgz anz dmz uwz muz id_z stz slz raz rbz caz cbz gaz gbz ocz tbz fbz kaz ebz sdz lfz prz hoz bez ht hf hwf hinv H locs ls hP hD hS hl
      refine lv_iload hx hb dX2_goesThrough_19 (lv_at hl 0 rfl) ?_
      refine lv_sipush (v := 30000) hx hb dX2_goesThrough_21 (by decide) ?_
      refine lv_icmp_gt (tgt := 90) hx hb dX2_goesThrough_24 (by decide) (fun c24 => ?_) (fun c24 => ?_)
      · have hz16 : lfz ≤ 16 := hwf.2.1
        have hzk : kpz ≤ cl := hwf.1
        have q : runF cl rm ak bk sk gn ok ck wk seed (0, 0, 0, 0, 0, 0, 0, 0, st, sl, ra, rb, ca, cb, ga, gb, oc, tb, fb, ka, eb, 0, 0, pr, ho, be) = (kpz, tkz, bgz, anz, dmz, uwz, muz, id_z, stz, slz, raz, rbz, caz, cbz, gaz, gbz, ocz, tbz, fbz, kaz, ebz, sdz, lfz, prz, hoz, bez) := by rw [hinv]; simp only [goF]; rw [if_neg (show ¬ (t ≤ 30000 ∧ kpz < cl ∧ 0 < lfz) from fun z => absurd c24 (nI_nlt (b := t) (a := 30000) z.1 (by decide)))]
        rw [q] at hc
        cases hc
        refine lv_aload_n hx hb dX2_goesThrough_90 rfl (lv_at hl 1 rfl) ?_
        refine va_get (D := D) (ci := 2) (v := .int (nI kp1)) (C := RX2) (T := TX2) (N := 13) hx hb hts hinX2 hown hK hP 0 rfl rfl 6 (by decide) (hts (.fieldLink RX2 38 "LedgerShares$Run" "kept" "I") (List.mem_of_getElem? (i := 2) rfl)) (fun _ h9 => h9) rfl dX2_goesThrough_91 ?_
        refine lv_aload_n hx hb dX2_goesThrough_94 rfl (lv_at hl 1 rfl) ?_
        refine va_get (D := D) (ci := 2) (v := .int (nI cl)) (C := RX2) (T := TX2) (N := 13) hx hb hts hinX2 hown hK hP 0 rfl rfl 3 (by decide) (hts (.fieldLink RX2 42 "LedgerShares$Run" "calls" "I") (List.mem_of_getElem? (i := 3) rfl)) (fun _ h9 => h9) rfl dX2_goesThrough_95 ?_
        refine lv_icmp_ne (tgt := 105) hx hb dX2_goesThrough_98 (by decide) (fun c98 => ?_) (fun c98 => ?_)
        · refine lv_iconst (v := 0) hx hb dX2_goesThrough_105 (by decide) ?_
          exact W.zret hx hb hr (by decide) (fun t ht hW => ⟨⟨_, (), rfl, by rw [if_neg (fun z => c98 (by rw [z]))], by rw [ht]; exact hP, by exact hD⟩, hS.F ht⟩) hS.2.2 dX2_goesThrough_106
        · refine lv_iconst (v := 1) hx hb dX2_goesThrough_101 (by decide) ?_
          refine lv_goto (tgt := 106) hx hb dX2_goesThrough_102 (by decide) ?_
          exact W.zret hx hb hr (by decide) (fun t ht hW => ⟨⟨_, (), rfl, by rw [if_pos ((nI_eq (by omega) (by omega)).mp c98)], by rw [ht]; exact hP, by exact hD⟩, hS.F ht⟩) hS.2.2 dX2_goesThrough_106
      · have gt : t ≤ 30000 := Nat.le_of_not_lt (fun z => c24 (nI_lt (a := 30000) (b := t) z (by omega)))
        refine lv_aload_n hx hb dX2_goesThrough_27 rfl (lv_at hl 1 rfl) ?_
        refine va_get (D := D) (ci := 2) (v := .int (nI kpz)) (C := RX2) (T := TX2) (N := 13) hx hb hts hinX2 hown hK hP 0 rfl rfl 6 (by decide) (hts (.fieldLink RX2 38 "LedgerShares$Run" "kept" "I") (List.mem_of_getElem? (i := 2) rfl)) (fun _ h9 => h9) rfl dX2_goesThrough_28 ?_
        refine lv_aload_n hx hb dX2_goesThrough_31 rfl (lv_at hl 1 rfl) ?_
        refine va_get (D := D) (ci := 2) (v := .int (nI cl)) (C := RX2) (T := TX2) (N := 13) hx hb hts hinX2 hown hK hP 0 rfl rfl 3 (by decide) (hts (.fieldLink RX2 42 "LedgerShares$Run" "calls" "I") (List.mem_of_getElem? (i := 3) rfl)) (fun _ h9 => h9) rfl dX2_goesThrough_32 ?_
        refine lv_icmp_ge (tgt := 90) hx hb dX2_goesThrough_35 (by decide) (fun c35 => ?_) (fun c35 => ?_)
        · have hz16 : lfz ≤ 16 := hwf.2.1
          have hzk : kpz ≤ cl := hwf.1
          have q : runF cl rm ak bk sk gn ok ck wk seed (0, 0, 0, 0, 0, 0, 0, 0, st, sl, ra, rb, ca, cb, ga, gb, oc, tb, fb, ka, eb, 0, 0, pr, ho, be) = (kpz, tkz, bgz, anz, dmz, uwz, muz, id_z, stz, slz, raz, rbz, caz, cbz, gaz, gbz, ocz, tbz, fbz, kaz, ebz, sdz, lfz, prz, hoz, bez) := by rw [hinv]; simp only [goF]; rw [if_neg (show ¬ (t ≤ 30000 ∧ kpz < cl ∧ 0 < lfz) from fun z => absurd c35 (nI_ge z.2.1 (by omega)))]
          rw [q] at hc
          cases hc
          refine lv_aload_n hx hb dX2_goesThrough_90 rfl (lv_at hl 1 rfl) ?_
          refine va_get (D := D) (ci := 2) (v := .int (nI kp1)) (C := RX2) (T := TX2) (N := 13) hx hb hts hinX2 hown hK hP 0 rfl rfl 6 (by decide) (hts (.fieldLink RX2 38 "LedgerShares$Run" "kept" "I") (List.mem_of_getElem? (i := 2) rfl)) (fun _ h9 => h9) rfl dX2_goesThrough_91 ?_
          refine lv_aload_n hx hb dX2_goesThrough_94 rfl (lv_at hl 1 rfl) ?_
          refine va_get (D := D) (ci := 2) (v := .int (nI cl)) (C := RX2) (T := TX2) (N := 13) hx hb hts hinX2 hown hK hP 0 rfl rfl 3 (by decide) (hts (.fieldLink RX2 42 "LedgerShares$Run" "calls" "I") (List.mem_of_getElem? (i := 3) rfl)) (fun _ h9 => h9) rfl dX2_goesThrough_95 ?_
          refine lv_icmp_ne (tgt := 105) hx hb dX2_goesThrough_98 (by decide) (fun c98 => ?_) (fun c98 => ?_)
          · refine lv_iconst (v := 0) hx hb dX2_goesThrough_105 (by decide) ?_
            exact W.zret hx hb hr (by decide) (fun t ht hW => ⟨⟨_, (), rfl, by rw [if_neg (fun z => c98 (by rw [z]))], by rw [ht]; exact hP, by exact hD⟩, hS.F ht⟩) hS.2.2 dX2_goesThrough_106
          · refine lv_iconst (v := 1) hx hb dX2_goesThrough_101 (by decide) ?_
            refine lv_goto (tgt := 106) hx hb dX2_goesThrough_102 (by decide) ?_
            exact W.zret hx hb hr (by decide) (fun t ht hW => ⟨⟨_, (), rfl, by rw [if_pos ((nI_eq (by omega) (by omega)).mp c98)], by rw [ht]; exact hP, by exact hD⟩, hS.F ht⟩) hS.2.2 dX2_goesThrough_106
        · have gk : kpz < cl := Nat.lt_of_not_le (fun z => c35 (nI_le z (by have := hwf.1; omega)))
          refine lv_aload_n hx hb dX2_goesThrough_38 rfl (lv_at hl 1 rfl) ?_
          refine va_get (D := D) (ci := 2) (v := .ref g) (C := RX2) (T := TX2) (N := 13) hx hb hts hinX2 hown hK hP 0 rfl rfl 2 (by decide) (hts (.fieldLink RX2 12 "LedgerShares$Run" "crew" "LLedgerShares$Crew;") (List.mem_of_getElem? (i := 1) rfl)) (fun _ h9 => h9) rfl dX2_goesThrough_39 ?_
          refine va_get (D := D) (ci := 1) (v := .int (nI lfz)) (C := RX1) (T := TX1) (N := 5) hx hb hts hinX1 hown hK hP 15 rfl rfl 1 (by decide) (hts (.fieldLink RX2 45 "LedgerShares$Crew" "left" "I") (List.mem_of_getElem? (i := 4) rfl)) (fun _ h9 => h9) rfl dX2_goesThrough_42 ?_
          refine lv_if_le (tgt := 90) hx hb dX2_goesThrough_45 (by decide) (fun c45 => ?_) (fun c45 => ?_)
          · have hz16 : lfz ≤ 16 := hwf.2.1
            have hzk : kpz ≤ cl := hwf.1
            have q : runF cl rm ak bk sk gn ok ck wk seed (0, 0, 0, 0, 0, 0, 0, 0, st, sl, ra, rb, ca, cb, ga, gb, oc, tb, fb, ka, eb, 0, 0, pr, ho, be) = (kpz, tkz, bgz, anz, dmz, uwz, muz, id_z, stz, slz, raz, rbz, caz, cbz, gaz, gbz, ocz, tbz, fbz, kaz, ebz, sdz, lfz, prz, hoz, bez) := by rw [hinv]; simp only [goF]; rw [if_neg (show ¬ (t ≤ 30000 ∧ kpz < cl ∧ 0 < lfz) from fun z => absurd c45 (nI_nle z.2.2 (by omega)))]
            rw [q] at hc
            cases hc
            refine lv_aload_n hx hb dX2_goesThrough_90 rfl (lv_at hl 1 rfl) ?_
            refine va_get (D := D) (ci := 2) (v := .int (nI kp1)) (C := RX2) (T := TX2) (N := 13) hx hb hts hinX2 hown hK hP 0 rfl rfl 6 (by decide) (hts (.fieldLink RX2 38 "LedgerShares$Run" "kept" "I") (List.mem_of_getElem? (i := 2) rfl)) (fun _ h9 => h9) rfl dX2_goesThrough_91 ?_
            refine lv_aload_n hx hb dX2_goesThrough_94 rfl (lv_at hl 1 rfl) ?_
            refine va_get (D := D) (ci := 2) (v := .int (nI cl)) (C := RX2) (T := TX2) (N := 13) hx hb hts hinX2 hown hK hP 0 rfl rfl 3 (by decide) (hts (.fieldLink RX2 42 "LedgerShares$Run" "calls" "I") (List.mem_of_getElem? (i := 3) rfl)) (fun _ h9 => h9) rfl dX2_goesThrough_95 ?_
            refine lv_icmp_ne (tgt := 105) hx hb dX2_goesThrough_98 (by decide) (fun c98 => ?_) (fun c98 => ?_)
            · refine lv_iconst (v := 0) hx hb dX2_goesThrough_105 (by decide) ?_
              exact W.zret hx hb hr (by decide) (fun t ht hW => ⟨⟨_, (), rfl, by rw [if_neg (fun z => c98 (by rw [z]))], by rw [ht]; exact hP, by exact hD⟩, hS.F ht⟩) hS.2.2 dX2_goesThrough_106
            · refine lv_iconst (v := 1) hx hb dX2_goesThrough_101 (by decide) ?_
              refine lv_goto (tgt := 106) hx hb dX2_goesThrough_102 (by decide) ?_
              exact W.zret hx hb hr (by decide) (fun t ht hW => ⟨⟨_, (), rfl, by rw [if_pos ((nI_eq (by omega) (by omega)).mp c98)], by rw [ht]; exact hP, by exact hD⟩, hS.F ht⟩) hS.2.2 dX2_goesThrough_106
          · have gl : 0 < lfz := by rcases Nat.eq_zero_or_pos lfz with z | z; exact absurd (by rw [z]; decide) c45; exact z
            refine lv_aload_n hx hb dX2_goesThrough_48 rfl (lv_at hl 1 rfl) ?_
            refine lv_iload hx hb dX2_goesThrough_49 (lv_at hl 0 rfl) ?_
            refine x_put (D := D) (ci := 2) (v := .int (nI t)) (ty := .int) (C := RX2) (T := TX2) (N := 13) hx hb hts hinX2 tyX2 tyX2_ok nmX2 hown hK hP hD hS 0 rfl rfl 4 (by decide) (hts (.fieldLink RX2 48 "LedgerShares$Run" "ticks" "I") (List.mem_of_getElem? (i := 5) rfl)) rfl (by decide +kernel) (rfl) (rfl) (Nat.le_of_ble_eq_true rfl) (ws' := [(u, .inr (2, [.ref hB, .ref h, .ref g, .int (nI cl), .int (nI t), .int (nI rm), .int (nI kpz), .int bgz, .int anz, .int dmz, .int uwz, .int muz, .int id_z])), (h, .inr (3, [.ref hB, .ref q1, .ref q2, .ref q3, .ref q4, .ref q5, .ref q6, .ref q7, .ref q8, .ref q9, .ref q10, .ref q11, .ref q12, .ref q13])), (q1, .inl (cI, 40, .inl stz)), (q2, .inl (cI, 40, .inl slz)), (q3, .inl (cJ, 40, .inr (.inl raz))), (q4, .inl (cJ, 40, .inr (.inl rbz))), (q5, .inl (cZ, 40, .inl caz)), (q6, .inl (cZ, 40, .inl cbz)), (q7, .inl (cJ, 40, .inr (.inl gaz))), (q8, .inl (cJ, 40, .inr (.inl gbz))), (q9, .inl (cI, 40, .inl ocz)), (q10, .inl (cI, 40, .inl tbz)), (q11, .inl (cI, 40, .inl fbz)), (q12, .inl (cI, 40, .inl kaz)), (q13, .inl (cI, 40, .inl ebz)), (g, .inr (1, [.int sdz, .int (nI lfz), .ref g1, .ref g2, .ref g3])), (g1, .inl (cI, 16, .inl prz)), (g2, .inl (cI, 16, .inl hoz)), (g3, .inl (cI, 16, .inl bez)), (hB, .inr (0, [.int bz, .ref b1, .ref b2, .ref b3, .ref b4, .ref b5, .ref b6])), (b1, .inl (cI, 40, .inl ok)), (b2, .inl (cI, 40, .inl ak)), (b3, .inl (cI, 40, .inl bk)), (b4, .inl (cI, 40, .inl ck)), (b5, .inl (cI, 40, .inl sk)), (b6, .inl (cI, 16, .inl gn))]) rfl dX2_goesThrough_51 (fun H locs hP hD hS => ?_)
            refine lv_aload_n hx hb dX2_goesThrough_54 rfl (lv_at hl 1 rfl) ?_
            refine lv_aload_n hx hb dX2_goesThrough_55 rfl (lv_at hl 1 rfl) ?_
            refine va_get (D := D) (ci := 2) (v := .ref g) (C := RX2) (T := TX2) (N := 13) hx hb hts hinX2 hown hK hP 0 rfl rfl 2 (by decide) (hts (.fieldLink RX2 12 "LedgerShares$Run" "crew" "LLedgerShares$Crew;") (List.mem_of_getElem? (i := 1) rfl)) (fun _ h9 => h9) rfl dX2_goesThrough_56 ?_
            refine x_calli (wc := [(g, .inr (1, [.int sdz, .int (nI lfz), .ref g1, .ref g2, .ref g3])), (g1, .inl (cI, 16, .inl prz))]) (wc' := [(g, .inr (1, [.int (nxs sdz), .int (nI lfz), .ref g1, .ref g2, .ref g3])), (g1, .inl (cI, 16, .inl prz))]) (wr := [(u, .inr (2, [.ref hB, .ref h, .ref g, .int (nI cl), .int (nI t), .int (nI rm), .int (nI kpz), .int bgz, .int anz, .int dmz, .int uwz, .int muz, .int id_z])), (h, .inr (3, [.ref hB, .ref q1, .ref q2, .ref q3, .ref q4, .ref q5, .ref q6, .ref q7, .ref q8, .ref q9, .ref q10, .ref q11, .ref q12, .ref q13])), (q1, .inl (cI, 40, .inl stz)), (q2, .inl (cI, 40, .inl slz)), (q3, .inl (cJ, 40, .inr (.inl raz))), (q4, .inl (cJ, 40, .inr (.inl rbz))), (q5, .inl (cZ, 40, .inl caz)), (q6, .inl (cZ, 40, .inl cbz)), (q7, .inl (cJ, 40, .inr (.inl gaz))), (q8, .inl (cJ, 40, .inr (.inl gbz))), (q9, .inl (cI, 40, .inl ocz)), (q10, .inl (cI, 40, .inl tbz)), (q11, .inl (cI, 40, .inl fbz)), (q12, .inl (cI, 40, .inl kaz)), (q13, .inl (cI, 40, .inl ebz)), (g2, .inl (cI, 16, .inl hoz)), (g3, .inl (cI, 16, .inl bez)), (hB, .inr (0, [.int bz, .ref b1, .ref b2, .ref b3, .ref b4, .ref b5, .ref b6])), (b1, .inl (cI, 40, .inl ok)), (b2, .inl (cI, 40, .inl ak)), (b3, .inl (cI, 40, .inl bk)), (b4, .inl (cI, 40, .inl ck)), (b5, .inl (cI, 40, .inl sk)), (b6, .inl (cI, 16, .inl gn))]) (ws' := [(u, .inr (2, [.ref hB, .ref h, .ref g, .int (nI cl), .int (nI t), .int (nI rm), .int (nI kpz), .int bgz, .int anz, .int dmz, .int uwz, .int muz, .int id_z])), (h, .inr (3, [.ref hB, .ref q1, .ref q2, .ref q3, .ref q4, .ref q5, .ref q6, .ref q7, .ref q8, .ref q9, .ref q10, .ref q11, .ref q12, .ref q13])), (q1, .inl (cI, 40, .inl stz)), (q2, .inl (cI, 40, .inl slz)), (q3, .inl (cJ, 40, .inr (.inl raz))), (q4, .inl (cJ, 40, .inr (.inl rbz))), (q5, .inl (cZ, 40, .inl caz)), (q6, .inl (cZ, 40, .inl cbz)), (q7, .inl (cJ, 40, .inr (.inl gaz))), (q8, .inl (cJ, 40, .inr (.inl gbz))), (q9, .inl (cI, 40, .inl ocz)), (q10, .inl (cI, 40, .inl tbz)), (q11, .inl (cI, 40, .inl fbz)), (q12, .inl (cI, 40, .inl kaz)), (q13, .inl (cI, 40, .inl ebz)), (g, .inr (1, [.int (nxs sdz), .int (nI lfz), .ref g1, .ref g2, .ref g3])), (g1, .inl (cI, 16, .inl prz)), (g2, .inl (cI, 16, .inl hoz)), (g3, .inl (cI, 16, .inl bez)), (hB, .inr (0, [.int bz, .ref b1, .ref b2, .ref b3, .ref b4, .ref b5, .ref b6])), (b1, .inl (cI, 40, .inl ok)), (b2, .inl (cI, 40, .inl ak)), (b3, .inl (cI, 40, .inl bk)), (b4, .inl (cI, 40, .inl ck)), (b5, .inl (cI, 40, .inl sk)), (b6, .inl (cI, 16, .inl gn))]) hP hD hS hA [15, 16] [0, 1, 2, 3, 4, 5, 6, 7, 8, 9, 10, 11, 12, 13, 14, 17, 18, 19, 20, 21, 22, 23, 24, 25] rfl rfl (by decide) (by decide) [0, 1, 2, 3, 4, 5, 6, 7, 8, 9, 10, 11, 12, 13, 14, 24, 25, 15, 16, 17, 18, 19, 20, 21, 22, 23] (by decide) rfl (va_runV (As := []) (rest := [.ref u]) ⟨hx, hb, hml, hown, hts⟩ (k_nextInTurn l D cI cJ cZ H.size g g1 g2 g3 sdz lfz prz gl hwf.2.1) (cwV 0 hts gX2_goesThrough_X1_nextInTurn rfl rfl rfl (by decide +kernel) ⟨Nat.le_of_ble_eq_true rfl, Nat.le_of_ble_eq_true rfl⟩) ⟨bl_rw, va_recv hK (hP.sub (ws' := [(g, .inr (1, [.int sdz, .int (nI lfz), .ref g1, .ref g2, .ref g3])), (g1, .inl (cI, 16, .inl prz))]) [15, 16] rfl) (ci := 1) (q0 := 0) rfl rfl, fun U hU hW => ⟨rfl, by rw [hU], by rw [hU]; exact (hP.sub (ws' := [(g, .inr (1, [.int sdz, .int (nI lfz), .ref g1, .ref g2, .ref g3])), (g1, .inl (cI, 16, .inl prz))]) [15, 16] rfl), hE.warm2 hW, (hD.sub (ws' := [(g, .inr (1, [.int sdz, .int (nI lfz), .ref g1, .ref g2, .ref g3])), (g1, .inl (cI, 16, .inl prz))]) [15, 16] (by decide) rfl).weaken (fun _ _ _ _ => trivial)⟩⟩ rfl rfl hl.1 rfl (lv_room (Nat.le_of_ble_eq_true rfl)) dX2_goesThrough_59 ⟨Nat.zero_le _, Nat.zero_le _⟩) (fun r59 hr59 H locs hP hD hS => ?_)
            obtain ⟨w, hw, e59⟩ := hwf.2.2.1 (turnI (nxs sdz) lfz) (Nat.mod_lt _ gl)
            refine x_topi (y := nI w) (hr59.trans e59) ?_
            obtain ⟨c2, hc2⟩ : ∃ c2, takeTurnF cl rm ak bk sk gn ok ck w (kpz, nI t, bgz, anz, dmz, uwz, muz, id_z, stz, slz, raz, rbz, caz, cbz, gaz, gbz, ocz, tbz, fbz, kaz, ebz, nxs sdz, lfz, prz, hoz, bez) = c2 := ⟨_, rfl⟩
            have hwf2 : WFc cl c2 := by rw [← hc2]; exact WF_takeTurn hcl hwf
            obtain ⟨kpa, tka, bga, ana, dma, uwa, mua, id_a, sta, sla, raa, rba, caa, cba, gaa, gba, oca, tba, fba, kaa, eba, sda, lfa, pra, hoa, bea⟩ := c2
            refine x_callv (wc := [(u, .inr (2, [.ref hB, .ref h, .ref g, .int (nI cl), .int (nI t), .int (nI rm), .int (nI kpz), .int bgz, .int anz, .int dmz, .int uwz, .int muz, .int id_z])), (h, .inr (3, [.ref hB, .ref q1, .ref q2, .ref q3, .ref q4, .ref q5, .ref q6, .ref q7, .ref q8, .ref q9, .ref q10, .ref q11, .ref q12, .ref q13])), (q1, .inl (cI, 40, .inl stz)), (q2, .inl (cI, 40, .inl slz)), (q3, .inl (cJ, 40, .inr (.inl raz))), (q4, .inl (cJ, 40, .inr (.inl rbz))), (q5, .inl (cZ, 40, .inl caz)), (q6, .inl (cZ, 40, .inl cbz)), (q7, .inl (cJ, 40, .inr (.inl gaz))), (q8, .inl (cJ, 40, .inr (.inl gbz))), (q9, .inl (cI, 40, .inl ocz)), (q10, .inl (cI, 40, .inl tbz)), (q11, .inl (cI, 40, .inl fbz)), (q12, .inl (cI, 40, .inl kaz)), (q13, .inl (cI, 40, .inl ebz)), (g, .inr (1, [.int (nxs sdz), .int (nI lfz), .ref g1, .ref g2, .ref g3])), (g1, .inl (cI, 16, .inl prz)), (g2, .inl (cI, 16, .inl hoz)), (g3, .inl (cI, 16, .inl bez)), (hB, .inr (0, [.int bz, .ref b1, .ref b2, .ref b3, .ref b4, .ref b5, .ref b6])), (b1, .inl (cI, 40, .inl ok)), (b2, .inl (cI, 40, .inl ak)), (b3, .inl (cI, 40, .inl bk)), (b4, .inl (cI, 40, .inl ck)), (b5, .inl (cI, 40, .inl sk)), (b6, .inl (cI, 16, .inl gn))]) (wc' := [(u, .inr (2, [.ref hB, .ref h, .ref g, .int (nI cl), .int tka, .int (nI rm), .int (nI kpa), .int bga, .int ana, .int dma, .int uwa, .int mua, .int id_a])), (h, .inr (3, [.ref hB, .ref q1, .ref q2, .ref q3, .ref q4, .ref q5, .ref q6, .ref q7, .ref q8, .ref q9, .ref q10, .ref q11, .ref q12, .ref q13])), (q1, .inl (cI, 40, .inl sta)), (q2, .inl (cI, 40, .inl sla)), (q3, .inl (cJ, 40, .inr (.inl raa))), (q4, .inl (cJ, 40, .inr (.inl rba))), (q5, .inl (cZ, 40, .inl caa)), (q6, .inl (cZ, 40, .inl cba)), (q7, .inl (cJ, 40, .inr (.inl gaa))), (q8, .inl (cJ, 40, .inr (.inl gba))), (q9, .inl (cI, 40, .inl oca)), (q10, .inl (cI, 40, .inl tba)), (q11, .inl (cI, 40, .inl fba)), (q12, .inl (cI, 40, .inl kaa)), (q13, .inl (cI, 40, .inl eba)), (g, .inr (1, [.int sda, .int (nI lfa), .ref g1, .ref g2, .ref g3])), (g1, .inl (cI, 16, .inl pra)), (g2, .inl (cI, 16, .inl hoa)), (g3, .inl (cI, 16, .inl bea)), (hB, .inr (0, [.int bz, .ref b1, .ref b2, .ref b3, .ref b4, .ref b5, .ref b6])), (b1, .inl (cI, 40, .inl ok)), (b2, .inl (cI, 40, .inl ak)), (b3, .inl (cI, 40, .inl bk)), (b4, .inl (cI, 40, .inl ck)), (b5, .inl (cI, 40, .inl sk)), (b6, .inl (cI, 16, .inl gn))]) (wr := []) (ws' := [(u, .inr (2, [.ref hB, .ref h, .ref g, .int (nI cl), .int tka, .int (nI rm), .int (nI kpa), .int bga, .int ana, .int dma, .int uwa, .int mua, .int id_a])), (h, .inr (3, [.ref hB, .ref q1, .ref q2, .ref q3, .ref q4, .ref q5, .ref q6, .ref q7, .ref q8, .ref q9, .ref q10, .ref q11, .ref q12, .ref q13])), (q1, .inl (cI, 40, .inl sta)), (q2, .inl (cI, 40, .inl sla)), (q3, .inl (cJ, 40, .inr (.inl raa))), (q4, .inl (cJ, 40, .inr (.inl rba))), (q5, .inl (cZ, 40, .inl caa)), (q6, .inl (cZ, 40, .inl cba)), (q7, .inl (cJ, 40, .inr (.inl gaa))), (q8, .inl (cJ, 40, .inr (.inl gba))), (q9, .inl (cI, 40, .inl oca)), (q10, .inl (cI, 40, .inl tba)), (q11, .inl (cI, 40, .inl fba)), (q12, .inl (cI, 40, .inl kaa)), (q13, .inl (cI, 40, .inl eba)), (g, .inr (1, [.int sda, .int (nI lfa), .ref g1, .ref g2, .ref g3])), (g1, .inl (cI, 16, .inl pra)), (g2, .inl (cI, 16, .inl hoa)), (g3, .inl (cI, 16, .inl bea)), (hB, .inr (0, [.int bz, .ref b1, .ref b2, .ref b3, .ref b4, .ref b5, .ref b6])), (b1, .inl (cI, 40, .inl ok)), (b2, .inl (cI, 40, .inl ak)), (b3, .inl (cI, 40, .inl bk)), (b4, .inl (cI, 40, .inl ck)), (b5, .inl (cI, 40, .inl sk)), (b6, .inl (cI, 16, .inl gn))]) hP hD hS hA [0, 1, 2, 3, 4, 5, 6, 7, 8, 9, 10, 11, 12, 13, 14, 15, 16, 17, 18, 19, 20, 21, 22, 23, 24, 25] [] rfl rfl (by decide) (by decide) [0, 1, 2, 3, 4, 5, 6, 7, 8, 9, 10, 11, 12, 13, 14, 15, 16, 17, 18, 19, 20, 21, 22, 23, 24, 25] (by decide) rfl (va_runV (As := [.int (nI w)]) (rest := []) ⟨hx, hb, hml, hown, hts⟩ (k_takeTurn l D cI cJ cZ H.size u h hB q1 q2 q3 q4 q5 q6 q7 q8 q9 q10 q11 q12 q13 g g1 g2 g3 b1 b2 b3 b4 b5 b6 bz ak bk sk gn ok ck cl rm w kpz (nI t) bgz anz dmz uwz muz id_z stz slz raz rbz caz cbz gaz gbz ocz tbz fbz kaz ebz (nxs sdz) lfz prz hoz bez kpa tka bga ana dma uwa mua id_a sta sla raa rba caa cba gaa gba oca tba fba kaa eba sda lfa pra hoa bea hwf.1 hcl hrm hwf.2.1 hw (hwf.2.2.2 w hw) hc2) (cwV 1 hts gX2_goesThrough_X2_takeTurn rfl rfl rfl (by decide +kernel) ⟨Nat.le_of_ble_eq_true rfl, Nat.le_of_ble_eq_true rfl⟩) ⟨bl_rw, va_recv hK (hP.sub (ws' := [(u, .inr (2, [.ref hB, .ref h, .ref g, .int (nI cl), .int (nI t), .int (nI rm), .int (nI kpz), .int bgz, .int anz, .int dmz, .int uwz, .int muz, .int id_z])), (h, .inr (3, [.ref hB, .ref q1, .ref q2, .ref q3, .ref q4, .ref q5, .ref q6, .ref q7, .ref q8, .ref q9, .ref q10, .ref q11, .ref q12, .ref q13])), (q1, .inl (cI, 40, .inl stz)), (q2, .inl (cI, 40, .inl slz)), (q3, .inl (cJ, 40, .inr (.inl raz))), (q4, .inl (cJ, 40, .inr (.inl rbz))), (q5, .inl (cZ, 40, .inl caz)), (q6, .inl (cZ, 40, .inl cbz)), (q7, .inl (cJ, 40, .inr (.inl gaz))), (q8, .inl (cJ, 40, .inr (.inl gbz))), (q9, .inl (cI, 40, .inl ocz)), (q10, .inl (cI, 40, .inl tbz)), (q11, .inl (cI, 40, .inl fbz)), (q12, .inl (cI, 40, .inl kaz)), (q13, .inl (cI, 40, .inl ebz)), (g, .inr (1, [.int (nxs sdz), .int (nI lfz), .ref g1, .ref g2, .ref g3])), (g1, .inl (cI, 16, .inl prz)), (g2, .inl (cI, 16, .inl hoz)), (g3, .inl (cI, 16, .inl bez)), (hB, .inr (0, [.int bz, .ref b1, .ref b2, .ref b3, .ref b4, .ref b5, .ref b6])), (b1, .inl (cI, 40, .inl ok)), (b2, .inl (cI, 40, .inl ak)), (b3, .inl (cI, 40, .inl bk)), (b4, .inl (cI, 40, .inl ck)), (b5, .inl (cI, 40, .inl sk)), (b6, .inl (cI, 16, .inl gn))]) [0, 1, 2, 3, 4, 5, 6, 7, 8, 9, 10, 11, 12, 13, 14, 15, 16, 17, 18, 19, 20, 21, 22, 23, 24, 25] rfl) (ci := 2) (q0 := 0) rfl rfl, fun U hU hW => ⟨rfl, by rw [hU], by rw [hU]; exact (hP.sub (ws' := [(u, .inr (2, [.ref hB, .ref h, .ref g, .int (nI cl), .int (nI t), .int (nI rm), .int (nI kpz), .int bgz, .int anz, .int dmz, .int uwz, .int muz, .int id_z])), (h, .inr (3, [.ref hB, .ref q1, .ref q2, .ref q3, .ref q4, .ref q5, .ref q6, .ref q7, .ref q8, .ref q9, .ref q10, .ref q11, .ref q12, .ref q13])), (q1, .inl (cI, 40, .inl stz)), (q2, .inl (cI, 40, .inl slz)), (q3, .inl (cJ, 40, .inr (.inl raz))), (q4, .inl (cJ, 40, .inr (.inl rbz))), (q5, .inl (cZ, 40, .inl caz)), (q6, .inl (cZ, 40, .inl cbz)), (q7, .inl (cJ, 40, .inr (.inl gaz))), (q8, .inl (cJ, 40, .inr (.inl gbz))), (q9, .inl (cI, 40, .inl ocz)), (q10, .inl (cI, 40, .inl tbz)), (q11, .inl (cI, 40, .inl fbz)), (q12, .inl (cI, 40, .inl kaz)), (q13, .inl (cI, 40, .inl ebz)), (g, .inr (1, [.int (nxs sdz), .int (nI lfz), .ref g1, .ref g2, .ref g3])), (g1, .inl (cI, 16, .inl prz)), (g2, .inl (cI, 16, .inl hoz)), (g3, .inl (cI, 16, .inl bez)), (hB, .inr (0, [.int bz, .ref b1, .ref b2, .ref b3, .ref b4, .ref b5, .ref b6])), (b1, .inl (cI, 40, .inl ok)), (b2, .inl (cI, 40, .inl ak)), (b3, .inl (cI, 40, .inl bk)), (b4, .inl (cI, 40, .inl ck)), (b5, .inl (cI, 40, .inl sk)), (b6, .inl (cI, 16, .inl gn))]) [0, 1, 2, 3, 4, 5, 6, 7, 8, 9, 10, 11, 12, 13, 14, 15, 16, 17, 18, 19, 20, 21, 22, 23, 24, 25] rfl), hE.warm2 hW, (hD.sub (ws' := [(u, .inr (2, [.ref hB, .ref h, .ref g, .int (nI cl), .int (nI t), .int (nI rm), .int (nI kpz), .int bgz, .int anz, .int dmz, .int uwz, .int muz, .int id_z])), (h, .inr (3, [.ref hB, .ref q1, .ref q2, .ref q3, .ref q4, .ref q5, .ref q6, .ref q7, .ref q8, .ref q9, .ref q10, .ref q11, .ref q12, .ref q13])), (q1, .inl (cI, 40, .inl stz)), (q2, .inl (cI, 40, .inl slz)), (q3, .inl (cJ, 40, .inr (.inl raz))), (q4, .inl (cJ, 40, .inr (.inl rbz))), (q5, .inl (cZ, 40, .inl caz)), (q6, .inl (cZ, 40, .inl cbz)), (q7, .inl (cJ, 40, .inr (.inl gaz))), (q8, .inl (cJ, 40, .inr (.inl gbz))), (q9, .inl (cI, 40, .inl ocz)), (q10, .inl (cI, 40, .inl tbz)), (q11, .inl (cI, 40, .inl fbz)), (q12, .inl (cI, 40, .inl kaz)), (q13, .inl (cI, 40, .inl ebz)), (g, .inr (1, [.int (nxs sdz), .int (nI lfz), .ref g1, .ref g2, .ref g3])), (g1, .inl (cI, 16, .inl prz)), (g2, .inl (cI, 16, .inl hoz)), (g3, .inl (cI, 16, .inl bez)), (hB, .inr (0, [.int bz, .ref b1, .ref b2, .ref b3, .ref b4, .ref b5, .ref b6])), (b1, .inl (cI, 40, .inl ok)), (b2, .inl (cI, 40, .inl ak)), (b3, .inl (cI, 40, .inl bk)), (b4, .inl (cI, 40, .inl ck)), (b5, .inl (cI, 40, .inl sk)), (b6, .inl (cI, 16, .inl gn))]) [0, 1, 2, 3, 4, 5, 6, 7, 8, 9, 10, 11, 12, 13, 14, 15, 16, 17, 18, 19, 20, 21, 22, 23, 24, 25] (by decide) rfl).weaken (fun _ _ _ _ => trivial)⟩⟩ rfl rfl hl.1 rfl (lv_room (Nat.le_of_ble_eq_true rfl)) dX2_goesThrough_62 ⟨Nat.zero_le _, Nat.zero_le _⟩) (fun H locs hP hD hS => ?_)
            obtain ⟨c3, hc3⟩ : ∃ c3, keepF cl ak bk 41 (kpa, tka, bga, ana, dma, uwa, mua, id_a, sta, sla, raa, rba, caa, cba, gaa, gba, oca, tba, fba, kaa, eba, sda, lfa, pra, hoa, bea) = c3 := ⟨_, rfl⟩
            have hwf3 : WFc cl c3 := by rw [← hc3]; exact WF_keep 41 hwf2
            obtain ⟨kpb, tkb, bgb, anb, dmb, uwb, mub, id_b, stb, slb, rab, rbb, cab, cbb, gab, gbb, ocb, tbb, fbb, kab, ebb, sdb, lfb, prb, hob, beb⟩ := c3
            refine lv_aload_n hx hb dX2_goesThrough_65 rfl (lv_at hl 1 rfl) ?_
            refine x_callv (wc := [(u, .inr (2, [.ref hB, .ref h, .ref g, .int (nI cl), .int tka, .int (nI rm), .int (nI kpa), .int bga, .int ana, .int dma, .int uwa, .int mua, .int id_a])), (h, .inr (3, [.ref hB, .ref q1, .ref q2, .ref q3, .ref q4, .ref q5, .ref q6, .ref q7, .ref q8, .ref q9, .ref q10, .ref q11, .ref q12, .ref q13])), (q1, .inl (cI, 40, .inl sta)), (q2, .inl (cI, 40, .inl sla)), (q3, .inl (cJ, 40, .inr (.inl raa))), (q4, .inl (cJ, 40, .inr (.inl rba))), (q5, .inl (cZ, 40, .inl caa)), (q6, .inl (cZ, 40, .inl cba)), (q7, .inl (cJ, 40, .inr (.inl gaa))), (q8, .inl (cJ, 40, .inr (.inl gba))), (q9, .inl (cI, 40, .inl oca)), (q10, .inl (cI, 40, .inl tba)), (q11, .inl (cI, 40, .inl fba)), (q12, .inl (cI, 40, .inl kaa)), (q13, .inl (cI, 40, .inl eba)), (g, .inr (1, [.int sda, .int (nI lfa), .ref g1, .ref g2, .ref g3])), (g1, .inl (cI, 16, .inl pra)), (g2, .inl (cI, 16, .inl hoa)), (g3, .inl (cI, 16, .inl bea)), (hB, .inr (0, [.int bz, .ref b1, .ref b2, .ref b3, .ref b4, .ref b5, .ref b6])), (b1, .inl (cI, 40, .inl ok)), (b2, .inl (cI, 40, .inl ak)), (b3, .inl (cI, 40, .inl bk)), (b4, .inl (cI, 40, .inl ck)), (b5, .inl (cI, 40, .inl sk)), (b6, .inl (cI, 16, .inl gn))]) (wc' := [(u, .inr (2, [.ref hB, .ref h, .ref g, .int (nI cl), .int tkb, .int (nI rm), .int (nI kpb), .int bgb, .int anb, .int dmb, .int uwb, .int mub, .int id_b])), (h, .inr (3, [.ref hB, .ref q1, .ref q2, .ref q3, .ref q4, .ref q5, .ref q6, .ref q7, .ref q8, .ref q9, .ref q10, .ref q11, .ref q12, .ref q13])), (q1, .inl (cI, 40, .inl stb)), (q2, .inl (cI, 40, .inl slb)), (q3, .inl (cJ, 40, .inr (.inl rab))), (q4, .inl (cJ, 40, .inr (.inl rbb))), (q5, .inl (cZ, 40, .inl cab)), (q6, .inl (cZ, 40, .inl cbb)), (q7, .inl (cJ, 40, .inr (.inl gab))), (q8, .inl (cJ, 40, .inr (.inl gbb))), (q9, .inl (cI, 40, .inl ocb)), (q10, .inl (cI, 40, .inl tbb)), (q11, .inl (cI, 40, .inl fbb)), (q12, .inl (cI, 40, .inl kab)), (q13, .inl (cI, 40, .inl ebb)), (g, .inr (1, [.int sdb, .int (nI lfb), .ref g1, .ref g2, .ref g3])), (g1, .inl (cI, 16, .inl prb)), (g2, .inl (cI, 16, .inl hob)), (g3, .inl (cI, 16, .inl beb)), (hB, .inr (0, [.int bz, .ref b1, .ref b2, .ref b3, .ref b4, .ref b5, .ref b6])), (b1, .inl (cI, 40, .inl ok)), (b2, .inl (cI, 40, .inl ak)), (b3, .inl (cI, 40, .inl bk)), (b4, .inl (cI, 40, .inl ck)), (b5, .inl (cI, 40, .inl sk)), (b6, .inl (cI, 16, .inl gn))]) (wr := []) (ws' := [(u, .inr (2, [.ref hB, .ref h, .ref g, .int (nI cl), .int tkb, .int (nI rm), .int (nI kpb), .int bgb, .int anb, .int dmb, .int uwb, .int mub, .int id_b])), (h, .inr (3, [.ref hB, .ref q1, .ref q2, .ref q3, .ref q4, .ref q5, .ref q6, .ref q7, .ref q8, .ref q9, .ref q10, .ref q11, .ref q12, .ref q13])), (q1, .inl (cI, 40, .inl stb)), (q2, .inl (cI, 40, .inl slb)), (q3, .inl (cJ, 40, .inr (.inl rab))), (q4, .inl (cJ, 40, .inr (.inl rbb))), (q5, .inl (cZ, 40, .inl cab)), (q6, .inl (cZ, 40, .inl cbb)), (q7, .inl (cJ, 40, .inr (.inl gab))), (q8, .inl (cJ, 40, .inr (.inl gbb))), (q9, .inl (cI, 40, .inl ocb)), (q10, .inl (cI, 40, .inl tbb)), (q11, .inl (cI, 40, .inl fbb)), (q12, .inl (cI, 40, .inl kab)), (q13, .inl (cI, 40, .inl ebb)), (g, .inr (1, [.int sdb, .int (nI lfb), .ref g1, .ref g2, .ref g3])), (g1, .inl (cI, 16, .inl prb)), (g2, .inl (cI, 16, .inl hob)), (g3, .inl (cI, 16, .inl beb)), (hB, .inr (0, [.int bz, .ref b1, .ref b2, .ref b3, .ref b4, .ref b5, .ref b6])), (b1, .inl (cI, 40, .inl ok)), (b2, .inl (cI, 40, .inl ak)), (b3, .inl (cI, 40, .inl bk)), (b4, .inl (cI, 40, .inl ck)), (b5, .inl (cI, 40, .inl sk)), (b6, .inl (cI, 16, .inl gn))]) hP hD hS hA [0, 1, 2, 3, 4, 5, 6, 7, 8, 9, 10, 11, 12, 13, 14, 15, 16, 17, 18, 19, 20, 21, 22, 23, 24, 25] [] rfl rfl (by decide) (by decide) [0, 1, 2, 3, 4, 5, 6, 7, 8, 9, 10, 11, 12, 13, 14, 15, 16, 17, 18, 19, 20, 21, 22, 23, 24, 25] (by decide) rfl (va_runV (As := []) (rest := []) ⟨hx, hb, hml, hown, hts⟩ (k_keep l D cI cJ cZ H.size u h hB q1 q2 q3 q4 q5 q6 q7 q8 q9 q10 q11 q12 q13 g g1 g2 g3 b1 b2 b3 b4 b5 b6 bz ak bk sk gn ok ck cl rm kpa tka bga ana dma uwa mua id_a sta sla raa rba caa cba gaa gba oca tba fba kaa eba sda lfa pra hoa bea kpb tkb bgb anb dmb uwb mub id_b stb slb rab rbb cab cbb gab gbb ocb tbb fbb kab ebb sdb lfb prb hob beb hwf2.1 hcl hc3) (cwV 0 hts gX2_goesThrough_X2_keepWhatStands rfl rfl rfl (by decide +kernel) ⟨Nat.le_of_ble_eq_true rfl, Nat.le_of_ble_eq_true rfl⟩) ⟨bl_rw, va_recv hK (hP.sub (ws' := [(u, .inr (2, [.ref hB, .ref h, .ref g, .int (nI cl), .int tka, .int (nI rm), .int (nI kpa), .int bga, .int ana, .int dma, .int uwa, .int mua, .int id_a])), (h, .inr (3, [.ref hB, .ref q1, .ref q2, .ref q3, .ref q4, .ref q5, .ref q6, .ref q7, .ref q8, .ref q9, .ref q10, .ref q11, .ref q12, .ref q13])), (q1, .inl (cI, 40, .inl sta)), (q2, .inl (cI, 40, .inl sla)), (q3, .inl (cJ, 40, .inr (.inl raa))), (q4, .inl (cJ, 40, .inr (.inl rba))), (q5, .inl (cZ, 40, .inl caa)), (q6, .inl (cZ, 40, .inl cba)), (q7, .inl (cJ, 40, .inr (.inl gaa))), (q8, .inl (cJ, 40, .inr (.inl gba))), (q9, .inl (cI, 40, .inl oca)), (q10, .inl (cI, 40, .inl tba)), (q11, .inl (cI, 40, .inl fba)), (q12, .inl (cI, 40, .inl kaa)), (q13, .inl (cI, 40, .inl eba)), (g, .inr (1, [.int sda, .int (nI lfa), .ref g1, .ref g2, .ref g3])), (g1, .inl (cI, 16, .inl pra)), (g2, .inl (cI, 16, .inl hoa)), (g3, .inl (cI, 16, .inl bea)), (hB, .inr (0, [.int bz, .ref b1, .ref b2, .ref b3, .ref b4, .ref b5, .ref b6])), (b1, .inl (cI, 40, .inl ok)), (b2, .inl (cI, 40, .inl ak)), (b3, .inl (cI, 40, .inl bk)), (b4, .inl (cI, 40, .inl ck)), (b5, .inl (cI, 40, .inl sk)), (b6, .inl (cI, 16, .inl gn))]) [0, 1, 2, 3, 4, 5, 6, 7, 8, 9, 10, 11, 12, 13, 14, 15, 16, 17, 18, 19, 20, 21, 22, 23, 24, 25] rfl) (ci := 2) (q0 := 0) rfl rfl, fun U hU hW => ⟨rfl, by rw [hU], by rw [hU]; exact (hP.sub (ws' := [(u, .inr (2, [.ref hB, .ref h, .ref g, .int (nI cl), .int tka, .int (nI rm), .int (nI kpa), .int bga, .int ana, .int dma, .int uwa, .int mua, .int id_a])), (h, .inr (3, [.ref hB, .ref q1, .ref q2, .ref q3, .ref q4, .ref q5, .ref q6, .ref q7, .ref q8, .ref q9, .ref q10, .ref q11, .ref q12, .ref q13])), (q1, .inl (cI, 40, .inl sta)), (q2, .inl (cI, 40, .inl sla)), (q3, .inl (cJ, 40, .inr (.inl raa))), (q4, .inl (cJ, 40, .inr (.inl rba))), (q5, .inl (cZ, 40, .inl caa)), (q6, .inl (cZ, 40, .inl cba)), (q7, .inl (cJ, 40, .inr (.inl gaa))), (q8, .inl (cJ, 40, .inr (.inl gba))), (q9, .inl (cI, 40, .inl oca)), (q10, .inl (cI, 40, .inl tba)), (q11, .inl (cI, 40, .inl fba)), (q12, .inl (cI, 40, .inl kaa)), (q13, .inl (cI, 40, .inl eba)), (g, .inr (1, [.int sda, .int (nI lfa), .ref g1, .ref g2, .ref g3])), (g1, .inl (cI, 16, .inl pra)), (g2, .inl (cI, 16, .inl hoa)), (g3, .inl (cI, 16, .inl bea)), (hB, .inr (0, [.int bz, .ref b1, .ref b2, .ref b3, .ref b4, .ref b5, .ref b6])), (b1, .inl (cI, 40, .inl ok)), (b2, .inl (cI, 40, .inl ak)), (b3, .inl (cI, 40, .inl bk)), (b4, .inl (cI, 40, .inl ck)), (b5, .inl (cI, 40, .inl sk)), (b6, .inl (cI, 16, .inl gn))]) [0, 1, 2, 3, 4, 5, 6, 7, 8, 9, 10, 11, 12, 13, 14, 15, 16, 17, 18, 19, 20, 21, 22, 23, 24, 25] rfl), hE.warm2 hW, (hD.sub (ws' := [(u, .inr (2, [.ref hB, .ref h, .ref g, .int (nI cl), .int tka, .int (nI rm), .int (nI kpa), .int bga, .int ana, .int dma, .int uwa, .int mua, .int id_a])), (h, .inr (3, [.ref hB, .ref q1, .ref q2, .ref q3, .ref q4, .ref q5, .ref q6, .ref q7, .ref q8, .ref q9, .ref q10, .ref q11, .ref q12, .ref q13])), (q1, .inl (cI, 40, .inl sta)), (q2, .inl (cI, 40, .inl sla)), (q3, .inl (cJ, 40, .inr (.inl raa))), (q4, .inl (cJ, 40, .inr (.inl rba))), (q5, .inl (cZ, 40, .inl caa)), (q6, .inl (cZ, 40, .inl cba)), (q7, .inl (cJ, 40, .inr (.inl gaa))), (q8, .inl (cJ, 40, .inr (.inl gba))), (q9, .inl (cI, 40, .inl oca)), (q10, .inl (cI, 40, .inl tba)), (q11, .inl (cI, 40, .inl fba)), (q12, .inl (cI, 40, .inl kaa)), (q13, .inl (cI, 40, .inl eba)), (g, .inr (1, [.int sda, .int (nI lfa), .ref g1, .ref g2, .ref g3])), (g1, .inl (cI, 16, .inl pra)), (g2, .inl (cI, 16, .inl hoa)), (g3, .inl (cI, 16, .inl bea)), (hB, .inr (0, [.int bz, .ref b1, .ref b2, .ref b3, .ref b4, .ref b5, .ref b6])), (b1, .inl (cI, 40, .inl ok)), (b2, .inl (cI, 40, .inl ak)), (b3, .inl (cI, 40, .inl bk)), (b4, .inl (cI, 40, .inl ck)), (b5, .inl (cI, 40, .inl sk)), (b6, .inl (cI, 16, .inl gn))]) [0, 1, 2, 3, 4, 5, 6, 7, 8, 9, 10, 11, 12, 13, 14, 15, 16, 17, 18, 19, 20, 21, 22, 23, 24, 25] (by decide) rfl).weaken (fun _ _ _ _ => trivial)⟩⟩ rfl rfl hl.1 rfl (lv_room (Nat.le_of_ble_eq_true rfl)) dX2_goesThrough_66 ⟨Nat.zero_le _, Nat.zero_le _⟩) (fun H locs hP hD hS => ?_)
            refine lv_aload_n hx hb dX2_goesThrough_69 rfl (lv_at hl 1 rfl) ?_
            refine lv_aload_n hx hb dX2_goesThrough_70 rfl (lv_at hl 1 rfl) ?_
            refine va_get (D := D) (ci := 2) (v := .int mub) (C := RX2) (T := TX2) (N := 13) hx hb hts hinX2 hown hK hP 0 rfl rfl 11 (by decide) (hts (.fieldLink RX2 62 "LedgerShares$Run" "mostUnderWay" "I") (List.mem_of_getElem? (i := 6) rfl)) (fun _ h9 => h9) rfl dX2_goesThrough_71 ?_
            refine lv_aload_n hx hb dX2_goesThrough_74 rfl (lv_at hl 1 rfl) ?_
            refine va_get (D := D) (ci := 2) (v := .int uwb) (C := RX2) (T := TX2) (N := 13) hx hb hts hinX2 hown hK hP 0 rfl rfl 10 (by decide) (hts (.fieldLink RX2 65 "LedgerShares$Run" "underWay" "I") (List.mem_of_getElem? (i := 7) rfl)) (fun _ h9 => h9) rfl dX2_goesThrough_75 ?_
            refine va_mmax hx hb (by rw [hml]; exact hl.1.symm) hown (hts (.methodLink RX2 68 Lib.Math.max.name) (List.mem_of_getElem? (i := 8) rfl)) (hts (.static Lib.Math.max.name) (List.mem_of_getElem? (i := 9) rfl)) (hts (.initialized "java/lang/Math") (List.mem_of_getElem? (i := 10) rfl)) (hts (.code Lib.Math.max.name Lib.Math.max.code 2 (some .int)) (List.mem_of_getElem? (i := 11) rfl)) (Nat.le_of_ble_eq_true rfl) (Nat.le_of_ble_eq_true rfl) (Nat.zero_le _) (Nat.zero_le _) dX2_goesThrough_78 ?_
            refine x_put (D := D) (ci := 2) (v := .int (if mub < uwb then uwb else mub)) (ty := .int) (C := RX2) (T := TX2) (N := 13) hx hb hts hinX2 tyX2 tyX2_ok nmX2 hown hK hP hD hS 0 rfl rfl 11 (by decide) (hts (.fieldLink RX2 62 "LedgerShares$Run" "mostUnderWay" "I") (List.mem_of_getElem? (i := 6) rfl)) rfl (by decide +kernel) (rfl) (rfl) (Nat.le_of_ble_eq_true rfl) (ws' := [(u, .inr (2, [.ref hB, .ref h, .ref g, .int (nI cl), .int tkb, .int (nI rm), .int (nI kpb), .int bgb, .int anb, .int dmb, .int uwb, .int (if mub < uwb then uwb else mub), .int id_b])), (h, .inr (3, [.ref hB, .ref q1, .ref q2, .ref q3, .ref q4, .ref q5, .ref q6, .ref q7, .ref q8, .ref q9, .ref q10, .ref q11, .ref q12, .ref q13])), (q1, .inl (cI, 40, .inl stb)), (q2, .inl (cI, 40, .inl slb)), (q3, .inl (cJ, 40, .inr (.inl rab))), (q4, .inl (cJ, 40, .inr (.inl rbb))), (q5, .inl (cZ, 40, .inl cab)), (q6, .inl (cZ, 40, .inl cbb)), (q7, .inl (cJ, 40, .inr (.inl gab))), (q8, .inl (cJ, 40, .inr (.inl gbb))), (q9, .inl (cI, 40, .inl ocb)), (q10, .inl (cI, 40, .inl tbb)), (q11, .inl (cI, 40, .inl fbb)), (q12, .inl (cI, 40, .inl kab)), (q13, .inl (cI, 40, .inl ebb)), (g, .inr (1, [.int sdb, .int (nI lfb), .ref g1, .ref g2, .ref g3])), (g1, .inl (cI, 16, .inl prb)), (g2, .inl (cI, 16, .inl hob)), (g3, .inl (cI, 16, .inl beb)), (hB, .inr (0, [.int bz, .ref b1, .ref b2, .ref b3, .ref b4, .ref b5, .ref b6])), (b1, .inl (cI, 40, .inl ok)), (b2, .inl (cI, 40, .inl ak)), (b3, .inl (cI, 40, .inl bk)), (b4, .inl (cI, 40, .inl ck)), (b5, .inl (cI, 40, .inl sk)), (b6, .inl (cI, 16, .inl gn))]) rfl dX2_goesThrough_81 (fun H locs hP hD hS => ?_)
            have qw : tickW (tick0 t (kpz, tkz, bgz, anz, dmz, uwz, muz, id_z, stz, slz, raz, rbz, caz, cbz, gaz, gbz, ocz, tbz, fbz, kaz, ebz, sdz, lfz, prz, hoz, bez)) = w := by show (prz (turnI (nxs sdz) lfz)).toNatClampNeg = w; rw [e59]; exact nI_clamp (by omega)
            have qt : tickF cl rm ak bk sk gn ok ck t (kpz, tkz, bgz, anz, dmz, uwz, muz, id_z, stz, slz, raz, rbz, caz, cbz, gaz, gbz, ocz, tbz, fbz, kaz, ebz, sdz, lfz, prz, hoz, bez) = (kpb, tkb, bgb, anb, dmb, uwb, (if mub < uwb then uwb else mub), id_b, stb, slb, rab, rbb, cab, cbb, gab, gbb, ocb, tbb, fbb, kab, ebb, sdb, lfb, prb, hob, beb) := by unfold tickF; rw [qw]; show tickE (keepF cl ak bk 41 (takeTurnF cl rm ak bk sk gn ok ck w (kpz, nI t, bgz, anz, dmz, uwz, muz, id_z, stz, slz, raz, rbz, caz, cbz, gaz, gbz, ocz, tbz, fbz, kaz, ebz, nxs sdz, lfz, prz, hoz, bez))) = _; rw [hc2, hc3]; rfl
            refine lv_iinc (v := nI (t + 1)) (lv' := [(5, .int (nI (t + 1))), (0, .ref u), (1, .int (nI cl)), (2, .int (nI wk)), (3, .int seed), (4, .int (nI rm))]) hx hb dX2_goesThrough_84 hl (k := 0) rfl (nI_1 t) (by decide) rfl (fun ls hl => ?_)
            refine lv_goto (tgt := 19) hx hb dX2_goesThrough_87 (by decide) ?_
            exact ih19 (t + 1) kpb tkb bgb anb dmb uwb (if mub < uwb then uwb else mub) id_b stb slb rab rbb cab cbb gab gbb ocb tbb fbb kab ebb sdb lfb prb hob beb (by omega) (by omega) hwf3 (by rw [hinv]; simp only [goF]; rw [if_pos (show t ≤ 30000 ∧ kpz < cl ∧ 0 < lfz from ⟨gt, gk, gl⟩), qt]) _ _ ls hP hD hS (lv_sub hl [0, 1, 2, 3, 4, 5] rfl)
  exact loop19 30001 1 0 0 0 0 0 0 0 0 ((fillTo st 40 (0))) sl ra rb ca cb ga gb ((fillTo oc 40 (0))) ((fillTo tb 40 (0))) ((fillTo fb 40 (-1))) ((fillTo ka 40 (-1))) ((fillTo eb 40 (-1))) seed wk ((mapTo pr wk nI)) ((fillTo ho wk (-1))) ((fillTo be wk 0)) (by omega) (by omega) (WF_prep (c := (0, 0, 0, 0, 0, 0, 0, 0, st, sl, ra, rb, ca, cb, ga, gb, oc, tb, fb, ka, eb, 0, 0, pr, ho, be)) hwk.2 hho) rfl _ _ ls hP hD hS (lv_sub hl [0, 1, 2, 3, 4, 5] rfl)
set_option maxHeartbeats 4000000 in
set_option maxRecDepth 100000 in
theorem k_leavesLike (l : Launch) (D : va_G) (cI cJ cZ : ClassId) (u h hB q1 q2 q3 q4 q5 q6 q7 q8 q9 q10 q11 q12 q13 g v j r1 r2 r3 r4 r5 r6 r7 r8 r9 r10 r11 r12 r13 g9 b1 b2 b3 b4 b5 b6 : Nat) (bz : Int32) (ak bk : Nat → Int32) (st ca cb oc st2 ca2 cb2 oc2 : Nat → Int32) (ga gb ga2 gb2 : Nat → Int64) (m1 m2 m3 m4 m5 m6 m7 m8 m9 n1 n2 n3 n4 n5 n6 n7 n8 n9 : Int32) (cl : Nat) (hcl : cl ≤ 40) : Met l yX2_leavesLike wsX2_leavesLike ({ frames := 2, cells := 0, slots := 0, locals := 44 }) (PcRO [.ref u, .ref v] D cI cJ cZ [(u, .inr (2, [.ref hB, .ref h, .ref g, .int (nI cl), .int m1, .int m2, .int m3, .int m4, .int m5, .int m6, .int m7, .int m8, .int m9])), (h, .inr (3, [.ref hB, .ref q1, .ref q2, .ref q3, .ref q4, .ref q5, .ref q6, .ref q7, .ref q8, .ref q9, .ref q10, .ref q11, .ref q12, .ref q13])), (q1, .inl (cI, 40, .inl st)), (q5, .inl (cZ, 40, .inl ca)), (q6, .inl (cZ, 40, .inl cb)), (q7, .inl (cJ, 40, .inr (.inl ga))), (q8, .inl (cJ, 40, .inr (.inl gb))), (q9, .inl (cI, 40, .inl oc)), (v, .inr (2, [.ref hB, .ref j, .ref g9, .int (nI cl), .int n1, .int n2, .int n3, .int n4, .int n5, .int n6, .int n7, .int n8, .int n9])), (j, .inr (3, [.ref hB, .ref r1, .ref r2, .ref r3, .ref r4, .ref r5, .ref r6, .ref r7, .ref r8, .ref r9, .ref r10, .ref r11, .ref r12, .ref r13])), (r1, .inl (cI, 40, .inl st2)), (r5, .inl (cZ, 40, .inl ca2)), (r6, .inl (cZ, 40, .inl cb2)), (r7, .inl (cJ, 40, .inr (.inl ga2))), (r8, .inl (cJ, 40, .inr (.inl gb2))), (r9, .inl (cI, 40, .inl oc2)), (hB, .inr (0, [.int bz, .ref b1, .ref b2, .ref b3, .ref b4, .ref b5, .ref b6])), (b2, .inl (cI, 40, .inl ak)), (b3, .inl (cI, 40, .inl bk))]) (vp_Si (fun r => r = lkK (fun x => stnd st ca ak cb bk ga gb x cl) (fun x => stnd st2 ca2 ak cb2 bk ga2 gb2 x cl) (lkO oc oc2 cl 41 0) 9 0)) 0 0 noF := by
  refine Met.ofW (cc := cX2_leavesLike) (maxL := 3) (ret := some .boolean) (by decide) rfl ?_
  intro p e s m args below meth c s₁ B hml hv
  obtain ⟨rfl, hP, hE⟩ := hv
  have hx := B.exec
  have hb := B.bytes
  have hr := B.returns
  have hts := atoms_spec (ws := wsX2_leavesLike) B.pre
  have hown : s.vm.findClass RX2 = some m.cls := findClass_of_methodNamed B.named
  have hlocks := B.notSynchronized
  have hK := hE.1
  have hl := lv_entry ([.ref u, .ref v]) (n := 3) (Nat.le_of_ble_eq_true rfl)
  rw [lg_entry_eq]
  generalize (lg_sl ([.ref u, .ref v]) ++ List.replicate (3 - (lg_sl ([.ref u, .ref v])).length) Slot.unset).toArray = ls at hl ⊢
  have hl : lv_has ls 3 [(0, .ref u), (1, .ref v)] := hl
  have hinX2 : ∀ w ∈ u_ws RX2 TX2 13, w ∈ wsX2_leavesLike := fun _ h => List.mem_cons_of_mem _ (List.mem_append_left _ (List.mem_append_left _ (List.mem_append_right _ h)))
  have hinX3 : ∀ w ∈ u_ws RX3 TX3 14, w ∈ wsX2_leavesLike := fun _ h => List.mem_cons_of_mem _ (List.mem_append_left _ (List.mem_append_right _ h))
  refine lv_aload_n hx hb dX2_leavesLike_0 rfl (lv_at hl 0 rfl) ?_
  refine va_get (D := D) (ci := 2) (v := .int (nI cl)) (C := RX2) (T := TX2) (N := 13) hx hb hts hinX2 hown hK hP 0 rfl rfl 3 (by decide) (hts (.fieldLink RX2 42 "LedgerShares$Run" "calls" "I") (List.mem_of_getElem? (i := 1) rfl)) (fun _ h9 => h9) rfl dX2_leavesLike_1 ?_
  refine lv_aload_n hx hb dX2_leavesLike_4 rfl (lv_at hl 1 rfl) ?_
  refine va_get (D := D) (ci := 2) (v := .int (nI cl)) (C := RX2) (T := TX2) (N := 13) hx hb hts hinX2 hown hK hP 8 rfl rfl 3 (by decide) (hts (.fieldLink RX2 42 "LedgerShares$Run" "calls" "I") (List.mem_of_getElem? (i := 1) rfl)) (fun _ h9 => h9) rfl dX2_leavesLike_5 ?_
  refine lv_icmp_eq (tgt := 13) hx hb dX2_leavesLike_8 (by decide) (fun c8 => ?_) (fun c8 => absurd rfl c8)
  refine lv_iconst (v := 0) hx hb dX2_leavesLike_13 (by decide) ?_
  refine lv_istore_n (lv' := [(2, .int 0), (0, .ref u), (1, .ref v)]) hx hb dX2_leavesLike_14 rfl hl (by decide) rfl (fun ls hl => ?_)
  have loop15 : ∀ (n : Nat) (k : Nat), (k ≤ 8) → (9 ≤ k + n) → (lkK (fun x => stnd st ca ak cb bk ga gb x cl) (fun x => stnd st2 ca2 ak cb2 bk ga2 gb2 x cl) (lkO oc oc2 cl 41 0) 9 0 = lkK (fun x => stnd st ca ak cb bk ga gb x cl) (fun x => stnd st2 ca2 ak cb2 bk ga2 gb2 x cl) (lkO oc oc2 cl 41 0) n k) → ∀ (ls : Array Slot), lv_has ls 3 [(2, .int (nI k)), (0, .ref u), (1, .ref v)] → W p l e (headSpec wsX2_leavesLike ({ frames := 2, cells := 0, slots := 0, locals := 44 })).room s m ([.ref u, .ref v].toArray) below meth c s.heap [] 0 0 (MQ below (vp_Si (fun r => r = lkK (fun x => stnd st ca ak cb bk ga gb x cl) (fun x => stnd st2 ca2 ak cb2 bk ga2 gb2 x cl) (lkO oc oc2 cl 41 0) 9 0)) ([.ref u, .ref v].toArray) s 0 0 noF) (F0 m 15 ls []) := by
    intro n
    induction n with
    | zero =>
      intro k hk hf hinv
      exact absurd hf (by omega)
    | succ n ih15 =>
      intro k hk hf hinv ls hl
      refine lv_iload_n hx hb dX2_leavesLike_15 rfl (lv_at hl 0 rfl) ?_
      refine lv_bipush (v := 7) hx hb dX2_leavesLike_16 (by decide) ?_
      refine lv_icmp_gt (tgt := 57) hx hb dX2_leavesLike_18 (by decide) (fun c18 => ?_) (fun c18 => ?_)
      · have q8 : lkK (fun x => stnd st ca ak cb bk ga gb x cl) (fun x => stnd st2 ca2 ak cb2 bk ga2 gb2 x cl) (lkO oc oc2 cl 41 0) 9 0 = lkO oc oc2 cl 41 0 := by rw [hinv]; simp only [lkK]; rw [if_neg (fun z => absurd c18 (nI_nlt (b := k) (a := 7) z (by decide)))]
        refine lv_iconst (v := 0) hx hb dX2_leavesLike_57 (by decide) ?_
        refine lv_istore_n (lv' := [(2, .int 0), (0, .ref u), (1, .ref v)]) hx hb dX2_leavesLike_58 rfl hl (by decide) rfl (fun ls hl => ?_)
        have loop59 : ∀ (n : Nat) (k : Nat), (k ≤ 40) → (41 ≤ k + n) → (lkK (fun x => stnd st ca ak cb bk ga gb x cl) (fun x => stnd st2 ca2 ak cb2 bk ga2 gb2 x cl) (lkO oc oc2 cl 41 0) 9 0 = lkO oc oc2 cl n k) → ∀ (ls : Array Slot), lv_has ls 3 [(2, .int (nI k)), (0, .ref u), (1, .ref v)] → W p l e (headSpec wsX2_leavesLike ({ frames := 2, cells := 0, slots := 0, locals := 44 })).room s m ([.ref u, .ref v].toArray) below meth c s.heap [] 0 0 (MQ below (vp_Si (fun r => r = lkK (fun x => stnd st ca ak cb bk ga gb x cl) (fun x => stnd st2 ca2 ak cb2 bk ga2 gb2 x cl) (lkO oc oc2 cl 41 0) 9 0)) ([.ref u, .ref v].toArray) s 0 0 noF) (F0 m 59 ls []) := by
          intro n
          induction n with
          | zero =>
            intro k hk hf hin2
            exact absurd hf (by omega)
          | succ n ih59 =>
            intro k hk hf hin2 ls hl
            refine lv_iload_n hx hb dX2_leavesLike_59 rfl (lv_at hl 0 rfl) ?_
            refine lv_aload_n hx hb dX2_leavesLike_60 rfl (lv_at hl 1 rfl) ?_
            refine va_get (D := D) (ci := 2) (v := .int (nI cl)) (C := RX2) (T := TX2) (N := 13) hx hb hts hinX2 hown hK hP 0 rfl rfl 3 (by decide) (hts (.fieldLink RX2 42 "LedgerShares$Run" "calls" "I") (List.mem_of_getElem? (i := 1) rfl)) (fun _ h9 => h9) rfl dX2_leavesLike_61 ?_
            refine lv_icmp_ge (tgt := 102) hx hb dX2_leavesLike_64 (by decide) (fun c64 => ?_) (fun c64 => ?_)
            · refine lv_iconst (v := 1) hx hb dX2_leavesLike_102 (by decide) ?_
              exact W.zret hx hb hr (by decide) (fun t ht hW => ⟨_, rfl, by rw [hin2]; simp [lkO, show ¬ k < cl from fun z => absurd c64 (nI_ge z (by omega))], ht⟩) (fun q h => by cases h) dX2_leavesLike_103
            · have g64 : k < cl := Nat.lt_of_not_le (fun z => c64 (nI_le z (by omega)))
              refine lv_iload_n hx hb dX2_leavesLike_67 rfl (lv_at hl 0 rfl) ?_
              refine lv_bipush (v := 40) hx hb dX2_leavesLike_68 (by decide) ?_
              refine lv_icmp_ge (tgt := 102) hx hb dX2_leavesLike_70 (by decide) (fun c70 => absurd c70 (nI_ge (b := 40) (by omega) (by decide))) (fun c70 => ?_)
              refine lv_aload_n hx hb dX2_leavesLike_73 rfl (lv_at hl 1 rfl) ?_
              refine va_get (D := D) (ci := 2) (v := .ref h) (C := RX2) (T := TX2) (N := 13) hx hb hts hinX2 hown hK hP 0 rfl rfl 1 (by decide) (hts (.fieldLink RX2 27 "LedgerShares$Run" "sheet" "LLedgerShares$Sheet;") (List.mem_of_getElem? (i := 2) rfl)) (fun _ h9 => h9) rfl dX2_leavesLike_74 ?_
              refine va_get (D := D) (ci := 3) (v := .ref q9) (C := RX3) (T := TX3) (N := 14) hx hb hts hinX3 hown hK hP 1 rfl rfl 9 (by decide) (hts (.fieldLink RX2 142 "LedgerShares$Sheet" "outcomes" "[I") (List.mem_of_getElem? (i := 3) rfl)) (fun _ h9 => h9) rfl dX2_leavesLike_77 ?_
              refine lv_iload_n hx hb dX2_leavesLike_80 rfl (lv_at hl 0 rfl) ?_
              refine x_iald hx hb hE hP 7 rfl (k) (by omega) (by decide) (rfl) dX2_leavesLike_81 ?_
              refine lv_aload_n hx hb dX2_leavesLike_82 rfl (lv_at hl 2 rfl) ?_
              refine va_get (D := D) (ci := 2) (v := .ref j) (C := RX2) (T := TX2) (N := 13) hx hb hts hinX2 hown hK hP 8 rfl rfl 1 (by decide) (hts (.fieldLink RX2 27 "LedgerShares$Run" "sheet" "LLedgerShares$Sheet;") (List.mem_of_getElem? (i := 2) rfl)) (fun _ h9 => h9) rfl dX2_leavesLike_83 ?_
              refine va_get (D := D) (ci := 3) (v := .ref r9) (C := RX3) (T := TX3) (N := 14) hx hb hts hinX3 hown hK hP 9 rfl rfl 9 (by decide) (hts (.fieldLink RX2 142 "LedgerShares$Sheet" "outcomes" "[I") (List.mem_of_getElem? (i := 3) rfl)) (fun _ h9 => h9) rfl dX2_leavesLike_86 ?_
              refine lv_iload_n hx hb dX2_leavesLike_89 rfl (lv_at hl 0 rfl) ?_
              refine x_iald hx hb hE hP 15 rfl (k) (by omega) (by decide) (rfl) dX2_leavesLike_90 ?_
              refine lv_icmp_eq (tgt := 96) hx hb dX2_leavesLike_91 (by decide) (fun c91 => ?_) (fun c91 => ?_)
              · refine lv_iinc (v := nI (k + 1)) (lv' := [(2, .int (nI (k + 1))), (0, .ref u), (1, .ref v)]) hx hb dX2_leavesLike_96 hl (k := 0) rfl (nI_1 k) (by decide) rfl (fun ls hl => ?_)
                refine lv_goto (tgt := 59) hx hb dX2_leavesLike_99 (by decide) ?_
                exact ih59 (k + 1) (by omega) (by omega) (by rw [hin2]; simp [lkO, g64, c91]) ls (lv_sub hl [0, 1, 2] rfl)
              · refine lv_iconst (v := 0) hx hb dX2_leavesLike_94 (by decide) ?_
                exact W.zret hx hb hr (by decide) (fun t ht hW => ⟨_, rfl, by rw [hin2]; simp [lkO, g64, c91], ht⟩) (fun q h => by cases h) dX2_leavesLike_95
        exact loop59 41 0 (by omega) (by omega) q8 ls (lv_sub hl [0, 1, 2] rfl)
      · have g18 : k ≤ 7 := Nat.le_of_not_lt (fun z => c18 (nI_lt (a := 7) (b := k) z (by omega)))
        refine lv_aload_n hx hb dX2_leavesLike_21 rfl (lv_at hl 1 rfl) ?_
        refine va_get (D := D) (ci := 2) (v := .ref h) (C := RX2) (T := TX2) (N := 13) hx hb hts hinX2 hown hK hP 0 rfl rfl 1 (by decide) (hts (.fieldLink RX2 27 "LedgerShares$Run" "sheet" "LLedgerShares$Sheet;") (List.mem_of_getElem? (i := 2) rfl)) (fun _ h9 => h9) rfl dX2_leavesLike_22 ?_
        refine lv_aload_n hx hb dX2_leavesLike_25 rfl (lv_at hl 1 rfl) ?_
        refine va_get (D := D) (ci := 2) (v := .int (nI cl)) (C := RX2) (T := TX2) (N := 13) hx hb hts hinX2 hown hK hP 0 rfl rfl 3 (by decide) (hts (.fieldLink RX2 42 "LedgerShares$Run" "calls" "I") (List.mem_of_getElem? (i := 1) rfl)) (fun _ h9 => h9) rfl dX2_leavesLike_26 ?_
        refine lv_iload_n hx hb dX2_leavesLike_29 rfl (lv_at hl 0 rfl) ?_
        refine vp_callSl (va_Run.run (va_runV (As := [.int (nI cl), .int (nI k)]) (rest := []) ⟨hx, hb, hml, hown, hts⟩ (k_standing l D cI cJ cZ h hB q1 q2 q3 q4 q5 q6 q7 q8 q9 q10 q11 q12 q13 st ca cb ga gb b1 b2 b3 b4 b5 b6 bz ak bk (nI k) cl hcl) (cwV 2 hts gX2_leavesLike_X3_standing rfl rfl rfl (by decide +kernel) ⟨Nat.le_of_ble_eq_true rfl, Nat.le_of_ble_eq_true rfl⟩) ⟨bl_ro, va_recv hK (hP.sub (ws' := [(h, .inr (3, [.ref hB, .ref q1, .ref q2, .ref q3, .ref q4, .ref q5, .ref q6, .ref q7, .ref q8, .ref q9, .ref q10, .ref q11, .ref q12, .ref q13])), (q1, .inl (cI, 40, .inl st)), (q5, .inl (cZ, 40, .inl ca)), (q6, .inl (cZ, 40, .inl cb)), (q7, .inl (cJ, 40, .inr (.inl ga))), (q8, .inl (cJ, 40, .inr (.inl gb))), (hB, .inr (0, [.int bz, .ref b1, .ref b2, .ref b3, .ref b4, .ref b5, .ref b6])), (b2, .inl (cI, 40, .inl ak)), (b3, .inl (cI, 40, .inl bk))]) [1, 2, 3, 4, 5, 6, 16, 17, 18] rfl) (ci := 3) (q0 := 0) rfl rfl, fun U hU hW => ⟨rfl, by rw [hU]; exact (hP.sub (ws' := [(h, .inr (3, [.ref hB, .ref q1, .ref q2, .ref q3, .ref q4, .ref q5, .ref q6, .ref q7, .ref q8, .ref q9, .ref q10, .ref q11, .ref q12, .ref q13])), (q1, .inl (cI, 40, .inl st)), (q5, .inl (cZ, 40, .inl ca)), (q6, .inl (cZ, 40, .inl cb)), (q7, .inl (cJ, 40, .inr (.inl ga))), (q8, .inl (cJ, 40, .inr (.inl gb))), (hB, .inr (0, [.int bz, .ref b1, .ref b2, .ref b3, .ref b4, .ref b5, .ref b6])), (b2, .inl (cI, 40, .inl ak)), (b3, .inl (cI, 40, .inl bk))]) [1, 2, 3, 4, 5, 6, 16, 17, 18] rfl), hE.warm2 hW⟩⟩ rfl rfl hl.1 rfl (lv_room (Nat.le_of_ble_eq_true rfl)) dX2_leavesLike_30 ⟨Nat.zero_le _, Nat.zero_le _⟩)) (fun ra30 hra30 => ?_)
        subst hra30
        refine lv_aload_n hx hb dX2_leavesLike_33 rfl (lv_at hl 2 rfl) ?_
        refine va_get (D := D) (ci := 2) (v := .ref j) (C := RX2) (T := TX2) (N := 13) hx hb hts hinX2 hown hK hP 8 rfl rfl 1 (by decide) (hts (.fieldLink RX2 27 "LedgerShares$Run" "sheet" "LLedgerShares$Sheet;") (List.mem_of_getElem? (i := 2) rfl)) (fun _ h9 => h9) rfl dX2_leavesLike_34 ?_
        refine lv_aload_n hx hb dX2_leavesLike_37 rfl (lv_at hl 1 rfl) ?_
        refine va_get (D := D) (ci := 2) (v := .int (nI cl)) (C := RX2) (T := TX2) (N := 13) hx hb hts hinX2 hown hK hP 0 rfl rfl 3 (by decide) (hts (.fieldLink RX2 42 "LedgerShares$Run" "calls" "I") (List.mem_of_getElem? (i := 1) rfl)) (fun _ h9 => h9) rfl dX2_leavesLike_38 ?_
        refine lv_iload_n hx hb dX2_leavesLike_41 rfl (lv_at hl 0 rfl) ?_
        refine vp_callSl (va_Run.run (va_runV (As := [.int (nI cl), .int (nI k)]) (rest := [.long (stnd st ca ak cb bk ga gb (nI k) cl)]) ⟨hx, hb, hml, hown, hts⟩ (k_standing l D cI cJ cZ j hB r1 r2 r3 r4 r5 r6 r7 r8 r9 r10 r11 r12 r13 st2 ca2 cb2 ga2 gb2 b1 b2 b3 b4 b5 b6 bz ak bk (nI k) cl hcl) (cwV 2 hts gX2_leavesLike_X3_standing rfl rfl rfl (by decide +kernel) ⟨Nat.le_of_ble_eq_true rfl, Nat.le_of_ble_eq_true rfl⟩) ⟨bl_ro, va_recv hK (hP.sub (ws' := [(j, .inr (3, [.ref hB, .ref r1, .ref r2, .ref r3, .ref r4, .ref r5, .ref r6, .ref r7, .ref r8, .ref r9, .ref r10, .ref r11, .ref r12, .ref r13])), (r1, .inl (cI, 40, .inl st2)), (r5, .inl (cZ, 40, .inl ca2)), (r6, .inl (cZ, 40, .inl cb2)), (r7, .inl (cJ, 40, .inr (.inl ga2))), (r8, .inl (cJ, 40, .inr (.inl gb2))), (hB, .inr (0, [.int bz, .ref b1, .ref b2, .ref b3, .ref b4, .ref b5, .ref b6])), (b2, .inl (cI, 40, .inl ak)), (b3, .inl (cI, 40, .inl bk))]) [9, 10, 11, 12, 13, 14, 16, 17, 18] rfl) (ci := 3) (q0 := 0) rfl rfl, fun U hU hW => ⟨rfl, by rw [hU]; exact (hP.sub (ws' := [(j, .inr (3, [.ref hB, .ref r1, .ref r2, .ref r3, .ref r4, .ref r5, .ref r6, .ref r7, .ref r8, .ref r9, .ref r10, .ref r11, .ref r12, .ref r13])), (r1, .inl (cI, 40, .inl st2)), (r5, .inl (cZ, 40, .inl ca2)), (r6, .inl (cZ, 40, .inl cb2)), (r7, .inl (cJ, 40, .inr (.inl ga2))), (r8, .inl (cJ, 40, .inr (.inl gb2))), (hB, .inr (0, [.int bz, .ref b1, .ref b2, .ref b3, .ref b4, .ref b5, .ref b6])), (b2, .inl (cI, 40, .inl ak)), (b3, .inl (cI, 40, .inl bk))]) [9, 10, 11, 12, 13, 14, 16, 17, 18] rfl), hE.warm2 hW⟩⟩ rfl rfl hl.1 rfl (lv_room (Nat.le_of_ble_eq_true rfl)) dX2_leavesLike_42 ⟨Nat.zero_le _, Nat.zero_le _⟩)) (fun ra42 hra42 => ?_)
        subst hra42
        refine W.lcmp hx hb dX2_leavesLike_45 ?_
        refine lv_if_eq (tgt := 51) hx hb dX2_leavesLike_46 (by decide) (fun c46 => ?_) (fun c46 => ?_)
        · have c46 := (lg_cmp_eq _ _).mp c46
          refine lv_iinc (v := nI (k + 1)) (lv' := [(2, .int (nI (k + 1))), (0, .ref u), (1, .ref v)]) hx hb dX2_leavesLike_51 hl (k := 0) rfl (nI_1 k) (by decide) rfl (fun ls hl => ?_)
          refine lv_goto (tgt := 15) hx hb dX2_leavesLike_54 (by decide) ?_
          exact ih15 (k + 1) (by omega) (by omega) (by rw [hinv]; simp [lkK, g18, c46]) ls (lv_sub hl [0, 1, 2] rfl)
        · have c46 := mt (lg_cmp_eq _ _).mpr c46
          refine lv_iconst (v := 0) hx hb dX2_leavesLike_49 (by decide) ?_
          exact W.zret hx hb hr (by decide) (fun t ht hW => ⟨_, rfl, by rw [hinv]; simp [lkK, g18, c46], ht⟩) (fun q h => by cases h) dX2_leavesLike_50
  exact loop15 9 0 (by omega) (by omega) rfl ls (lv_sub hl [0, 1, 2] rfl)
end
