section
-- ===== PART A: goes FIRST, ahead of the names: the tables' words, and 'selects' of the private methods out of them =====
/-- a private method of a class that the tables say can be made, by its rows of tables_1 -/
def lw_okq (q : MethodName × Nat) : Prop := (q.1.cls ≠ "java/lang/invoke/MethodHandle" ∧ q.1.cls ≠ "java/lang/invoke/VarHandle") ∧ Cond.instantiable q.1.cls q.2 ∈ tables_1 ∧ Cond.privateMethod q.1 ∈ tables_1 ∧ Cond.instanceMethod q.1 ∈ tables_1
theorem lw_p0 : lw_okq (⟨"SeedDrawers", "newContent", "(I)LSeedDrawers$Content;"⟩, 12) := ⟨⟨by decide +kernel, by decide +kernel⟩, List.mem_of_getElem? (i := 6) (by decide +kernel), List.mem_of_getElem? (i := 112) (by decide +kernel), List.mem_of_getElem? (i := 113) (by decide +kernel)⟩
theorem lw_p1 : lw_okq (⟨"SeedDrawers", "holdersOf", "(LSeedDrawers$Content;)I"⟩, 12) := ⟨⟨by decide +kernel, by decide +kernel⟩, List.mem_of_getElem? (i := 6) (by decide +kernel), List.mem_of_getElem? (i := 116) (by decide +kernel), List.mem_of_getElem? (i := 117) (by decide +kernel)⟩
theorem lw_p2 : lw_okq (⟨"SeedDrawers", "hold", "(IJ)V"⟩, 12) := ⟨⟨by decide +kernel, by decide +kernel⟩, List.mem_of_getElem? (i := 6) (by decide +kernel), List.mem_of_getElem? (i := 147) (by decide +kernel), List.mem_of_getElem? (i := 148) (by decide +kernel)⟩
theorem lw_p3 : lw_okq (⟨"SeedDrawers", "meet", "(I)I"⟩, 12) := ⟨⟨by decide +kernel, by decide +kernel⟩, List.mem_of_getElem? (i := 6) (by decide +kernel), List.mem_of_getElem? (i := 171) (by decide +kernel), List.mem_of_getElem? (i := 172) (by decide +kernel)⟩
theorem lw_p4 : lw_okq (⟨"SeedDrawers", "perform", "(LSeedDrawers$Order;)V"⟩, 12) := ⟨⟨by decide +kernel, by decide +kernel⟩, List.mem_of_getElem? (i := 6) (by decide +kernel), List.mem_of_getElem? (i := 250) (by decide +kernel), List.mem_of_getElem? (i := 251) (by decide +kernel)⟩
theorem lw_p5 : lw_okq (⟨"SeedDrawersModel", "taking", "(II)I"⟩, 18) := ⟨⟨by decide +kernel, by decide +kernel⟩, List.mem_of_getElem? (i := 287) (by decide +kernel), List.mem_of_getElem? (i := 395) (by decide +kernel), List.mem_of_getElem? (i := 396) (by decide +kernel)⟩
theorem lw_p6 : lw_okq (⟨"SeedDrawersModel", "come", "(II)I"⟩, 18) := ⟨⟨by decide +kernel, by decide +kernel⟩, List.mem_of_getElem? (i := 287) (by decide +kernel), List.mem_of_getElem? (i := 399) (by decide +kernel), List.mem_of_getElem? (i := 400) (by decide +kernel)⟩
theorem lw_p7 : lw_okq (⟨"SeedDrawersModel", "rowFault", "(I)I"⟩, 18) := ⟨⟨by decide +kernel, by decide +kernel⟩, List.mem_of_getElem? (i := 287) (by decide +kernel), List.mem_of_getElem? (i := 403) (by decide +kernel), List.mem_of_getElem? (i := 404) (by decide +kernel)⟩
theorem lw_p8 : lw_okq (⟨"SeedDrawersModel", "isEmpty", "(II)Z"⟩, 18) := ⟨⟨by decide +kernel, by decide +kernel⟩, List.mem_of_getElem? (i := 287) (by decide +kernel), List.mem_of_getElem? (i := 407) (by decide +kernel), List.mem_of_getElem? (i := 408) (by decide +kernel)⟩
theorem lw_p9 : lw_okq (⟨"SeedDrawersModel", "at", "(II)I"⟩, 18) := ⟨⟨by decide +kernel, by decide +kernel⟩, List.mem_of_getElem? (i := 287) (by decide +kernel), List.mem_of_getElem? (i := 411) (by decide +kernel), List.mem_of_getElem? (i := 412) (by decide +kernel)⟩
theorem lw_p10 : lw_okq (⟨"SeedDrawersModel", "answer", "(II)I"⟩, 18) := ⟨⟨by decide +kernel, by decide +kernel⟩, List.mem_of_getElem? (i := 287) (by decide +kernel), List.mem_of_getElem? (i := 415) (by decide +kernel), List.mem_of_getElem? (i := 416) (by decide +kernel)⟩
theorem lw_p11 : lw_okq (⟨"SeedDrawersModel", "met1", "(I)I"⟩, 18) := ⟨⟨by decide +kernel, by decide +kernel⟩, List.mem_of_getElem? (i := 287) (by decide +kernel), List.mem_of_getElem? (i := 419) (by decide +kernel), List.mem_of_getElem? (i := 420) (by decide +kernel)⟩
theorem lw_p12 : lw_okq (⟨"SeedDrawersModel", "puts", "(II)I"⟩, 18) := ⟨⟨by decide +kernel, by decide +kernel⟩, List.mem_of_getElem? (i := 287) (by decide +kernel), List.mem_of_getElem? (i := 427) (by decide +kernel), List.mem_of_getElem? (i := 428) (by decide +kernel)⟩
theorem lw_p13 : lw_okq (⟨"SeedDrawersModel", "laying", "(III)I"⟩, 18) := ⟨⟨by decide +kernel, by decide +kernel⟩, List.mem_of_getElem? (i := 287) (by decide +kernel), List.mem_of_getElem? (i := 431) (by decide +kernel), List.mem_of_getElem? (i := 432) (by decide +kernel)⟩
theorem lw_p14 : lw_okq (⟨"SeedDrawersModel", "pours", "(IIIII)I"⟩, 18) := ⟨⟨by decide +kernel, by decide +kernel⟩, List.mem_of_getElem? (i := 287) (by decide +kernel), List.mem_of_getElem? (i := 447) (by decide +kernel), List.mem_of_getElem? (i := 448) (by decide +kernel)⟩
theorem lw_p15 : lw_okq (⟨"SeedDrawersModel", "kindAt", "(II)I"⟩, 18) := ⟨⟨by decide +kernel, by decide +kernel⟩, List.mem_of_getElem? (i := 287) (by decide +kernel), List.mem_of_getElem? (i := 451) (by decide +kernel), List.mem_of_getElem? (i := 452) (by decide +kernel)⟩
def lw_privs_1 : List (MethodName × Nat) := [(⟨"SeedDrawers", "newContent", "(I)LSeedDrawers$Content;"⟩, 12), (⟨"SeedDrawers", "holdersOf", "(LSeedDrawers$Content;)I"⟩, 12), (⟨"SeedDrawers", "hold", "(IJ)V"⟩, 12), (⟨"SeedDrawers", "meet", "(I)I"⟩, 12), (⟨"SeedDrawers", "perform", "(LSeedDrawers$Order;)V"⟩, 12), (⟨"SeedDrawersModel", "taking", "(II)I"⟩, 18), (⟨"SeedDrawersModel", "come", "(II)I"⟩, 18), (⟨"SeedDrawersModel", "rowFault", "(I)I"⟩, 18), (⟨"SeedDrawersModel", "isEmpty", "(II)Z"⟩, 18), (⟨"SeedDrawersModel", "at", "(II)I"⟩, 18), (⟨"SeedDrawersModel", "answer", "(II)I"⟩, 18), (⟨"SeedDrawersModel", "met1", "(I)I"⟩, 18), (⟨"SeedDrawersModel", "puts", "(II)I"⟩, 18), (⟨"SeedDrawersModel", "laying", "(III)I"⟩, 18), (⟨"SeedDrawersModel", "pours", "(IIIII)I"⟩, 18), (⟨"SeedDrawersModel", "kindAt", "(II)I"⟩, 18)]
theorem lw_r1 : ∀ q ∈ lw_privs_1, lw_okq q := List.forall_mem_cons.mpr ⟨lw_p0, List.forall_mem_cons.mpr ⟨lw_p1, List.forall_mem_cons.mpr ⟨lw_p2, List.forall_mem_cons.mpr ⟨lw_p3, List.forall_mem_cons.mpr ⟨lw_p4, List.forall_mem_cons.mpr ⟨lw_p5, List.forall_mem_cons.mpr ⟨lw_p6, List.forall_mem_cons.mpr ⟨lw_p7, List.forall_mem_cons.mpr ⟨lw_p8, List.forall_mem_cons.mpr ⟨lw_p9, List.forall_mem_cons.mpr ⟨lw_p10, List.forall_mem_cons.mpr ⟨lw_p11, List.forall_mem_cons.mpr ⟨lw_p12, List.forall_mem_cons.mpr ⟨lw_p13, List.forall_mem_cons.mpr ⟨lw_p14, List.forall_mem_cons.mpr ⟨lw_p15, fun _ h => absurd h List.not_mem_nil⟩⟩⟩⟩⟩⟩⟩⟩⟩⟩⟩⟩⟩⟩⟩⟩
theorem lw_p16 : lw_okq (⟨"SeedDrawersModel", "swaps", "(IIII)I"⟩, 18) := ⟨⟨by decide +kernel, by decide +kernel⟩, List.mem_of_getElem? (i := 287) (by decide +kernel), List.mem_of_getElem? (i := 459) (by decide +kernel), List.mem_of_getElem? (i := 460) (by decide +kernel)⟩
theorem lw_p17 : lw_okq (⟨"SeedDrawersModel", "turns", "(I)I"⟩, 18) := ⟨⟨by decide +kernel, by decide +kernel⟩, List.mem_of_getElem? (i := 287) (by decide +kernel), List.mem_of_getElem? (i := 467) (by decide +kernel), List.mem_of_getElem? (i := 468) (by decide +kernel)⟩
theorem lw_p18 : lw_okq (⟨"SeedDrawersModel", "does", "(I)I"⟩, 18) := ⟨⟨by decide +kernel, by decide +kernel⟩, List.mem_of_getElem? (i := 287) (by decide +kernel), List.mem_of_getElem? (i := 488) (by decide +kernel), List.mem_of_getElem? (i := 489) (by decide +kernel)⟩
def lw_privs_2 : List (MethodName × Nat) := [(⟨"SeedDrawersModel", "swaps", "(IIII)I"⟩, 18), (⟨"SeedDrawersModel", "turns", "(I)I"⟩, 18), (⟨"SeedDrawersModel", "does", "(I)I"⟩, 18)]
theorem lw_r2 : ∀ q ∈ lw_privs_2, lw_okq q := List.forall_mem_cons.mpr ⟨lw_p16, List.forall_mem_cons.mpr ⟨lw_p17, List.forall_mem_cons.mpr ⟨lw_p18, fun _ h => absurd h List.not_mem_nil⟩⟩⟩
def lw_privs : List (MethodName × Nat) := lw_privs_1 ++ (lw_privs_2)
def lw_tbl : List Cond := k2_sels lw_privs ++ tables_1
theorem lw_privs_ok : ∀ q ∈ lw_privs, lw_okq q := by
  show ∀ q ∈ lw_privs_1 ++ (lw_privs_2), lw_okq q
  exact List.forall_mem_append.mpr ⟨lw_r1, lw_r2⟩
/-! ===== BEGIN words of one list among another's, by their places ===== -/
theorem goodIn_r {big : List Cond} (ws : List Cond) (ps : List Nat) (hp : ws = ps.filterMap (fun i => big[i]?)) (h : ws.all goodWord = true) : GoodIn big ws := by
  intro w hw
  have h1 := List.all_eq_true.mp h w hw
  rw [hp] at hw
  obtain ⟨i, -, hi⟩ := List.mem_filterMap.mp hw
  have hm : w ∈ big := by first | exact List.mem_of_getElem? hi | exact List.getElem?_mem hi
  exact ⟨hm, good_of_word h1⟩
theorem goodIn_app {big a b : List Cond} (ha : GoodIn big a) (hb : GoodIn big b) : GoodIn big (a ++ b) := fun w h => (List.mem_append.mp h).elim (ha w) (hb w)
theorem goodIn_ca {big a b : List Cond} {c : Cond} (ha : GoodIn big (c :: a)) (hb : GoodIn big b) : GoodIn big (c :: (a ++ b)) := fun w h => (List.mem_cons.mp h).elim (fun e => ha w (List.mem_cons.mpr (Or.inl e))) (fun h => (List.mem_append.mp h).elim (fun h => ha w (List.mem_cons.mpr (Or.inr h))) (hb w))
theorem goodIn_sub {big ws : List Cond} (hm : ∀ w ∈ ws, w ∈ big) (h : ws.all goodWord = true) : GoodIn big ws := fun w hw => ⟨hm w hw, good_of_word (List.all_eq_true.mp h w hw)⟩
/-! ===== END ===== -/

/-! ===== BEGIN printed: names, fields, word lists, decode rows ===== -/
def RX0 : String := "SeedDrawers$Content"
def TX0 : u_T := fun k => match k with
  | 0 => ("SeedDrawers$Content", "has", "I", false)
  | 1 => ("SeedDrawers$Content", "noteNumber", "I", false)
  | 2 => ("SeedDrawers$Content", "places", "I", false)
  | _ => ("SeedDrawers$Content", "values", "[J", true)
def tyX0 : Nat → FieldType := fun k => match k with
  | 0 => .int
  | 1 => .int
  | 2 => .int
  | _ => .array .long
abbrev wsX00 : List Cond := u_ws RX0 TX0 4
theorem nmX0 : ∀ a, a < 4 → ∀ b, b < 4 → a ≠ b → (TX0 a).2.1 ≠ (TX0 b).2.1 := by decide +kernel
theorem tyX0_ok : ∀ k, k < 4 → parseFieldDescriptor (TX0 k).2.2.1 = some (tyX0 k) := by decide +kernel
abbrev cX0_init : ByteArray := prog_2_method_1_code
def yX0_init : MethodName := ⟨RX0, "<init>", "()V"⟩
abbrev cX0_becomeNote : ByteArray := prog_2_method_2_code
def yX0_becomeNote : MethodName := ⟨RX0, "becomeNote", "(I)V"⟩
abbrev cX0_becomeRow : ByteArray := prog_2_method_3_code
def yX0_becomeRow : MethodName := ⟨RX0, "becomeRow", "(II)V"⟩
abbrev cX0_isRow : ByteArray := prog_2_method_4_code
def yX0_isRow : MethodName := ⟨RX0, "isRow", "()Z"⟩
abbrev cX0_faultOfRow : ByteArray := prog_2_method_5_code
def yX0_faultOfRow : MethodName := ⟨RX0, "faultOfRow", "()I"⟩
abbrev cX0_faultOfComing : ByteArray := prog_2_method_6_code
def yX0_faultOfComing : MethodName := ⟨RX0, "faultOfComing", "(I)I"⟩
abbrev cX0_faultOfLaying : ByteArray := prog_2_method_7_code
def yX0_faultOfLaying : MethodName := ⟨RX0, "faultOfLaying", "(II)I"⟩
abbrev cX0_kindAt : ByteArray := prog_2_method_8_code
def yX0_kindAt : MethodName := ⟨RX0, "kindAt", "(I)I"⟩
abbrev cX0_reverse : ByteArray := prog_2_method_9_code
def yX0_reverse : MethodName := ⟨RX0, "reverse", "()I"⟩
abbrev cX0_total : ByteArray := prog_2_method_10_code
def yX0_total : MethodName := ⟨RX0, "total", "()J"⟩
abbrev cX0_firstPlaceOf : ByteArray := prog_2_method_11_code
def yX0_firstPlaceOf : MethodName := ⟨RX0, "firstPlaceOf", "(IJ)I"⟩
def RX1 : String := "SeedDrawers$Order"
def TX1 : u_T := fun k => match k with
  | 0 => ("SeedDrawers$Order", "op", "I", false)
  | 1 => ("SeedDrawers$Order", "a", "I", false)
  | 2 => ("SeedDrawers$Order", "i", "I", false)
  | 3 => ("SeedDrawers$Order", "b", "I", false)
  | _ => ("SeedDrawers$Order", "j", "I", false)
def tyX1 : Nat → FieldType := fun k => match k with
  | 0 => .int
  | 1 => .int
  | 2 => .int
  | 3 => .int
  | _ => .int
abbrev wsX10 : List Cond := u_ws RX1 TX1 5
theorem nmX1 : ∀ a, a < 5 → ∀ b, b < 5 → a ≠ b → (TX1 a).2.1 ≠ (TX1 b).2.1 := by decide +kernel
theorem tyX1_ok : ∀ k, k < 5 → parseFieldDescriptor (TX1 k).2.2.1 = some (tyX1 k) := by decide +kernel
abbrev cX1_init : ByteArray := prog_3_method_1_code
def yX1_init : MethodName := ⟨RX1, "<init>", "()V"⟩
abbrev cX1_write : ByteArray := prog_3_method_2_code
def yX1_write : MethodName := ⟨RX1, "write", "(IIIII)V"⟩
def RX2 : String := "SeedDrawers"
def TX2 : u_T := fun k => match k with
  | 0 => ("SeedDrawers", "nothing", "LSeedDrawers$Content;", true)
  | 1 => ("SeedDrawers", "drawers", "[LSeedDrawers$Content;", true)
  | 2 => ("SeedDrawers", "contents", "[LSeedDrawers$Content;", true)
  | 3 => ("SeedDrawers", "handKind", "I", false)
  | 4 => ("SeedDrawers", "handValue", "J", false)
  | 5 => ("SeedDrawers", "cardCount", "I", false)
  | 6 => ("SeedDrawers", "orders", "[LSeedDrawers$Order;", true)
  | 7 => ("SeedDrawers", "orderCount", "I", false)
  | 8 => ("SeedDrawers", "metFaults", "[I", true)
  | 9 => ("SeedDrawers", "metCount", "I", false)
  | 10 => ("SeedDrawers", "latestFault", "I", false)
  | _ => ("SeedDrawers", "faultCounts", "[I", true)
def tyX2 : Nat → FieldType := fun k => match k with
  | 0 => .object "SeedDrawers$Content"
  | 1 => .array (.object "SeedDrawers$Content")
  | 2 => .array (.object "SeedDrawers$Content")
  | 3 => .int
  | 4 => .long
  | 5 => .int
  | 6 => .array (.object "SeedDrawers$Order")
  | 7 => .int
  | 8 => .array .int
  | 9 => .int
  | 10 => .int
  | _ => .array .int
abbrev wsX20 : List Cond := u_ws RX2 TX2 12
theorem nmX2 : ∀ a, a < 12 → ∀ b, b < 12 → a ≠ b → (TX2 a).2.1 ≠ (TX2 b).2.1 := by decide +kernel
theorem tyX2_ok : ∀ k, k < 12 → parseFieldDescriptor (TX2 k).2.2.1 = some (tyX2 k) := by decide +kernel
abbrev cX2_init : ByteArray := prog_1_method_1_code
def yX2_init : MethodName := ⟨RX2, "<init>", "()V"⟩
abbrev cX2_row : ByteArray := prog_1_method_2_code
def yX2_row : MethodName := ⟨RX2, "row", "(III)I"⟩
abbrev cX2_note : ByteArray := prog_1_method_3_code
def yX2_note : MethodName := ⟨RX2, "note", "(II)I"⟩
abbrev cX2_share : ByteArray := prog_1_method_4_code
def yX2_share : MethodName := ⟨RX2, "share", "(II)I"⟩
abbrev cX2_clear : ByteArray := prog_1_method_5_code
def yX2_clear : MethodName := ⟨RX2, "clear", "(I)I"⟩
abbrev cX2_think : ByteArray := prog_1_method_6_code
def yX2_think : MethodName := ⟨RX2, "think", "(IJ)I"⟩
abbrev cX2_card : ByteArray := prog_1_method_7_code
def yX2_card : MethodName := ⟨RX2, "card", "()I"⟩
abbrev cX2_drop : ByteArray := prog_1_method_8_code
def yX2_drop : MethodName := ⟨RX2, "drop", "()I"⟩
abbrev cX2_take : ByteArray := prog_1_method_9_code
def yX2_take : MethodName := ⟨RX2, "take", "(II)I"⟩
abbrev cX2_lay : ByteArray := prog_1_method_10_code
def yX2_lay : MethodName := ⟨RX2, "lay", "(II)I"⟩
abbrev cX2_size : ByteArray := prog_1_method_11_code
def yX2_size : MethodName := ⟨RX2, "size", "(I)I"⟩
abbrev cX2_pour : ByteArray := prog_1_method_12_code
def yX2_pour : MethodName := ⟨RX2, "pour", "(IIIII)I"⟩
abbrev cX2_swap : ByteArray := prog_1_method_13_code
def yX2_swap : MethodName := ⟨RX2, "swap", "(IIII)I"⟩
abbrev cX2_turn : ByteArray := prog_1_method_14_code
def yX2_turn : MethodName := ⟨RX2, "turn", "(I)I"⟩
abbrev cX2_sum : ByteArray := prog_1_method_15_code
def yX2_sum : MethodName := ⟨RX2, "sum", "(I)J"⟩
abbrev cX2_find : ByteArray := prog_1_method_16_code
def yX2_find : MethodName := ⟨RX2, "find", "(I)I"⟩
abbrev cX2_order : ByteArray := prog_1_method_17_code
def yX2_order : MethodName := ⟨RX2, "order", "(IIIII)I"⟩
abbrev cX2_run : ByteArray := prog_1_method_18_code
def yX2_run : MethodName := ⟨RX2, "run", "()I"⟩
abbrev cX2_met : ByteArray := prog_1_method_19_code
def yX2_met : MethodName := ⟨RX2, "met", "(I)I"⟩
abbrev cX2_fault : ByteArray := prog_1_method_20_code
def yX2_fault : MethodName := ⟨RX2, "fault", "()I"⟩
abbrev cX2_faults : ByteArray := prog_1_method_21_code
def yX2_faults : MethodName := ⟨RX2, "faults", "(I)I"⟩
abbrev cX2_told : ByteArray := prog_1_method_22_code
def yX2_told : MethodName := ⟨RX2, "told", "(II)I"⟩
abbrev cX2_hand : ByteArray := prog_1_method_23_code
def yX2_hand : MethodName := ⟨RX2, "hand", "()I"⟩
abbrev cX2_value : ByteArray := prog_1_method_24_code
def yX2_value : MethodName := ⟨RX2, "value", "()J"⟩
abbrev cX2_isDrawer : ByteArray := prog_1_method_25_code
def yX2_isDrawer : MethodName := ⟨RX2, "isDrawer", "(I)Z"⟩
abbrev cX2_isTellableIndex : ByteArray := prog_1_method_26_code
def yX2_isTellableIndex : MethodName := ⟨RX2, "isTellableIndex", "(I)Z"⟩
abbrev cX2_hold : ByteArray := prog_1_method_27_code
def yX2_hold : MethodName := ⟨RX2, "hold", "(IJ)V"⟩
abbrev cX2_valueOfKind : ByteArray := prog_1_method_28_code
def yX2_valueOfKind : MethodName := ⟨RX2, "valueOfKind", "(IJ)J"⟩
abbrev cX2_fits : ByteArray := prog_1_method_29_code
def yX2_fits : MethodName := ⟨RX2, "fits", "(II)Z"⟩
abbrev cX2_holdersOf : ByteArray := prog_1_method_30_code
def yX2_holdersOf : MethodName := ⟨RX2, "holdersOf", "(LSeedDrawers$Content;)I"⟩
abbrev cX2_newContent : ByteArray := prog_1_method_31_code
def yX2_newContent : MethodName := ⟨RX2, "newContent", "(I)LSeedDrawers$Content;"⟩
abbrev cX2_meet : ByteArray := prog_1_method_32_code
def yX2_meet : MethodName := ⟨RX2, "meet", "(I)I"⟩
abbrev cX2_pourOne : ByteArray := prog_1_method_33_code
def yX2_pourOne : MethodName := ⟨RX2, "pourOne", "(LSeedDrawers$Content;ILSeedDrawers$Content;I)I"⟩
abbrev cX2_faultOfSwapping : ByteArray := prog_1_method_34_code
def yX2_faultOfSwapping : MethodName := ⟨RX2, "faultOfSwapping", "(LSeedDrawers$Content;ILSeedDrawers$Content;I)I"⟩
abbrev cX2_perform : ByteArray := prog_1_method_35_code
def yX2_perform : MethodName := ⟨RX2, "perform", "(LSeedDrawers$Order;)V"⟩
def RX3 : String := "SeedDrawersModel"
def TX3 : u_T := fun k => match k with
  | 0 => ("SeedDrawersModel", "has", "[I", true)
  | 1 => ("SeedDrawersModel", "note", "[I", true)
  | 2 => ("SeedDrawersModel", "rowOf", "[I", true)
  | 3 => ("SeedDrawersModel", "rows", "I", false)
  | 4 => ("SeedDrawersModel", "kindOf", "[I", true)
  | 5 => ("SeedDrawersModel", "sizeOf", "[I", true)
  | 6 => ("SeedDrawersModel", "place", "[J", true)
  | 7 => ("SeedDrawersModel", "holds", "Z", false)
  | 8 => ("SeedDrawersModel", "handKind", "I", false)
  | 9 => ("SeedDrawersModel", "handValue", "J", false)
  | 10 => ("SeedDrawersModel", "cards", "I", false)
  | 11 => ("SeedDrawersModel", "fault", "I", false)
  | 12 => ("SeedDrawersModel", "faults", "[I", true)
  | 13 => ("SeedDrawersModel", "orders", "I", false)
  | 14 => ("SeedDrawersModel", "orderOf", "[I", true)
  | 15 => ("SeedDrawersModel", "done", "I", false)
  | 16 => ("SeedDrawersModel", "doneFault", "[I", true)
  | _ => ("SeedDrawersModel", "poured", "I", false)
def tyX3 : Nat → FieldType := fun k => match k with
  | 0 => .array .int
  | 1 => .array .int
  | 2 => .array .int
  | 3 => .int
  | 4 => .array .int
  | 5 => .array .int
  | 6 => .array .long
  | 7 => .boolean
  | 8 => .int
  | 9 => .long
  | 10 => .int
  | 11 => .int
  | 12 => .array .int
  | 13 => .int
  | 14 => .array .int
  | 15 => .int
  | 16 => .array .int
  | _ => .int
abbrev wsX30 : List Cond := u_ws RX3 TX3 18
theorem nmX3 : ∀ a, a < 18 → ∀ b, b < 18 → a ≠ b → (TX3 a).2.1 ≠ (TX3 b).2.1 := by decide +kernel
theorem tyX3_ok : ∀ k, k < 18 → parseFieldDescriptor (TX3 k).2.2.1 = some (tyX3 k) := by decide +kernel
abbrev cX3_init : ByteArray := prog_5_method_1_code
def yX3_init : MethodName := ⟨RX3, "<init>", "()V"⟩
abbrev cX3_beyond : ByteArray := prog_5_method_2_code
def yX3_beyond : MethodName := ⟨RX3, "beyond", "(JJJ)Z"⟩
abbrev cX3_no : ByteArray := prog_5_method_3_code
def yX3_no : MethodName := ⟨RX3, "no", "(I)Z"⟩
abbrev cX3_met1 : ByteArray := prog_5_method_4_code
def yX3_met1 : MethodName := ⟨RX3, "met1", "(I)I"⟩
abbrev cX3_answer : ByteArray := prog_5_method_5_code
def yX3_answer : MethodName := ⟨RX3, "answer", "(II)I"⟩
abbrev cX3_row : ByteArray := prog_5_method_6_code
def yX3_row : MethodName := ⟨RX3, "row", "(III)I"⟩
abbrev cX3_note : ByteArray := prog_5_method_7_code
def yX3_note : MethodName := ⟨RX3, "note", "(II)I"⟩
abbrev cX3_share : ByteArray := prog_5_method_8_code
def yX3_share : MethodName := ⟨RX3, "share", "(II)I"⟩
abbrev cX3_clear : ByteArray := prog_5_method_9_code
def yX3_clear : MethodName := ⟨RX3, "clear", "(I)I"⟩
abbrev cX3_think : ByteArray := prog_5_method_10_code
def yX3_think : MethodName := ⟨RX3, "think", "(IJ)I"⟩
abbrev cX3_card : ByteArray := prog_5_method_11_code
def yX3_card : MethodName := ⟨RX3, "card", "()I"⟩
abbrev cX3_drop : ByteArray := prog_5_method_12_code
def yX3_drop : MethodName := ⟨RX3, "drop", "()I"⟩
abbrev cX3_rowFault : ByteArray := prog_5_method_13_code
def yX3_rowFault : MethodName := ⟨RX3, "rowFault", "(I)I"⟩
abbrev cX3_come : ByteArray := prog_5_method_14_code
def yX3_come : MethodName := ⟨RX3, "come", "(II)I"⟩
abbrev cX3_at : ByteArray := prog_5_method_15_code
def yX3_at : MethodName := ⟨RX3, "at", "(II)I"⟩
abbrev cX3_isEmpty : ByteArray := prog_5_method_16_code
def yX3_isEmpty : MethodName := ⟨RX3, "isEmpty", "(II)Z"⟩
abbrev cX3_fits : ByteArray := prog_5_method_17_code
def yX3_fits : MethodName := ⟨RX3, "fits", "(II)Z"⟩
abbrev cX3_laying : ByteArray := prog_5_method_18_code
def yX3_laying : MethodName := ⟨RX3, "laying", "(III)I"⟩
abbrev cX3_kindAt : ByteArray := prog_5_method_19_code
def yX3_kindAt : MethodName := ⟨RX3, "kindAt", "(II)I"⟩
abbrev cX3_taking : ByteArray := prog_5_method_20_code
def yX3_taking : MethodName := ⟨RX3, "taking", "(II)I"⟩
abbrev cX3_take : ByteArray := prog_5_method_21_code
def yX3_take : MethodName := ⟨RX3, "take", "(II)I"⟩
abbrev cX3_puts : ByteArray := prog_5_method_22_code
def yX3_puts : MethodName := ⟨RX3, "puts", "(II)I"⟩
abbrev cX3_lay : ByteArray := prog_5_method_23_code
def yX3_lay : MethodName := ⟨RX3, "lay", "(II)I"⟩
abbrev cX3_size : ByteArray := prog_5_method_24_code
def yX3_size : MethodName := ⟨RX3, "size", "(I)I"⟩
abbrev cX3_pours : ByteArray := prog_5_method_25_code
def yX3_pours : MethodName := ⟨RX3, "pours", "(IIIII)I"⟩
abbrev cX3_pour : ByteArray := prog_5_method_26_code
def yX3_pour : MethodName := ⟨RX3, "pour", "(IIIII)I"⟩
abbrev cX3_swaps : ByteArray := prog_5_method_27_code
def yX3_swaps : MethodName := ⟨RX3, "swaps", "(IIII)I"⟩
abbrev cX3_swap : ByteArray := prog_5_method_28_code
def yX3_swap : MethodName := ⟨RX3, "swap", "(IIII)I"⟩
abbrev cX3_turns : ByteArray := prog_5_method_29_code
def yX3_turns : MethodName := ⟨RX3, "turns", "(I)I"⟩
abbrev cX3_turn : ByteArray := prog_5_method_30_code
def yX3_turn : MethodName := ⟨RX3, "turn", "(I)I"⟩
abbrev cX3_sum : ByteArray := prog_5_method_31_code
def yX3_sum : MethodName := ⟨RX3, "sum", "(I)J"⟩
abbrev cX3_find : ByteArray := prog_5_method_32_code
def yX3_find : MethodName := ⟨RX3, "find", "(I)I"⟩
abbrev cX3_order : ByteArray := prog_5_method_33_code
def yX3_order : MethodName := ⟨RX3, "order", "(IIIII)I"⟩
abbrev cX3_does : ByteArray := prog_5_method_34_code
def yX3_does : MethodName := ⟨RX3, "does", "(I)I"⟩
abbrev cX3_run : ByteArray := prog_5_method_35_code
def yX3_run : MethodName := ⟨RX3, "run", "()I"⟩
abbrev cX3_met : ByteArray := prog_5_method_36_code
def yX3_met : MethodName := ⟨RX3, "met", "(I)I"⟩
abbrev cX3_fault : ByteArray := prog_5_method_37_code
def yX3_fault : MethodName := ⟨RX3, "fault", "()I"⟩
abbrev cX3_faults : ByteArray := prog_5_method_38_code
def yX3_faults : MethodName := ⟨RX3, "faults", "(I)I"⟩
abbrev cX3_told : ByteArray := prog_5_method_39_code
def yX3_told : MethodName := ⟨RX3, "told", "(II)I"⟩
abbrev cX3_hand : ByteArray := prog_5_method_40_code
def yX3_hand : MethodName := ⟨RX3, "hand", "()I"⟩
abbrev cX3_value : ByteArray := prog_5_method_41_code
def yX3_value : MethodName := ⟨RX3, "value", "()J"⟩
def RL : String := "SeedDrawersLaw"
abbrev cL_law : ByteArray := code
def yL_law : MethodName := ⟨RL, "law", "([I)Z"⟩
def wsX0_init : List Cond := .code yX0_init cX0_init 1 none :: ([.methodLink RX0 3 objectInit, .instanceMethod objectInit, .code objectInit ⟨#[0xb1]⟩ 1 none, .arrayClass .long, .fieldLink RX0 9 "SeedDrawers$Content" "values" "[J"] ++ wsX00)
def wsX0_becomeNote : List Cond := .code yX0_becomeNote cX0_becomeNote 2 none :: ([.fieldLink RX0 15 "SeedDrawers$Content" "has" "I", .fieldLink RX0 19 "SeedDrawers$Content" "noteNumber" "I"] ++ wsX00)
def wsX0_becomeRow : List Cond := .code yX0_becomeRow cX0_becomeRow 4 none :: ([.fieldLink RX0 15 "SeedDrawers$Content" "has" "I", .fieldLink RX0 19 "SeedDrawers$Content" "noteNumber" "I", .fieldLink RX0 22 "SeedDrawers$Content" "places" "I", .fieldLink RX0 9 "SeedDrawers$Content" "values" "[J"] ++ wsX00)
def wsX0_isRow : List Cond := .code yX0_isRow cX0_isRow 1 (some .boolean) :: ([.fieldLink RX0 15 "SeedDrawers$Content" "has" "I"] ++ wsX00)
def wsX0_faultOfRow : List Cond := .code yX0_faultOfRow cX0_faultOfRow 1 (some .int) :: ([.fieldLink RX0 15 "SeedDrawers$Content" "has" "I"] ++ wsX00)
def wsX0_faultOfComing : List Cond := .code yX0_faultOfComing cX0_faultOfComing 3 (some .int) :: ([.fieldLink RX0 22 "SeedDrawers$Content" "places" "I", .methodLink RX0 25 yX0_faultOfRow, .instanceMethod yX0_faultOfRow, .selects RX0 yX0_faultOfRow yX0_faultOfRow, .initialized RX0, .code yX0_faultOfRow cX0_faultOfRow 1 (some .int), .fieldLink RX0 15 "SeedDrawers$Content" "has" "I"] ++ wsX00)
def wsX2_fits : List Cond := .code yX2_fits cX2_fits 2 (some .boolean) :: ([])
def wsX0_faultOfLaying : List Cond := .code yX0_faultOfLaying cX0_faultOfLaying 4 (some .int) :: ([.fieldLink RX0 15 "SeedDrawers$Content" "has" "I", .methodLink RX0 29 yX0_faultOfComing, .instanceMethod yX0_faultOfComing, .selects RX0 yX0_faultOfComing yX0_faultOfComing, .initialized RX0, .code yX0_faultOfComing cX0_faultOfComing 3 (some .int), .fieldLink RX0 22 "SeedDrawers$Content" "places" "I", .methodLink RX0 25 yX0_faultOfRow, .instanceMethod yX0_faultOfRow, .selects RX0 yX0_faultOfRow yX0_faultOfRow, .code yX0_faultOfRow cX0_faultOfRow 1 (some .int), .static yX2_fits, .initialized RX2, .code yX2_fits cX2_fits 2 (some .boolean)] ++ wsX00)
def wsX0_kindAt : List Cond := .code yX0_kindAt cX0_kindAt 3 (some .int) :: ([.fieldLink RX0 15 "SeedDrawers$Content" "has" "I", .fieldLink RX0 9 "SeedDrawers$Content" "values" "[J"] ++ wsX00)
def wsX0_reverse : List Cond := .code yX0_reverse cX0_reverse 5 (some .int) :: ([.fieldLink RX0 22 "SeedDrawers$Content" "places" "I", .fieldLink RX0 9 "SeedDrawers$Content" "values" "[J"] ++ wsX00)
def wsX0_total : List Cond := .code yX0_total cX0_total 4 (some .long) :: ([.fieldLink RX0 22 "SeedDrawers$Content" "places" "I", .fieldLink RX0 9 "SeedDrawers$Content" "values" "[J"] ++ wsX00)
def wsX0_firstPlaceOf : List Cond := .code yX0_firstPlaceOf cX0_firstPlaceOf 5 (some .int) :: ([.fieldLink RX0 22 "SeedDrawers$Content" "places" "I", .fieldLink RX0 9 "SeedDrawers$Content" "values" "[J", .methodLink RX0 37 yX0_kindAt, .instanceMethod yX0_kindAt, .selects RX0 yX0_kindAt yX0_kindAt, .initialized RX0, .code yX0_kindAt cX0_kindAt 3 (some .int), .fieldLink RX0 15 "SeedDrawers$Content" "has" "I"] ++ wsX00)
def wsX1_init : List Cond := .code yX1_init cX1_init 1 none :: ([.methodLink RX1 1 objectInit, .instanceMethod objectInit, .code objectInit ⟨#[0xb1]⟩ 1 none])
def wsX1_write : List Cond := .code yX1_write cX1_write 6 none :: ([.fieldLink RX1 7 "SeedDrawers$Order" "op" "I", .fieldLink RX1 13 "SeedDrawers$Order" "a" "I", .fieldLink RX1 16 "SeedDrawers$Order" "i" "I", .fieldLink RX1 19 "SeedDrawers$Order" "b" "I", .fieldLink RX1 22 "SeedDrawers$Order" "j" "I"] ++ wsX10)
def wsX2_init_r1 : List Cond := [Cond.methodLink RX2 1 objectInit, Cond.instanceMethod objectInit, Cond.code objectInit ⟨#[0xb1]⟩ 1 none, Cond.classLink RX2 7 RX0, Cond.instantiable RX0 4, Cond.initialized RX0, Cond.fieldLink RX2 10 "SeedDrawers" "nothing" "LSeedDrawers$Content;", Cond.fieldLink RX2 16 "SeedDrawers" "drawers" "[LSeedDrawers$Content;", Cond.fieldLink RX2 20 "SeedDrawers" "contents" "[LSeedDrawers$Content;", Cond.fieldLink RX2 23 "SeedDrawers" "handKind" "I", Cond.classLink RX2 27 RX1, Cond.fieldLink RX2 29 "SeedDrawers" "orders" "[LSeedDrawers$Order;", Cond.instantiable RX1 5, Cond.initialized RX1, Cond.arrayClass .int, Cond.fieldLink RX2 34 "SeedDrawers" "metFaults" "[I", Cond.fieldLink RX2 38 "SeedDrawers" "faultCounts" "[I", Cond.instanceMethod yX0_init, Cond.code yX0_init cX0_init 1 none, Cond.methodLink RX0 3 objectInit, Cond.arrayClass .long, Cond.fieldLink RX0 9 "SeedDrawers$Content" "values" "[J", Cond.instanceMethod yX1_init, Cond.code yX1_init cX1_init 1 none]
def wsX2_init_r2 : List Cond := [Cond.methodLink RX1 1 objectInit]
def wsX2_init : List Cond := .code yX2_init cX2_init 2 none :: ((wsX2_init_r1 ++ wsX2_init_r2) ++ wsX00 ++ wsX20 ++ wsX10)
def wsX2_isDrawer : List Cond := .code yX2_isDrawer cX2_isDrawer 1 (some .boolean) :: ([])
def wsX2_holdersOf : List Cond := .code yX2_holdersOf cX2_holdersOf 4 (some .int) :: ([.fieldLink RX2 16 "SeedDrawers" "drawers" "[LSeedDrawers$Content;"] ++ wsX20)
def wsX2_newContent : List Cond := .code yX2_newContent cX2_newContent 4 (some (.object "SeedDrawers$Content")) :: ([.fieldLink RX2 16 "SeedDrawers" "drawers" "[LSeedDrawers$Content;", .fieldLink RX2 10 "SeedDrawers" "nothing" "LSeedDrawers$Content;", .fieldLink RX2 20 "SeedDrawers" "contents" "[LSeedDrawers$Content;", .methodLink RX2 142 yX2_holdersOf, .instanceMethod yX2_holdersOf, .selects RX2 yX2_holdersOf yX2_holdersOf, .initialized RX2, .code yX2_holdersOf cX2_holdersOf 4 (some .int)] ++ wsX20)
def wsX2_row : List Cond := .code yX2_row cX2_row 4 (some .int) :: ([.methodLink RX2 41 yX2_isDrawer, .static yX2_isDrawer, .initialized RX2, .code yX2_isDrawer cX2_isDrawer 1 (some .boolean), .methodLink RX2 45 yX2_newContent, .instanceMethod yX2_newContent, .selects RX2 yX2_newContent yX2_newContent, .code yX2_newContent cX2_newContent 4 (some (.object "SeedDrawers$Content")), .fieldLink RX2 16 "SeedDrawers" "drawers" "[LSeedDrawers$Content;", .fieldLink RX2 10 "SeedDrawers" "nothing" "LSeedDrawers$Content;", .fieldLink RX2 20 "SeedDrawers" "contents" "[LSeedDrawers$Content;", .methodLink RX2 142 yX2_holdersOf, .instanceMethod yX2_holdersOf, .selects RX2 yX2_holdersOf yX2_holdersOf, .code yX2_holdersOf cX2_holdersOf 4 (some .int), .methodLink RX2 49 yX0_becomeRow, .instanceMethod yX0_becomeRow, .selects RX0 yX0_becomeRow yX0_becomeRow, .initialized RX0, .code yX0_becomeRow cX0_becomeRow 4 none, .fieldLink RX0 15 "SeedDrawers$Content" "has" "I", .fieldLink RX0 19 "SeedDrawers$Content" "noteNumber" "I", .fieldLink RX0 22 "SeedDrawers$Content" "places" "I", .fieldLink RX0 9 "SeedDrawers$Content" "values" "[J"] ++ wsX20 ++ wsX00)
def wsX2_note : List Cond := .code yX2_note cX2_note 3 (some .int) :: ([.methodLink RX2 41 yX2_isDrawer, .static yX2_isDrawer, .initialized RX2, .code yX2_isDrawer cX2_isDrawer 1 (some .boolean), .methodLink RX2 45 yX2_newContent, .instanceMethod yX2_newContent, .selects RX2 yX2_newContent yX2_newContent, .code yX2_newContent cX2_newContent 4 (some (.object "SeedDrawers$Content")), .fieldLink RX2 16 "SeedDrawers" "drawers" "[LSeedDrawers$Content;", .fieldLink RX2 10 "SeedDrawers" "nothing" "LSeedDrawers$Content;", .fieldLink RX2 20 "SeedDrawers" "contents" "[LSeedDrawers$Content;", .methodLink RX2 142 yX2_holdersOf, .instanceMethod yX2_holdersOf, .selects RX2 yX2_holdersOf yX2_holdersOf, .code yX2_holdersOf cX2_holdersOf 4 (some .int), .methodLink RX2 53 yX0_becomeNote, .instanceMethod yX0_becomeNote, .selects RX0 yX0_becomeNote yX0_becomeNote, .initialized RX0, .code yX0_becomeNote cX0_becomeNote 2 none, .fieldLink RX0 15 "SeedDrawers$Content" "has" "I", .fieldLink RX0 19 "SeedDrawers$Content" "noteNumber" "I"] ++ wsX20 ++ wsX00)
def wsX2_share : List Cond := .code yX2_share cX2_share 3 (some .int) :: ([.fieldLink RX2 16 "SeedDrawers" "drawers" "[LSeedDrawers$Content;", .methodLink RX2 41 yX2_isDrawer, .static yX2_isDrawer, .initialized RX2, .code yX2_isDrawer cX2_isDrawer 1 (some .boolean)] ++ wsX20)
def wsX2_clear : List Cond := .code yX2_clear cX2_clear 3 (some .int) :: ([.fieldLink RX2 16 "SeedDrawers" "drawers" "[LSeedDrawers$Content;", .fieldLink RX2 10 "SeedDrawers" "nothing" "LSeedDrawers$Content;", .methodLink RX2 41 yX2_isDrawer, .static yX2_isDrawer, .initialized RX2, .code yX2_isDrawer cX2_isDrawer 1 (some .boolean)] ++ wsX20)
def wsX2_valueOfKind : List Cond := .code yX2_valueOfKind cX2_valueOfKind 3 (some .long) :: ([])
def wsX2_hold : List Cond := .code yX2_hold cX2_hold 4 none :: ([.fieldLink RX2 23 "SeedDrawers" "handKind" "I", .fieldLink RX2 86 "SeedDrawers" "handValue" "J"] ++ wsX20)
def wsX2_think : List Cond := .code yX2_think cX2_think 4 (some .int) :: ([.methodLink RX2 57 yX2_valueOfKind, .static yX2_valueOfKind, .initialized RX2, .code yX2_valueOfKind cX2_valueOfKind 3 (some .long), .methodLink RX2 61 yX2_hold, .instanceMethod yX2_hold, .selects RX2 yX2_hold yX2_hold, .code yX2_hold cX2_hold 4 none, .fieldLink RX2 23 "SeedDrawers" "handKind" "I", .fieldLink RX2 86 "SeedDrawers" "handValue" "J"] ++ wsX20)
def wsX2_card : List Cond := .code yX2_card cX2_card 1 (some .int) :: ([.fieldLink RX2 65 "SeedDrawers" "cardCount" "I", .methodLink RX2 61 yX2_hold, .instanceMethod yX2_hold, .selects RX2 yX2_hold yX2_hold, .initialized RX2, .code yX2_hold cX2_hold 4 none, .fieldLink RX2 23 "SeedDrawers" "handKind" "I", .fieldLink RX2 86 "SeedDrawers" "handValue" "J"] ++ wsX20)
def wsX2_drop : List Cond := .code yX2_drop cX2_drop 2 (some .int) :: ([.fieldLink RX2 23 "SeedDrawers" "handKind" "I", .methodLink RX2 61 yX2_hold, .instanceMethod yX2_hold, .selects RX2 yX2_hold yX2_hold, .initialized RX2, .code yX2_hold cX2_hold 4 none, .fieldLink RX2 86 "SeedDrawers" "handValue" "J"] ++ wsX20)
def wsX2_meet : List Cond := .code yX2_meet cX2_meet 2 (some .int) :: ([.fieldLink RX2 129 "SeedDrawers" "latestFault" "I", .fieldLink RX2 38 "SeedDrawers" "faultCounts" "[I"] ++ wsX20)
def wsX2_take_r1 : List Cond := [Cond.fieldLink RX2 16 "SeedDrawers" "drawers" "[LSeedDrawers$Content;", Cond.fieldLink RX2 78 "SeedDrawers$Content" "values" "[J", Cond.fieldLink RX2 23 "SeedDrawers" "handKind" "I", Cond.methodLink RX2 41 yX2_isDrawer, Cond.static yX2_isDrawer, Cond.initialized RX2, Cond.code yX2_isDrawer cX2_isDrawer 1 (some .boolean), Cond.methodLink RX2 68 yX0_faultOfComing, Cond.instanceMethod yX0_faultOfComing, Cond.selects RX0 yX0_faultOfComing yX0_faultOfComing, Cond.initialized RX0, Cond.code yX0_faultOfComing cX0_faultOfComing 3 (some .int), Cond.fieldLink RX0 22 "SeedDrawers$Content" "places" "I", Cond.methodLink RX0 25 yX0_faultOfRow, Cond.instanceMethod yX0_faultOfRow, Cond.selects RX0 yX0_faultOfRow yX0_faultOfRow, Cond.code yX0_faultOfRow cX0_faultOfRow 1 (some .int), Cond.fieldLink RX0 15 "SeedDrawers$Content" "has" "I", Cond.methodLink RX2 72 yX2_meet, Cond.instanceMethod yX2_meet, Cond.selects RX2 yX2_meet yX2_meet, Cond.code yX2_meet cX2_meet 2 (some .int), Cond.fieldLink RX2 129 "SeedDrawers" "latestFault" "I", Cond.fieldLink RX2 38 "SeedDrawers" "faultCounts" "[I"]
def wsX2_take_r2 : List Cond := [Cond.methodLink RX2 75 yX0_kindAt, Cond.instanceMethod yX0_kindAt, Cond.selects RX0 yX0_kindAt yX0_kindAt, Cond.code yX0_kindAt cX0_kindAt 3 (some .int), Cond.fieldLink RX0 9 "SeedDrawers$Content" "values" "[J", Cond.methodLink RX2 61 yX2_hold, Cond.instanceMethod yX2_hold, Cond.selects RX2 yX2_hold yX2_hold, Cond.code yX2_hold cX2_hold 4 none, Cond.fieldLink RX2 86 "SeedDrawers" "handValue" "J"]
def wsX2_take : List Cond := .code yX2_take cX2_take 5 (some .int) :: ((wsX2_take_r1 ++ wsX2_take_r2) ++ wsX20 ++ wsX00)
def wsX2_lay_r1 : List Cond := [Cond.fieldLink RX2 23 "SeedDrawers" "handKind" "I", Cond.fieldLink RX2 16 "SeedDrawers" "drawers" "[LSeedDrawers$Content;", Cond.fieldLink RX2 78 "SeedDrawers$Content" "values" "[J", Cond.fieldLink RX2 86 "SeedDrawers" "handValue" "J", Cond.methodLink RX2 41 yX2_isDrawer, Cond.static yX2_isDrawer, Cond.initialized RX2, Cond.code yX2_isDrawer cX2_isDrawer 1 (some .boolean), Cond.methodLink RX2 82 yX0_faultOfLaying, Cond.instanceMethod yX0_faultOfLaying, Cond.selects RX0 yX0_faultOfLaying yX0_faultOfLaying, Cond.initialized RX0, Cond.code yX0_faultOfLaying cX0_faultOfLaying 4 (some .int), Cond.fieldLink RX0 15 "SeedDrawers$Content" "has" "I", Cond.methodLink RX0 29 yX0_faultOfComing, Cond.instanceMethod yX0_faultOfComing, Cond.selects RX0 yX0_faultOfComing yX0_faultOfComing, Cond.code yX0_faultOfComing cX0_faultOfComing 3 (some .int), Cond.fieldLink RX0 22 "SeedDrawers$Content" "places" "I", Cond.methodLink RX0 25 yX0_faultOfRow, Cond.instanceMethod yX0_faultOfRow, Cond.selects RX0 yX0_faultOfRow yX0_faultOfRow, Cond.code yX0_faultOfRow cX0_faultOfRow 1 (some .int), Cond.static yX2_fits]
def wsX2_lay_r2 : List Cond := [Cond.code yX2_fits cX2_fits 2 (some .boolean), Cond.methodLink RX2 72 yX2_meet, Cond.instanceMethod yX2_meet, Cond.selects RX2 yX2_meet yX2_meet, Cond.code yX2_meet cX2_meet 2 (some .int), Cond.fieldLink RX2 129 "SeedDrawers" "latestFault" "I", Cond.fieldLink RX2 38 "SeedDrawers" "faultCounts" "[I"]
def wsX2_lay : List Cond := .code yX2_lay cX2_lay 5 (some .int) :: ((wsX2_lay_r1 ++ wsX2_lay_r2) ++ wsX20 ++ wsX00)
def wsX2_size : List Cond := .code yX2_size cX2_size 3 (some .int) :: ([.fieldLink RX2 16 "SeedDrawers" "drawers" "[LSeedDrawers$Content;", .fieldLink RX2 94 "SeedDrawers$Content" "places" "I", .methodLink RX2 41 yX2_isDrawer, .static yX2_isDrawer, .initialized RX2, .code yX2_isDrawer cX2_isDrawer 1 (some .boolean), .methodLink RX2 90 yX0_faultOfRow, .instanceMethod yX0_faultOfRow, .selects RX0 yX0_faultOfRow yX0_faultOfRow, .initialized RX0, .code yX0_faultOfRow cX0_faultOfRow 1 (some .int), .fieldLink RX0 15 "SeedDrawers$Content" "has" "I", .methodLink RX2 72 yX2_meet, .instanceMethod yX2_meet, .selects RX2 yX2_meet yX2_meet, .code yX2_meet cX2_meet 2 (some .int), .fieldLink RX2 129 "SeedDrawers" "latestFault" "I", .fieldLink RX2 38 "SeedDrawers" "faultCounts" "[I"] ++ wsX20 ++ wsX00)
def wsX2_isTellableIndex : List Cond := .code yX2_isTellableIndex cX2_isTellableIndex 1 (some .boolean) :: ([])
def wsX2_pourOne_r1 : List Cond := [Cond.fieldLink RX2 78 "SeedDrawers$Content" "values" "[J", Cond.methodLink RX2 68 yX0_faultOfComing, Cond.instanceMethod yX0_faultOfComing, Cond.selects RX0 yX0_faultOfComing yX0_faultOfComing, Cond.initialized RX0, Cond.code yX0_faultOfComing cX0_faultOfComing 3 (some .int), Cond.fieldLink RX0 22 "SeedDrawers$Content" "places" "I", Cond.methodLink RX0 25 yX0_faultOfRow, Cond.instanceMethod yX0_faultOfRow, Cond.selects RX0 yX0_faultOfRow yX0_faultOfRow, Cond.code yX0_faultOfRow cX0_faultOfRow 1 (some .int), Cond.fieldLink RX0 15 "SeedDrawers$Content" "has" "I", Cond.methodLink RX2 75 yX0_kindAt, Cond.instanceMethod yX0_kindAt, Cond.selects RX0 yX0_kindAt yX0_kindAt, Cond.code yX0_kindAt cX0_kindAt 3 (some .int), Cond.fieldLink RX0 9 "SeedDrawers$Content" "values" "[J", Cond.methodLink RX2 82 yX0_faultOfLaying, Cond.instanceMethod yX0_faultOfLaying, Cond.selects RX0 yX0_faultOfLaying yX0_faultOfLaying, Cond.code yX0_faultOfLaying cX0_faultOfLaying 4 (some .int), Cond.methodLink RX0 29 yX0_faultOfComing, Cond.static yX2_fits, Cond.initialized RX2]
def wsX2_pourOne_r2 : List Cond := [Cond.code yX2_fits cX2_fits 2 (some .boolean)]
def wsX2_pourOne : List Cond := .code yX2_pourOne cX2_pourOne 5 (some .int) :: ((wsX2_pourOne_r1 ++ wsX2_pourOne_r2) ++ wsX00)
def wsX2_pour_r1 : List Cond := [Cond.fieldLink RX2 16 "SeedDrawers" "drawers" "[LSeedDrawers$Content;", Cond.methodLink RX2 41 yX2_isDrawer, Cond.static yX2_isDrawer, Cond.initialized RX2, Cond.code yX2_isDrawer cX2_isDrawer 1 (some .boolean), Cond.methodLink RX2 97 yX2_isTellableIndex, Cond.static yX2_isTellableIndex, Cond.code yX2_isTellableIndex cX2_isTellableIndex 1 (some .boolean), Cond.methodLink RX2 100 yX2_pourOne, Cond.static yX2_pourOne, Cond.code yX2_pourOne cX2_pourOne 5 (some .int), Cond.fieldLink RX2 78 "SeedDrawers$Content" "values" "[J", Cond.methodLink RX2 68 yX0_faultOfComing, Cond.instanceMethod yX0_faultOfComing, Cond.selects RX0 yX0_faultOfComing yX0_faultOfComing, Cond.initialized RX0, Cond.code yX0_faultOfComing cX0_faultOfComing 3 (some .int), Cond.fieldLink RX0 22 "SeedDrawers$Content" "places" "I", Cond.methodLink RX0 25 yX0_faultOfRow, Cond.instanceMethod yX0_faultOfRow, Cond.selects RX0 yX0_faultOfRow yX0_faultOfRow, Cond.code yX0_faultOfRow cX0_faultOfRow 1 (some .int), Cond.fieldLink RX0 15 "SeedDrawers$Content" "has" "I", Cond.methodLink RX2 75 yX0_kindAt]
def wsX2_pour_r2 : List Cond := [Cond.instanceMethod yX0_kindAt, Cond.selects RX0 yX0_kindAt yX0_kindAt, Cond.code yX0_kindAt cX0_kindAt 3 (some .int), Cond.fieldLink RX0 9 "SeedDrawers$Content" "values" "[J", Cond.methodLink RX2 82 yX0_faultOfLaying, Cond.instanceMethod yX0_faultOfLaying, Cond.selects RX0 yX0_faultOfLaying yX0_faultOfLaying, Cond.code yX0_faultOfLaying cX0_faultOfLaying 4 (some .int), Cond.methodLink RX0 29 yX0_faultOfComing, Cond.static yX2_fits, Cond.code yX2_fits cX2_fits 2 (some .boolean), Cond.methodLink RX2 72 yX2_meet, Cond.instanceMethod yX2_meet, Cond.selects RX2 yX2_meet yX2_meet, Cond.code yX2_meet cX2_meet 2 (some .int), Cond.fieldLink RX2 129 "SeedDrawers" "latestFault" "I", Cond.fieldLink RX2 38 "SeedDrawers" "faultCounts" "[I"]
def wsX2_pour : List Cond := .code yX2_pour cX2_pour 8 (some .int) :: ((wsX2_pour_r1 ++ wsX2_pour_r2) ++ wsX20 ++ wsX00)
def wsX2_faultOfSwapping : List Cond := .code yX2_faultOfSwapping cX2_faultOfSwapping 5 (some .int) :: ([.methodLink RX2 68 yX0_faultOfComing, .instanceMethod yX0_faultOfComing, .selects RX0 yX0_faultOfComing yX0_faultOfComing, .initialized RX0, .code yX0_faultOfComing cX0_faultOfComing 3 (some .int), .fieldLink RX0 22 "SeedDrawers$Content" "places" "I", .methodLink RX0 25 yX0_faultOfRow, .instanceMethod yX0_faultOfRow, .selects RX0 yX0_faultOfRow yX0_faultOfRow, .code yX0_faultOfRow cX0_faultOfRow 1 (some .int), .fieldLink RX0 15 "SeedDrawers$Content" "has" "I", .methodLink RX2 75 yX0_kindAt, .instanceMethod yX0_kindAt, .selects RX0 yX0_kindAt yX0_kindAt, .code yX0_kindAt cX0_kindAt 3 (some .int), .fieldLink RX0 9 "SeedDrawers$Content" "values" "[J", .methodLink RX2 82 yX0_faultOfLaying, .instanceMethod yX0_faultOfLaying, .selects RX0 yX0_faultOfLaying yX0_faultOfLaying, .code yX0_faultOfLaying cX0_faultOfLaying 4 (some .int), .methodLink RX0 29 yX0_faultOfComing, .static yX2_fits, .initialized RX2, .code yX2_fits cX2_fits 2 (some .boolean)] ++ wsX00)
def wsX2_swap_r1 : List Cond := [Cond.fieldLink RX2 16 "SeedDrawers" "drawers" "[LSeedDrawers$Content;", Cond.fieldLink RX2 78 "SeedDrawers$Content" "values" "[J", Cond.methodLink RX2 41 yX2_isDrawer, Cond.static yX2_isDrawer, Cond.initialized RX2, Cond.code yX2_isDrawer cX2_isDrawer 1 (some .boolean), Cond.methodLink RX2 104 yX2_faultOfSwapping, Cond.static yX2_faultOfSwapping, Cond.code yX2_faultOfSwapping cX2_faultOfSwapping 5 (some .int), Cond.methodLink RX2 68 yX0_faultOfComing, Cond.instanceMethod yX0_faultOfComing, Cond.selects RX0 yX0_faultOfComing yX0_faultOfComing, Cond.initialized RX0, Cond.code yX0_faultOfComing cX0_faultOfComing 3 (some .int), Cond.fieldLink RX0 22 "SeedDrawers$Content" "places" "I", Cond.methodLink RX0 25 yX0_faultOfRow, Cond.instanceMethod yX0_faultOfRow, Cond.selects RX0 yX0_faultOfRow yX0_faultOfRow, Cond.code yX0_faultOfRow cX0_faultOfRow 1 (some .int), Cond.fieldLink RX0 15 "SeedDrawers$Content" "has" "I", Cond.methodLink RX2 75 yX0_kindAt, Cond.instanceMethod yX0_kindAt, Cond.selects RX0 yX0_kindAt yX0_kindAt, Cond.code yX0_kindAt cX0_kindAt 3 (some .int)]
def wsX2_swap_r2 : List Cond := [Cond.fieldLink RX0 9 "SeedDrawers$Content" "values" "[J", Cond.methodLink RX2 82 yX0_faultOfLaying, Cond.instanceMethod yX0_faultOfLaying, Cond.selects RX0 yX0_faultOfLaying yX0_faultOfLaying, Cond.code yX0_faultOfLaying cX0_faultOfLaying 4 (some .int), Cond.methodLink RX0 29 yX0_faultOfComing, Cond.static yX2_fits, Cond.code yX2_fits cX2_fits 2 (some .boolean), Cond.methodLink RX2 72 yX2_meet, Cond.instanceMethod yX2_meet, Cond.selects RX2 yX2_meet yX2_meet, Cond.code yX2_meet cX2_meet 2 (some .int), Cond.fieldLink RX2 129 "SeedDrawers" "latestFault" "I", Cond.fieldLink RX2 38 "SeedDrawers" "faultCounts" "[I"]
def wsX2_swap : List Cond := .code yX2_swap cX2_swap 10 (some .int) :: ((wsX2_swap_r1 ++ wsX2_swap_r2) ++ wsX20 ++ wsX00)
def wsX2_turn : List Cond := .code yX2_turn cX2_turn 3 (some .int) :: ([.fieldLink RX2 16 "SeedDrawers" "drawers" "[LSeedDrawers$Content;", .methodLink RX2 41 yX2_isDrawer, .static yX2_isDrawer, .initialized RX2, .code yX2_isDrawer cX2_isDrawer 1 (some .boolean), .methodLink RX2 90 yX0_faultOfRow, .instanceMethod yX0_faultOfRow, .selects RX0 yX0_faultOfRow yX0_faultOfRow, .initialized RX0, .code yX0_faultOfRow cX0_faultOfRow 1 (some .int), .fieldLink RX0 15 "SeedDrawers$Content" "has" "I", .methodLink RX2 72 yX2_meet, .instanceMethod yX2_meet, .selects RX2 yX2_meet yX2_meet, .code yX2_meet cX2_meet 2 (some .int), .fieldLink RX2 129 "SeedDrawers" "latestFault" "I", .fieldLink RX2 38 "SeedDrawers" "faultCounts" "[I", .methodLink RX2 107 yX0_reverse, .instanceMethod yX0_reverse, .selects RX0 yX0_reverse yX0_reverse, .code yX0_reverse cX0_reverse 5 (some .int), .fieldLink RX0 22 "SeedDrawers$Content" "places" "I", .fieldLink RX0 9 "SeedDrawers$Content" "values" "[J"] ++ wsX20 ++ wsX00)
def wsX2_sum : List Cond := .code yX2_sum cX2_sum 3 (some .long) :: ([.fieldLink RX2 16 "SeedDrawers" "drawers" "[LSeedDrawers$Content;", .methodLink RX2 41 yX2_isDrawer, .static yX2_isDrawer, .initialized RX2, .code yX2_isDrawer cX2_isDrawer 1 (some .boolean), .methodLink RX2 90 yX0_faultOfRow, .instanceMethod yX0_faultOfRow, .selects RX0 yX0_faultOfRow yX0_faultOfRow, .initialized RX0, .code yX0_faultOfRow cX0_faultOfRow 1 (some .int), .fieldLink RX0 15 "SeedDrawers$Content" "has" "I", .methodLink RX2 72 yX2_meet, .instanceMethod yX2_meet, .selects RX2 yX2_meet yX2_meet, .code yX2_meet cX2_meet 2 (some .int), .fieldLink RX2 129 "SeedDrawers" "latestFault" "I", .fieldLink RX2 38 "SeedDrawers" "faultCounts" "[I", .methodLink RX2 110 yX0_total, .instanceMethod yX0_total, .selects RX0 yX0_total yX0_total, .code yX0_total cX0_total 4 (some .long), .fieldLink RX0 22 "SeedDrawers$Content" "places" "I", .fieldLink RX0 9 "SeedDrawers$Content" "values" "[J"] ++ wsX20 ++ wsX00)
def wsX2_find_r1 : List Cond := [Cond.fieldLink RX2 16 "SeedDrawers" "drawers" "[LSeedDrawers$Content;", Cond.fieldLink RX2 23 "SeedDrawers" "handKind" "I", Cond.fieldLink RX2 86 "SeedDrawers" "handValue" "J", Cond.methodLink RX2 41 yX2_isDrawer, Cond.static yX2_isDrawer, Cond.initialized RX2, Cond.code yX2_isDrawer cX2_isDrawer 1 (some .boolean), Cond.methodLink RX2 90 yX0_faultOfRow, Cond.instanceMethod yX0_faultOfRow, Cond.selects RX0 yX0_faultOfRow yX0_faultOfRow, Cond.initialized RX0, Cond.code yX0_faultOfRow cX0_faultOfRow 1 (some .int), Cond.fieldLink RX0 15 "SeedDrawers$Content" "has" "I", Cond.methodLink RX2 72 yX2_meet, Cond.instanceMethod yX2_meet, Cond.selects RX2 yX2_meet yX2_meet, Cond.code yX2_meet cX2_meet 2 (some .int), Cond.fieldLink RX2 129 "SeedDrawers" "latestFault" "I", Cond.fieldLink RX2 38 "SeedDrawers" "faultCounts" "[I", Cond.methodLink RX2 114 yX0_firstPlaceOf, Cond.instanceMethod yX0_firstPlaceOf, Cond.selects RX0 yX0_firstPlaceOf yX0_firstPlaceOf, Cond.code yX0_firstPlaceOf cX0_firstPlaceOf 5 (some .int), Cond.fieldLink RX0 22 "SeedDrawers$Content" "places" "I"]
def wsX2_find_r2 : List Cond := [Cond.fieldLink RX0 9 "SeedDrawers$Content" "values" "[J", Cond.methodLink RX0 37 yX0_kindAt, Cond.instanceMethod yX0_kindAt, Cond.selects RX0 yX0_kindAt yX0_kindAt, Cond.code yX0_kindAt cX0_kindAt 3 (some .int)]
def wsX2_find : List Cond := .code yX2_find cX2_find 3 (some .int) :: ((wsX2_find_r1 ++ wsX2_find_r2) ++ wsX20 ++ wsX00)
def wsX2_order : List Cond := .code yX2_order cX2_order 6 (some .int) :: ([.fieldLink RX2 118 "SeedDrawers" "orderCount" "I", .fieldLink RX2 29 "SeedDrawers" "orders" "[LSeedDrawers$Order;", .methodLink RX2 41 yX2_isDrawer, .static yX2_isDrawer, .initialized RX2, .code yX2_isDrawer cX2_isDrawer 1 (some .boolean), .methodLink RX2 97 yX2_isTellableIndex, .static yX2_isTellableIndex, .code yX2_isTellableIndex cX2_isTellableIndex 1 (some .boolean), .methodLink RX2 121 yX1_write, .instanceMethod yX1_write, .selects RX1 yX1_write yX1_write, .initialized RX1, .code yX1_write cX1_write 6 none, .fieldLink RX1 7 "SeedDrawers$Order" "op" "I", .fieldLink RX1 13 "SeedDrawers$Order" "a" "I", .fieldLink RX1 16 "SeedDrawers$Order" "i" "I", .fieldLink RX1 19 "SeedDrawers$Order" "b" "I", .fieldLink RX1 22 "SeedDrawers$Order" "j" "I"] ++ wsX20 ++ wsX10)
def wsX2_perform_r1 : List Cond := [Cond.fieldLink RX2 149 "SeedDrawers$Order" "op" "I", Cond.fieldLink RX2 152 "SeedDrawers$Order" "a" "I", Cond.fieldLink RX2 155 "SeedDrawers$Order" "i" "I", Cond.fieldLink RX2 161 "SeedDrawers$Order" "b" "I", Cond.fieldLink RX2 164 "SeedDrawers$Order" "j" "I", Cond.methodLink RX2 158 yX2_take, Cond.instanceMethod yX2_take, Cond.selects RX2 yX2_take yX2_take, Cond.initialized RX2, Cond.code yX2_take cX2_take 5 (some .int), Cond.fieldLink RX2 16 "SeedDrawers" "drawers" "[LSeedDrawers$Content;", Cond.fieldLink RX2 78 "SeedDrawers$Content" "values" "[J", Cond.fieldLink RX2 23 "SeedDrawers" "handKind" "I", Cond.methodLink RX2 41 yX2_isDrawer, Cond.static yX2_isDrawer, Cond.code yX2_isDrawer cX2_isDrawer 1 (some .boolean), Cond.methodLink RX2 68 yX0_faultOfComing, Cond.instanceMethod yX0_faultOfComing, Cond.selects RX0 yX0_faultOfComing yX0_faultOfComing, Cond.initialized RX0, Cond.code yX0_faultOfComing cX0_faultOfComing 3 (some .int), Cond.fieldLink RX0 22 "SeedDrawers$Content" "places" "I", Cond.methodLink RX0 25 yX0_faultOfRow, Cond.instanceMethod yX0_faultOfRow]
def wsX2_perform_r2 : List Cond := [Cond.selects RX0 yX0_faultOfRow yX0_faultOfRow, Cond.code yX0_faultOfRow cX0_faultOfRow 1 (some .int), Cond.fieldLink RX0 15 "SeedDrawers$Content" "has" "I", Cond.methodLink RX2 72 yX2_meet, Cond.instanceMethod yX2_meet, Cond.selects RX2 yX2_meet yX2_meet, Cond.code yX2_meet cX2_meet 2 (some .int), Cond.fieldLink RX2 129 "SeedDrawers" "latestFault" "I", Cond.fieldLink RX2 38 "SeedDrawers" "faultCounts" "[I", Cond.methodLink RX2 75 yX0_kindAt, Cond.instanceMethod yX0_kindAt, Cond.selects RX0 yX0_kindAt yX0_kindAt, Cond.code yX0_kindAt cX0_kindAt 3 (some .int), Cond.fieldLink RX0 9 "SeedDrawers$Content" "values" "[J", Cond.methodLink RX2 61 yX2_hold, Cond.instanceMethod yX2_hold, Cond.selects RX2 yX2_hold yX2_hold, Cond.code yX2_hold cX2_hold 4 none, Cond.fieldLink RX2 86 "SeedDrawers" "handValue" "J", Cond.methodLink RX2 167 yX2_lay, Cond.instanceMethod yX2_lay, Cond.selects RX2 yX2_lay yX2_lay, Cond.code yX2_lay cX2_lay 5 (some .int), Cond.methodLink RX2 82 yX0_faultOfLaying]
def wsX2_perform_r3 : List Cond := [Cond.instanceMethod yX0_faultOfLaying, Cond.selects RX0 yX0_faultOfLaying yX0_faultOfLaying, Cond.code yX0_faultOfLaying cX0_faultOfLaying 4 (some .int), Cond.methodLink RX0 29 yX0_faultOfComing, Cond.static yX2_fits, Cond.code yX2_fits cX2_fits 2 (some .boolean), Cond.methodLink RX2 170 yX2_swap, Cond.instanceMethod yX2_swap, Cond.selects RX2 yX2_swap yX2_swap, Cond.code yX2_swap cX2_swap 10 (some .int), Cond.methodLink RX2 104 yX2_faultOfSwapping, Cond.static yX2_faultOfSwapping, Cond.code yX2_faultOfSwapping cX2_faultOfSwapping 5 (some .int), Cond.methodLink RX2 174 yX2_turn, Cond.instanceMethod yX2_turn, Cond.selects RX2 yX2_turn yX2_turn, Cond.code yX2_turn cX2_turn 3 (some .int), Cond.methodLink RX2 90 yX0_faultOfRow, Cond.methodLink RX2 107 yX0_reverse, Cond.instanceMethod yX0_reverse, Cond.selects RX0 yX0_reverse yX0_reverse, Cond.code yX0_reverse cX0_reverse 5 (some .int), Cond.methodLink RX2 177 yX2_pour, Cond.instanceMethod yX2_pour]
def wsX2_perform_r4 : List Cond := [Cond.selects RX2 yX2_pour yX2_pour, Cond.code yX2_pour cX2_pour 8 (some .int), Cond.methodLink RX2 97 yX2_isTellableIndex, Cond.static yX2_isTellableIndex, Cond.code yX2_isTellableIndex cX2_isTellableIndex 1 (some .boolean), Cond.methodLink RX2 100 yX2_pourOne, Cond.static yX2_pourOne, Cond.code yX2_pourOne cX2_pourOne 5 (some .int)]
def wsX2_perform : List Cond := .code yX2_perform cX2_perform 2 none :: ((wsX2_perform_r1 ++ (wsX2_perform_r2 ++ (wsX2_perform_r3 ++ wsX2_perform_r4))) ++ wsX10 ++ wsX20 ++ wsX00)
def wsX2_run_r1 : List Cond := [Cond.fieldLink RX2 118 "SeedDrawers" "orderCount" "I", Cond.fieldLink RX2 38 "SeedDrawers" "faultCounts" "[I", Cond.fieldLink RX2 29 "SeedDrawers" "orders" "[LSeedDrawers$Order;", Cond.fieldLink RX2 34 "SeedDrawers" "metFaults" "[I", Cond.fieldLink RX2 129 "SeedDrawers" "latestFault" "I", Cond.fieldLink RX2 132 "SeedDrawers" "metCount" "I", Cond.methodLink RX2 125 yX2_perform, Cond.instanceMethod yX2_perform, Cond.selects RX2 yX2_perform yX2_perform, Cond.initialized RX2, Cond.code yX2_perform cX2_perform 2 none, Cond.fieldLink RX2 149 "SeedDrawers$Order" "op" "I", Cond.fieldLink RX2 152 "SeedDrawers$Order" "a" "I", Cond.fieldLink RX2 155 "SeedDrawers$Order" "i" "I", Cond.fieldLink RX2 161 "SeedDrawers$Order" "b" "I", Cond.fieldLink RX2 164 "SeedDrawers$Order" "j" "I", Cond.methodLink RX2 158 yX2_take, Cond.instanceMethod yX2_take, Cond.selects RX2 yX2_take yX2_take, Cond.code yX2_take cX2_take 5 (some .int), Cond.fieldLink RX2 16 "SeedDrawers" "drawers" "[LSeedDrawers$Content;", Cond.fieldLink RX2 78 "SeedDrawers$Content" "values" "[J", Cond.fieldLink RX2 23 "SeedDrawers" "handKind" "I", Cond.methodLink RX2 41 yX2_isDrawer]
def wsX2_run_r2 : List Cond := [Cond.static yX2_isDrawer, Cond.code yX2_isDrawer cX2_isDrawer 1 (some .boolean), Cond.methodLink RX2 68 yX0_faultOfComing, Cond.instanceMethod yX0_faultOfComing, Cond.selects RX0 yX0_faultOfComing yX0_faultOfComing, Cond.initialized RX0, Cond.code yX0_faultOfComing cX0_faultOfComing 3 (some .int), Cond.fieldLink RX0 22 "SeedDrawers$Content" "places" "I", Cond.methodLink RX0 25 yX0_faultOfRow, Cond.instanceMethod yX0_faultOfRow, Cond.selects RX0 yX0_faultOfRow yX0_faultOfRow, Cond.code yX0_faultOfRow cX0_faultOfRow 1 (some .int), Cond.fieldLink RX0 15 "SeedDrawers$Content" "has" "I", Cond.methodLink RX2 72 yX2_meet, Cond.instanceMethod yX2_meet, Cond.selects RX2 yX2_meet yX2_meet, Cond.code yX2_meet cX2_meet 2 (some .int), Cond.methodLink RX2 75 yX0_kindAt, Cond.instanceMethod yX0_kindAt, Cond.selects RX0 yX0_kindAt yX0_kindAt, Cond.code yX0_kindAt cX0_kindAt 3 (some .int), Cond.fieldLink RX0 9 "SeedDrawers$Content" "values" "[J", Cond.methodLink RX2 61 yX2_hold, Cond.instanceMethod yX2_hold]
def wsX2_run_r3 : List Cond := [Cond.selects RX2 yX2_hold yX2_hold, Cond.code yX2_hold cX2_hold 4 none, Cond.fieldLink RX2 86 "SeedDrawers" "handValue" "J", Cond.methodLink RX2 167 yX2_lay, Cond.instanceMethod yX2_lay, Cond.selects RX2 yX2_lay yX2_lay, Cond.code yX2_lay cX2_lay 5 (some .int), Cond.methodLink RX2 82 yX0_faultOfLaying, Cond.instanceMethod yX0_faultOfLaying, Cond.selects RX0 yX0_faultOfLaying yX0_faultOfLaying, Cond.code yX0_faultOfLaying cX0_faultOfLaying 4 (some .int), Cond.methodLink RX0 29 yX0_faultOfComing, Cond.static yX2_fits, Cond.code yX2_fits cX2_fits 2 (some .boolean), Cond.methodLink RX2 170 yX2_swap, Cond.instanceMethod yX2_swap, Cond.selects RX2 yX2_swap yX2_swap, Cond.code yX2_swap cX2_swap 10 (some .int), Cond.methodLink RX2 104 yX2_faultOfSwapping, Cond.static yX2_faultOfSwapping, Cond.code yX2_faultOfSwapping cX2_faultOfSwapping 5 (some .int), Cond.methodLink RX2 174 yX2_turn, Cond.instanceMethod yX2_turn, Cond.selects RX2 yX2_turn yX2_turn]
def wsX2_run_r4 : List Cond := [Cond.code yX2_turn cX2_turn 3 (some .int), Cond.methodLink RX2 90 yX0_faultOfRow, Cond.methodLink RX2 107 yX0_reverse, Cond.instanceMethod yX0_reverse, Cond.selects RX0 yX0_reverse yX0_reverse, Cond.code yX0_reverse cX0_reverse 5 (some .int), Cond.methodLink RX2 177 yX2_pour, Cond.instanceMethod yX2_pour, Cond.selects RX2 yX2_pour yX2_pour, Cond.code yX2_pour cX2_pour 8 (some .int), Cond.methodLink RX2 97 yX2_isTellableIndex, Cond.static yX2_isTellableIndex, Cond.code yX2_isTellableIndex cX2_isTellableIndex 1 (some .boolean), Cond.methodLink RX2 100 yX2_pourOne, Cond.static yX2_pourOne, Cond.code yX2_pourOne cX2_pourOne 5 (some .int)]
def wsX2_run : List Cond := .code yX2_run cX2_run 4 (some .int) :: ((wsX2_run_r1 ++ (wsX2_run_r2 ++ (wsX2_run_r3 ++ wsX2_run_r4))) ++ wsX20 ++ wsX10 ++ wsX00)
def wsX2_met : List Cond := .code yX2_met cX2_met 2 (some .int) :: ([.fieldLink RX2 132 "SeedDrawers" "metCount" "I", .fieldLink RX2 34 "SeedDrawers" "metFaults" "[I"] ++ wsX20)
def wsX2_fault : List Cond := .code yX2_fault cX2_fault 1 (some .int) :: ([.fieldLink RX2 129 "SeedDrawers" "latestFault" "I"] ++ wsX20)
def wsX2_faults : List Cond := .code yX2_faults cX2_faults 2 (some .int) :: ([.fieldLink RX2 38 "SeedDrawers" "faultCounts" "[I"] ++ wsX20)
def wsX2_told : List Cond := .code yX2_told cX2_told 4 (some .int) :: ([.fieldLink RX2 16 "SeedDrawers" "drawers" "[LSeedDrawers$Content;", .fieldLink RX2 135 "SeedDrawers$Content" "has" "I", .fieldLink RX2 146 "SeedDrawers$Content" "noteNumber" "I", .methodLink RX2 41 yX2_isDrawer, .static yX2_isDrawer, .initialized RX2, .code yX2_isDrawer cX2_isDrawer 1 (some .boolean), .methodLink RX2 138 yX0_isRow, .instanceMethod yX0_isRow, .selects RX0 yX0_isRow yX0_isRow, .initialized RX0, .code yX0_isRow cX0_isRow 1 (some .boolean), .fieldLink RX0 15 "SeedDrawers$Content" "has" "I", .methodLink RX2 142 yX2_holdersOf, .instanceMethod yX2_holdersOf, .selects RX2 yX2_holdersOf yX2_holdersOf, .code yX2_holdersOf cX2_holdersOf 4 (some .int)] ++ wsX20 ++ wsX00)
def wsX2_hand : List Cond := .code yX2_hand cX2_hand 1 (some .int) :: ([.fieldLink RX2 23 "SeedDrawers" "handKind" "I"] ++ wsX20)
def wsX2_value : List Cond := .code yX2_value cX2_value 1 (some .long) :: ([.fieldLink RX2 86 "SeedDrawers" "handValue" "J"] ++ wsX20)
def wsX3_init : List Cond := .code yX3_init cX3_init 1 none :: ([.methodLink RX3 1 objectInit, .instanceMethod objectInit, .code objectInit ⟨#[0xb1]⟩ 1 none, .arrayClass .int, .fieldLink RX3 7 "SeedDrawersModel" "has" "[I", .fieldLink RX3 13 "SeedDrawersModel" "note" "[I", .fieldLink RX3 16 "SeedDrawersModel" "rowOf" "[I", .fieldLink RX3 19 "SeedDrawersModel" "kindOf" "[I", .fieldLink RX3 22 "SeedDrawersModel" "sizeOf" "[I", .constant RX3 25 (60000), .arrayClass .long, .fieldLink RX3 26 "SeedDrawersModel" "place" "[J", .fieldLink RX3 30 "SeedDrawersModel" "faults" "[I", .fieldLink RX3 33 "SeedDrawersModel" "orderOf" "[I", .fieldLink RX3 36 "SeedDrawersModel" "doneFault" "[I"] ++ wsX30)
def wsX3_beyond : List Cond := .code yX3_beyond cX3_beyond 6 (some .boolean) :: ([])
def wsX3_no : List Cond := .code yX3_no cX3_no 1 (some .boolean) :: ([.constantLong RX3 39 (7), .methodLink RX3 41 yX3_beyond, .static yX3_beyond, .initialized RX3, .code yX3_beyond cX3_beyond 6 (some .boolean)])
def wsX3_met1 : List Cond := .code yX3_met1 cX3_met1 2 (some .int) :: ([.fieldLink RX3 45 "SeedDrawersModel" "fault" "I", .fieldLink RX3 30 "SeedDrawersModel" "faults" "[I"] ++ wsX30)
def wsX3_answer : List Cond := .code yX3_answer cX3_answer 3 (some .int) :: ([.methodLink RX3 49 yX3_met1, .instanceMethod yX3_met1, .selects RX3 yX3_met1 yX3_met1, .initialized RX3, .code yX3_met1 cX3_met1 2 (some .int), .fieldLink RX3 45 "SeedDrawersModel" "fault" "I", .fieldLink RX3 30 "SeedDrawersModel" "faults" "[I"] ++ wsX30)
def wsX3_row : List Cond := .code yX3_row cX3_row 5 (some .int) :: ([.constantLong RX3 57 (6), .constantLong RX3 59 (12), .fieldLink RX3 7 "SeedDrawersModel" "has" "[I", .fieldLink RX3 16 "SeedDrawersModel" "rowOf" "[I", .fieldLink RX3 61 "SeedDrawersModel" "rows" "I", .fieldLink RX3 19 "SeedDrawersModel" "kindOf" "[I", .fieldLink RX3 22 "SeedDrawersModel" "sizeOf" "[I", .fieldLink RX3 26 "SeedDrawersModel" "place" "[J", .methodLink RX3 53 yX3_no, .static yX3_no, .initialized RX3, .code yX3_no cX3_no 1 (some .boolean), .constantLong RX3 39 (7), .methodLink RX3 41 yX3_beyond, .static yX3_beyond, .code yX3_beyond cX3_beyond 6 (some .boolean)] ++ wsX30)
def wsX3_note : List Cond := .code yX3_note cX3_note 3 (some .int) :: ([.fieldLink RX3 7 "SeedDrawersModel" "has" "[I", .fieldLink RX3 13 "SeedDrawersModel" "note" "[I", .methodLink RX3 53 yX3_no, .static yX3_no, .initialized RX3, .code yX3_no cX3_no 1 (some .boolean), .constantLong RX3 39 (7), .methodLink RX3 41 yX3_beyond, .static yX3_beyond, .code yX3_beyond cX3_beyond 6 (some .boolean)] ++ wsX30)
def wsX3_share : List Cond := .code yX3_share cX3_share 3 (some .int) :: ([.fieldLink RX3 7 "SeedDrawersModel" "has" "[I", .fieldLink RX3 13 "SeedDrawersModel" "note" "[I", .fieldLink RX3 16 "SeedDrawersModel" "rowOf" "[I", .methodLink RX3 53 yX3_no, .static yX3_no, .initialized RX3, .code yX3_no cX3_no 1 (some .boolean), .constantLong RX3 39 (7), .methodLink RX3 41 yX3_beyond, .static yX3_beyond, .code yX3_beyond cX3_beyond 6 (some .boolean)] ++ wsX30)
def wsX3_clear : List Cond := .code yX3_clear cX3_clear 3 (some .int) :: ([.fieldLink RX3 7 "SeedDrawersModel" "has" "[I", .methodLink RX3 53 yX3_no, .static yX3_no, .initialized RX3, .code yX3_no cX3_no 1 (some .boolean), .constantLong RX3 39 (7), .methodLink RX3 41 yX3_beyond, .static yX3_beyond, .code yX3_beyond cX3_beyond 6 (some .boolean)] ++ wsX30)
def wsX3_think : List Cond := .code yX3_think cX3_think 4 (some .int) :: ([.constantLong RX3 64 (5), .fieldLink RX3 66 "SeedDrawersModel" "holds" "Z", .fieldLink RX3 70 "SeedDrawersModel" "handKind" "I", .fieldLink RX3 73 "SeedDrawersModel" "handValue" "J", .methodLink RX3 41 yX3_beyond, .static yX3_beyond, .initialized RX3, .code yX3_beyond cX3_beyond 6 (some .boolean)] ++ wsX30)
def wsX3_card : List Cond := .code yX3_card cX3_card 1 (some .int) :: ([.fieldLink RX3 77 "SeedDrawersModel" "cards" "I", .fieldLink RX3 66 "SeedDrawersModel" "holds" "Z", .fieldLink RX3 70 "SeedDrawersModel" "handKind" "I", .fieldLink RX3 73 "SeedDrawersModel" "handValue" "J"] ++ wsX30)
def wsX3_hand : List Cond := .code yX3_hand cX3_hand 1 (some .int) :: ([.fieldLink RX3 66 "SeedDrawersModel" "holds" "Z", .fieldLink RX3 70 "SeedDrawersModel" "handKind" "I"] ++ wsX30)
def wsX3_drop : List Cond := .code yX3_drop cX3_drop 2 (some .int) :: ([.fieldLink RX3 66 "SeedDrawersModel" "holds" "Z", .methodLink RX3 80 yX3_hand, .instanceMethod yX3_hand, .selects RX3 yX3_hand yX3_hand, .initialized RX3, .code yX3_hand cX3_hand 1 (some .int), .fieldLink RX3 70 "SeedDrawersModel" "handKind" "I"] ++ wsX30)
def wsX3_rowFault : List Cond := .code yX3_rowFault cX3_rowFault 2 (some .int) :: ([.fieldLink RX3 7 "SeedDrawersModel" "has" "[I"] ++ wsX30)
def wsX3_come : List Cond := .code yX3_come cX3_come 4 (some .int) :: ([.fieldLink RX3 22 "SeedDrawersModel" "sizeOf" "[I", .fieldLink RX3 16 "SeedDrawersModel" "rowOf" "[I", .methodLink RX3 84 yX3_rowFault, .instanceMethod yX3_rowFault, .selects RX3 yX3_rowFault yX3_rowFault, .initialized RX3, .code yX3_rowFault cX3_rowFault 2 (some .int), .fieldLink RX3 7 "SeedDrawersModel" "has" "[I", .methodLink RX3 41 yX3_beyond, .static yX3_beyond, .code yX3_beyond cX3_beyond 6 (some .boolean)] ++ wsX30)
def wsX3_at : List Cond := .code yX3_at cX3_at 3 (some .int) :: ([.fieldLink RX3 16 "SeedDrawersModel" "rowOf" "[I"] ++ wsX30)
def wsX3_isEmpty : List Cond := .code yX3_isEmpty cX3_isEmpty 3 (some .boolean) :: ([.fieldLink RX3 19 "SeedDrawersModel" "kindOf" "[I", .fieldLink RX3 16 "SeedDrawersModel" "rowOf" "[I", .fieldLink RX3 26 "SeedDrawersModel" "place" "[J", .methodLink RX3 87 yX3_at, .instanceMethod yX3_at, .selects RX3 yX3_at yX3_at, .initialized RX3, .code yX3_at cX3_at 3 (some .int)] ++ wsX30)
def wsX3_fits : List Cond := .code yX3_fits cX3_fits 2 (some .boolean) :: ([])
def wsX3_laying : List Cond := .code yX3_laying cX3_laying 5 (some .int) :: ([.fieldLink RX3 19 "SeedDrawersModel" "kindOf" "[I", .fieldLink RX3 16 "SeedDrawersModel" "rowOf" "[I", .methodLink RX3 91 yX3_come, .instanceMethod yX3_come, .selects RX3 yX3_come yX3_come, .initialized RX3, .code yX3_come cX3_come 4 (some .int), .fieldLink RX3 22 "SeedDrawersModel" "sizeOf" "[I", .methodLink RX3 84 yX3_rowFault, .instanceMethod yX3_rowFault, .selects RX3 yX3_rowFault yX3_rowFault, .code yX3_rowFault cX3_rowFault 2 (some .int), .fieldLink RX3 7 "SeedDrawersModel" "has" "[I", .methodLink RX3 41 yX3_beyond, .static yX3_beyond, .code yX3_beyond cX3_beyond 6 (some .boolean), .methodLink RX3 94 yX3_fits, .static yX3_fits, .code yX3_fits cX3_fits 2 (some .boolean)] ++ wsX30)
def wsX3_kindAt : List Cond := .code yX3_kindAt cX3_kindAt 3 (some .int) :: ([.fieldLink RX3 19 "SeedDrawersModel" "kindOf" "[I", .fieldLink RX3 16 "SeedDrawersModel" "rowOf" "[I", .methodLink RX3 98 yX3_isEmpty, .instanceMethod yX3_isEmpty, .selects RX3 yX3_isEmpty yX3_isEmpty, .initialized RX3, .code yX3_isEmpty cX3_isEmpty 3 (some .boolean), .fieldLink RX3 26 "SeedDrawersModel" "place" "[J", .methodLink RX3 87 yX3_at, .instanceMethod yX3_at, .selects RX3 yX3_at yX3_at, .code yX3_at cX3_at 3 (some .int)] ++ wsX30)
def wsX3_taking_r1 : List Cond := [Cond.fieldLink RX3 66 "SeedDrawersModel" "holds" "Z", Cond.fieldLink RX3 19 "SeedDrawersModel" "kindOf" "[I", Cond.fieldLink RX3 16 "SeedDrawersModel" "rowOf" "[I", Cond.fieldLink RX3 70 "SeedDrawersModel" "handKind" "I", Cond.fieldLink RX3 26 "SeedDrawersModel" "place" "[J", Cond.fieldLink RX3 73 "SeedDrawersModel" "handValue" "J", Cond.methodLink RX3 91 yX3_come, Cond.instanceMethod yX3_come, Cond.selects RX3 yX3_come yX3_come, Cond.initialized RX3, Cond.code yX3_come cX3_come 4 (some .int), Cond.fieldLink RX3 22 "SeedDrawersModel" "sizeOf" "[I", Cond.methodLink RX3 84 yX3_rowFault, Cond.instanceMethod yX3_rowFault, Cond.selects RX3 yX3_rowFault yX3_rowFault, Cond.code yX3_rowFault cX3_rowFault 2 (some .int), Cond.fieldLink RX3 7 "SeedDrawersModel" "has" "[I", Cond.methodLink RX3 41 yX3_beyond, Cond.static yX3_beyond, Cond.code yX3_beyond cX3_beyond 6 (some .boolean), Cond.methodLink RX3 98 yX3_isEmpty, Cond.instanceMethod yX3_isEmpty, Cond.selects RX3 yX3_isEmpty yX3_isEmpty, Cond.code yX3_isEmpty cX3_isEmpty 3 (some .boolean)]
def wsX3_taking_r2 : List Cond := [Cond.methodLink RX3 87 yX3_at, Cond.instanceMethod yX3_at, Cond.selects RX3 yX3_at yX3_at, Cond.code yX3_at cX3_at 3 (some .int)]
def wsX3_taking : List Cond := .code yX3_taking cX3_taking 4 (some .int) :: ((wsX3_taking_r1 ++ wsX3_taking_r2) ++ wsX30)
def wsX3_take_r1 : List Cond := [Cond.methodLink RX3 53 yX3_no, Cond.static yX3_no, Cond.initialized RX3, Cond.code yX3_no cX3_no 1 (some .boolean), Cond.constantLong RX3 39 (7), Cond.methodLink RX3 41 yX3_beyond, Cond.static yX3_beyond, Cond.code yX3_beyond cX3_beyond 6 (some .boolean), Cond.methodLink RX3 101 yX3_taking, Cond.instanceMethod yX3_taking, Cond.selects RX3 yX3_taking yX3_taking, Cond.code yX3_taking cX3_taking 4 (some .int), Cond.fieldLink RX3 66 "SeedDrawersModel" "holds" "Z", Cond.fieldLink RX3 19 "SeedDrawersModel" "kindOf" "[I", Cond.fieldLink RX3 16 "SeedDrawersModel" "rowOf" "[I", Cond.fieldLink RX3 70 "SeedDrawersModel" "handKind" "I", Cond.fieldLink RX3 26 "SeedDrawersModel" "place" "[J", Cond.fieldLink RX3 73 "SeedDrawersModel" "handValue" "J", Cond.methodLink RX3 91 yX3_come, Cond.instanceMethod yX3_come, Cond.selects RX3 yX3_come yX3_come, Cond.code yX3_come cX3_come 4 (some .int), Cond.fieldLink RX3 22 "SeedDrawersModel" "sizeOf" "[I", Cond.methodLink RX3 84 yX3_rowFault]
def wsX3_take_r2 : List Cond := [Cond.instanceMethod yX3_rowFault, Cond.selects RX3 yX3_rowFault yX3_rowFault, Cond.code yX3_rowFault cX3_rowFault 2 (some .int), Cond.fieldLink RX3 7 "SeedDrawersModel" "has" "[I", Cond.methodLink RX3 98 yX3_isEmpty, Cond.instanceMethod yX3_isEmpty, Cond.selects RX3 yX3_isEmpty yX3_isEmpty, Cond.code yX3_isEmpty cX3_isEmpty 3 (some .boolean), Cond.methodLink RX3 87 yX3_at, Cond.instanceMethod yX3_at, Cond.selects RX3 yX3_at yX3_at, Cond.code yX3_at cX3_at 3 (some .int), Cond.methodLink RX3 80 yX3_hand, Cond.instanceMethod yX3_hand, Cond.selects RX3 yX3_hand yX3_hand, Cond.code yX3_hand cX3_hand 1 (some .int), Cond.methodLink RX3 104 yX3_answer, Cond.instanceMethod yX3_answer, Cond.selects RX3 yX3_answer yX3_answer, Cond.code yX3_answer cX3_answer 3 (some .int), Cond.methodLink RX3 49 yX3_met1, Cond.instanceMethod yX3_met1, Cond.selects RX3 yX3_met1 yX3_met1, Cond.code yX3_met1 cX3_met1 2 (some .int)]
def wsX3_take_r3 : List Cond := [Cond.fieldLink RX3 45 "SeedDrawersModel" "fault" "I", Cond.fieldLink RX3 30 "SeedDrawersModel" "faults" "[I"]
def wsX3_take : List Cond := .code yX3_take cX3_take 4 (some .int) :: ((wsX3_take_r1 ++ (wsX3_take_r2 ++ wsX3_take_r3)) ++ wsX30)
def wsX3_puts_r1 : List Cond := [Cond.fieldLink RX3 70 "SeedDrawersModel" "handKind" "I", Cond.fieldLink RX3 26 "SeedDrawersModel" "place" "[J", Cond.fieldLink RX3 73 "SeedDrawersModel" "handValue" "J", Cond.methodLink RX3 107 yX3_laying, Cond.instanceMethod yX3_laying, Cond.selects RX3 yX3_laying yX3_laying, Cond.initialized RX3, Cond.code yX3_laying cX3_laying 5 (some .int), Cond.fieldLink RX3 19 "SeedDrawersModel" "kindOf" "[I", Cond.fieldLink RX3 16 "SeedDrawersModel" "rowOf" "[I", Cond.methodLink RX3 91 yX3_come, Cond.instanceMethod yX3_come, Cond.selects RX3 yX3_come yX3_come, Cond.code yX3_come cX3_come 4 (some .int), Cond.fieldLink RX3 22 "SeedDrawersModel" "sizeOf" "[I", Cond.methodLink RX3 84 yX3_rowFault, Cond.instanceMethod yX3_rowFault, Cond.selects RX3 yX3_rowFault yX3_rowFault, Cond.code yX3_rowFault cX3_rowFault 2 (some .int), Cond.fieldLink RX3 7 "SeedDrawersModel" "has" "[I", Cond.methodLink RX3 41 yX3_beyond, Cond.static yX3_beyond, Cond.code yX3_beyond cX3_beyond 6 (some .boolean), Cond.methodLink RX3 94 yX3_fits]
def wsX3_puts_r2 : List Cond := [Cond.static yX3_fits, Cond.code yX3_fits cX3_fits 2 (some .boolean), Cond.methodLink RX3 87 yX3_at, Cond.instanceMethod yX3_at, Cond.selects RX3 yX3_at yX3_at, Cond.code yX3_at cX3_at 3 (some .int)]
def wsX3_puts : List Cond := .code yX3_puts cX3_puts 4 (some .int) :: ((wsX3_puts_r1 ++ wsX3_puts_r2) ++ wsX30)
def wsX3_lay_r1 : List Cond := [Cond.fieldLink RX3 66 "SeedDrawersModel" "holds" "Z", Cond.methodLink RX3 53 yX3_no, Cond.static yX3_no, Cond.initialized RX3, Cond.code yX3_no cX3_no 1 (some .boolean), Cond.constantLong RX3 39 (7), Cond.methodLink RX3 41 yX3_beyond, Cond.static yX3_beyond, Cond.code yX3_beyond cX3_beyond 6 (some .boolean), Cond.methodLink RX3 111 yX3_puts, Cond.instanceMethod yX3_puts, Cond.selects RX3 yX3_puts yX3_puts, Cond.code yX3_puts cX3_puts 4 (some .int), Cond.fieldLink RX3 70 "SeedDrawersModel" "handKind" "I", Cond.fieldLink RX3 26 "SeedDrawersModel" "place" "[J", Cond.fieldLink RX3 73 "SeedDrawersModel" "handValue" "J", Cond.methodLink RX3 107 yX3_laying, Cond.instanceMethod yX3_laying, Cond.selects RX3 yX3_laying yX3_laying, Cond.code yX3_laying cX3_laying 5 (some .int), Cond.fieldLink RX3 19 "SeedDrawersModel" "kindOf" "[I", Cond.fieldLink RX3 16 "SeedDrawersModel" "rowOf" "[I", Cond.methodLink RX3 91 yX3_come, Cond.instanceMethod yX3_come]
def wsX3_lay_r2 : List Cond := [Cond.selects RX3 yX3_come yX3_come, Cond.code yX3_come cX3_come 4 (some .int), Cond.fieldLink RX3 22 "SeedDrawersModel" "sizeOf" "[I", Cond.methodLink RX3 84 yX3_rowFault, Cond.instanceMethod yX3_rowFault, Cond.selects RX3 yX3_rowFault yX3_rowFault, Cond.code yX3_rowFault cX3_rowFault 2 (some .int), Cond.fieldLink RX3 7 "SeedDrawersModel" "has" "[I", Cond.methodLink RX3 94 yX3_fits, Cond.static yX3_fits, Cond.code yX3_fits cX3_fits 2 (some .boolean), Cond.methodLink RX3 87 yX3_at, Cond.instanceMethod yX3_at, Cond.selects RX3 yX3_at yX3_at, Cond.code yX3_at cX3_at 3 (some .int), Cond.methodLink RX3 104 yX3_answer, Cond.instanceMethod yX3_answer, Cond.selects RX3 yX3_answer yX3_answer, Cond.code yX3_answer cX3_answer 3 (some .int), Cond.methodLink RX3 49 yX3_met1, Cond.instanceMethod yX3_met1, Cond.selects RX3 yX3_met1 yX3_met1, Cond.code yX3_met1 cX3_met1 2 (some .int), Cond.fieldLink RX3 45 "SeedDrawersModel" "fault" "I"]
def wsX3_lay_r3 : List Cond := [Cond.fieldLink RX3 30 "SeedDrawersModel" "faults" "[I"]
def wsX3_lay : List Cond := .code yX3_lay cX3_lay 3 (some .int) :: ((wsX3_lay_r1 ++ (wsX3_lay_r2 ++ wsX3_lay_r3)) ++ wsX30)
def wsX3_size_r1 : List Cond := [Cond.fieldLink RX3 22 "SeedDrawersModel" "sizeOf" "[I", Cond.fieldLink RX3 16 "SeedDrawersModel" "rowOf" "[I", Cond.methodLink RX3 53 yX3_no, Cond.static yX3_no, Cond.initialized RX3, Cond.code yX3_no cX3_no 1 (some .boolean), Cond.constantLong RX3 39 (7), Cond.methodLink RX3 41 yX3_beyond, Cond.static yX3_beyond, Cond.code yX3_beyond cX3_beyond 6 (some .boolean), Cond.methodLink RX3 84 yX3_rowFault, Cond.instanceMethod yX3_rowFault, Cond.selects RX3 yX3_rowFault yX3_rowFault, Cond.code yX3_rowFault cX3_rowFault 2 (some .int), Cond.fieldLink RX3 7 "SeedDrawersModel" "has" "[I", Cond.methodLink RX3 104 yX3_answer, Cond.instanceMethod yX3_answer, Cond.selects RX3 yX3_answer yX3_answer, Cond.code yX3_answer cX3_answer 3 (some .int), Cond.methodLink RX3 49 yX3_met1, Cond.instanceMethod yX3_met1, Cond.selects RX3 yX3_met1 yX3_met1, Cond.code yX3_met1 cX3_met1 2 (some .int), Cond.fieldLink RX3 45 "SeedDrawersModel" "fault" "I"]
def wsX3_size_r2 : List Cond := [Cond.fieldLink RX3 30 "SeedDrawersModel" "faults" "[I"]
def wsX3_size : List Cond := .code yX3_size cX3_size 3 (some .int) :: ((wsX3_size_r1 ++ wsX3_size_r2) ++ wsX30)
def wsX3_pours_r1 : List Cond := [Cond.fieldLink RX3 114 "SeedDrawersModel" "poured" "I", Cond.fieldLink RX3 26 "SeedDrawersModel" "place" "[J", Cond.methodLink RX3 91 yX3_come, Cond.instanceMethod yX3_come, Cond.selects RX3 yX3_come yX3_come, Cond.initialized RX3, Cond.code yX3_come cX3_come 4 (some .int), Cond.fieldLink RX3 22 "SeedDrawersModel" "sizeOf" "[I", Cond.fieldLink RX3 16 "SeedDrawersModel" "rowOf" "[I", Cond.methodLink RX3 84 yX3_rowFault, Cond.instanceMethod yX3_rowFault, Cond.selects RX3 yX3_rowFault yX3_rowFault, Cond.code yX3_rowFault cX3_rowFault 2 (some .int), Cond.fieldLink RX3 7 "SeedDrawersModel" "has" "[I", Cond.methodLink RX3 41 yX3_beyond, Cond.static yX3_beyond, Cond.code yX3_beyond cX3_beyond 6 (some .boolean), Cond.methodLink RX3 117 yX3_kindAt, Cond.instanceMethod yX3_kindAt, Cond.selects RX3 yX3_kindAt yX3_kindAt, Cond.code yX3_kindAt cX3_kindAt 3 (some .int), Cond.fieldLink RX3 19 "SeedDrawersModel" "kindOf" "[I", Cond.methodLink RX3 98 yX3_isEmpty, Cond.instanceMethod yX3_isEmpty]
def wsX3_pours_r2 : List Cond := [Cond.selects RX3 yX3_isEmpty yX3_isEmpty, Cond.code yX3_isEmpty cX3_isEmpty 3 (some .boolean), Cond.methodLink RX3 87 yX3_at, Cond.instanceMethod yX3_at, Cond.selects RX3 yX3_at yX3_at, Cond.code yX3_at cX3_at 3 (some .int), Cond.methodLink RX3 107 yX3_laying, Cond.instanceMethod yX3_laying, Cond.selects RX3 yX3_laying yX3_laying, Cond.code yX3_laying cX3_laying 5 (some .int), Cond.methodLink RX3 94 yX3_fits, Cond.static yX3_fits, Cond.code yX3_fits cX3_fits 2 (some .boolean)]
def wsX3_pours : List Cond := .code yX3_pours cX3_pours 8 (some .int) :: ((wsX3_pours_r1 ++ wsX3_pours_r2) ++ wsX30)
def wsX3_pour_r1 : List Cond := [Cond.constantLong RX3 120 (20), Cond.constantLong RX3 59 (12), Cond.fieldLink RX3 114 "SeedDrawersModel" "poured" "I", Cond.methodLink RX3 53 yX3_no, Cond.static yX3_no, Cond.initialized RX3, Cond.code yX3_no cX3_no 1 (some .boolean), Cond.constantLong RX3 39 (7), Cond.methodLink RX3 41 yX3_beyond, Cond.static yX3_beyond, Cond.code yX3_beyond cX3_beyond 6 (some .boolean), Cond.methodLink RX3 122 yX3_pours, Cond.instanceMethod yX3_pours, Cond.selects RX3 yX3_pours yX3_pours, Cond.code yX3_pours cX3_pours 8 (some .int), Cond.fieldLink RX3 26 "SeedDrawersModel" "place" "[J", Cond.methodLink RX3 91 yX3_come, Cond.instanceMethod yX3_come, Cond.selects RX3 yX3_come yX3_come, Cond.code yX3_come cX3_come 4 (some .int), Cond.fieldLink RX3 22 "SeedDrawersModel" "sizeOf" "[I", Cond.fieldLink RX3 16 "SeedDrawersModel" "rowOf" "[I", Cond.methodLink RX3 84 yX3_rowFault, Cond.instanceMethod yX3_rowFault]
def wsX3_pour_r2 : List Cond := [Cond.selects RX3 yX3_rowFault yX3_rowFault, Cond.code yX3_rowFault cX3_rowFault 2 (some .int), Cond.fieldLink RX3 7 "SeedDrawersModel" "has" "[I", Cond.methodLink RX3 117 yX3_kindAt, Cond.instanceMethod yX3_kindAt, Cond.selects RX3 yX3_kindAt yX3_kindAt, Cond.code yX3_kindAt cX3_kindAt 3 (some .int), Cond.fieldLink RX3 19 "SeedDrawersModel" "kindOf" "[I", Cond.methodLink RX3 98 yX3_isEmpty, Cond.instanceMethod yX3_isEmpty, Cond.selects RX3 yX3_isEmpty yX3_isEmpty, Cond.code yX3_isEmpty cX3_isEmpty 3 (some .boolean), Cond.methodLink RX3 87 yX3_at, Cond.instanceMethod yX3_at, Cond.selects RX3 yX3_at yX3_at, Cond.code yX3_at cX3_at 3 (some .int), Cond.methodLink RX3 107 yX3_laying, Cond.instanceMethod yX3_laying, Cond.selects RX3 yX3_laying yX3_laying, Cond.code yX3_laying cX3_laying 5 (some .int), Cond.methodLink RX3 94 yX3_fits, Cond.static yX3_fits, Cond.code yX3_fits cX3_fits 2 (some .boolean), Cond.methodLink RX3 49 yX3_met1]
def wsX3_pour_r3 : List Cond := [Cond.instanceMethod yX3_met1, Cond.selects RX3 yX3_met1 yX3_met1, Cond.code yX3_met1 cX3_met1 2 (some .int), Cond.fieldLink RX3 45 "SeedDrawersModel" "fault" "I", Cond.fieldLink RX3 30 "SeedDrawersModel" "faults" "[I"]
def wsX3_pour : List Cond := .code yX3_pour cX3_pour 7 (some .int) :: ((wsX3_pour_r1 ++ (wsX3_pour_r2 ++ wsX3_pour_r3)) ++ wsX30)
def wsX3_swaps_r1 : List Cond := [Cond.fieldLink RX3 26 "SeedDrawersModel" "place" "[J", Cond.methodLink RX3 91 yX3_come, Cond.instanceMethod yX3_come, Cond.selects RX3 yX3_come yX3_come, Cond.initialized RX3, Cond.code yX3_come cX3_come 4 (some .int), Cond.fieldLink RX3 22 "SeedDrawersModel" "sizeOf" "[I", Cond.fieldLink RX3 16 "SeedDrawersModel" "rowOf" "[I", Cond.methodLink RX3 84 yX3_rowFault, Cond.instanceMethod yX3_rowFault, Cond.selects RX3 yX3_rowFault yX3_rowFault, Cond.code yX3_rowFault cX3_rowFault 2 (some .int), Cond.fieldLink RX3 7 "SeedDrawersModel" "has" "[I", Cond.methodLink RX3 41 yX3_beyond, Cond.static yX3_beyond, Cond.code yX3_beyond cX3_beyond 6 (some .boolean), Cond.methodLink RX3 117 yX3_kindAt, Cond.instanceMethod yX3_kindAt, Cond.selects RX3 yX3_kindAt yX3_kindAt, Cond.code yX3_kindAt cX3_kindAt 3 (some .int), Cond.fieldLink RX3 19 "SeedDrawersModel" "kindOf" "[I", Cond.methodLink RX3 98 yX3_isEmpty, Cond.instanceMethod yX3_isEmpty, Cond.selects RX3 yX3_isEmpty yX3_isEmpty]
def wsX3_swaps_r2 : List Cond := [Cond.code yX3_isEmpty cX3_isEmpty 3 (some .boolean), Cond.methodLink RX3 87 yX3_at, Cond.instanceMethod yX3_at, Cond.selects RX3 yX3_at yX3_at, Cond.code yX3_at cX3_at 3 (some .int), Cond.methodLink RX3 107 yX3_laying, Cond.instanceMethod yX3_laying, Cond.selects RX3 yX3_laying yX3_laying, Cond.code yX3_laying cX3_laying 5 (some .int), Cond.methodLink RX3 94 yX3_fits, Cond.static yX3_fits, Cond.code yX3_fits cX3_fits 2 (some .boolean)]
def wsX3_swaps : List Cond := .code yX3_swaps cX3_swaps 8 (some .int) :: ((wsX3_swaps_r1 ++ wsX3_swaps_r2) ++ wsX30)
def wsX3_swap_r1 : List Cond := [Cond.methodLink RX3 53 yX3_no, Cond.static yX3_no, Cond.initialized RX3, Cond.code yX3_no cX3_no 1 (some .boolean), Cond.constantLong RX3 39 (7), Cond.methodLink RX3 41 yX3_beyond, Cond.static yX3_beyond, Cond.code yX3_beyond cX3_beyond 6 (some .boolean), Cond.methodLink RX3 126 yX3_swaps, Cond.instanceMethod yX3_swaps, Cond.selects RX3 yX3_swaps yX3_swaps, Cond.code yX3_swaps cX3_swaps 8 (some .int), Cond.fieldLink RX3 26 "SeedDrawersModel" "place" "[J", Cond.methodLink RX3 91 yX3_come, Cond.instanceMethod yX3_come, Cond.selects RX3 yX3_come yX3_come, Cond.code yX3_come cX3_come 4 (some .int), Cond.fieldLink RX3 22 "SeedDrawersModel" "sizeOf" "[I", Cond.fieldLink RX3 16 "SeedDrawersModel" "rowOf" "[I", Cond.methodLink RX3 84 yX3_rowFault, Cond.instanceMethod yX3_rowFault, Cond.selects RX3 yX3_rowFault yX3_rowFault, Cond.code yX3_rowFault cX3_rowFault 2 (some .int), Cond.fieldLink RX3 7 "SeedDrawersModel" "has" "[I"]
def wsX3_swap_r2 : List Cond := [Cond.methodLink RX3 117 yX3_kindAt, Cond.instanceMethod yX3_kindAt, Cond.selects RX3 yX3_kindAt yX3_kindAt, Cond.code yX3_kindAt cX3_kindAt 3 (some .int), Cond.fieldLink RX3 19 "SeedDrawersModel" "kindOf" "[I", Cond.methodLink RX3 98 yX3_isEmpty, Cond.instanceMethod yX3_isEmpty, Cond.selects RX3 yX3_isEmpty yX3_isEmpty, Cond.code yX3_isEmpty cX3_isEmpty 3 (some .boolean), Cond.methodLink RX3 87 yX3_at, Cond.instanceMethod yX3_at, Cond.selects RX3 yX3_at yX3_at, Cond.code yX3_at cX3_at 3 (some .int), Cond.methodLink RX3 107 yX3_laying, Cond.instanceMethod yX3_laying, Cond.selects RX3 yX3_laying yX3_laying, Cond.code yX3_laying cX3_laying 5 (some .int), Cond.methodLink RX3 94 yX3_fits, Cond.static yX3_fits, Cond.code yX3_fits cX3_fits 2 (some .boolean), Cond.methodLink RX3 104 yX3_answer, Cond.instanceMethod yX3_answer, Cond.selects RX3 yX3_answer yX3_answer, Cond.code yX3_answer cX3_answer 3 (some .int)]
def wsX3_swap_r3 : List Cond := [Cond.methodLink RX3 49 yX3_met1, Cond.instanceMethod yX3_met1, Cond.selects RX3 yX3_met1 yX3_met1, Cond.code yX3_met1 cX3_met1 2 (some .int), Cond.fieldLink RX3 45 "SeedDrawersModel" "fault" "I", Cond.fieldLink RX3 30 "SeedDrawersModel" "faults" "[I"]
def wsX3_swap : List Cond := .code yX3_swap cX3_swap 5 (some .int) :: ((wsX3_swap_r1 ++ (wsX3_swap_r2 ++ wsX3_swap_r3)) ++ wsX30)
def wsX3_turns : List Cond := .code yX3_turns cX3_turns 7 (some .int) :: ([.fieldLink RX3 22 "SeedDrawersModel" "sizeOf" "[I", .fieldLink RX3 16 "SeedDrawersModel" "rowOf" "[I", .fieldLink RX3 26 "SeedDrawersModel" "place" "[J", .methodLink RX3 84 yX3_rowFault, .instanceMethod yX3_rowFault, .selects RX3 yX3_rowFault yX3_rowFault, .initialized RX3, .code yX3_rowFault cX3_rowFault 2 (some .int), .fieldLink RX3 7 "SeedDrawersModel" "has" "[I", .methodLink RX3 87 yX3_at, .instanceMethod yX3_at, .selects RX3 yX3_at yX3_at, .code yX3_at cX3_at 3 (some .int)] ++ wsX30)
def wsX3_turn_r1 : List Cond := [Cond.fieldLink RX3 22 "SeedDrawersModel" "sizeOf" "[I", Cond.fieldLink RX3 16 "SeedDrawersModel" "rowOf" "[I", Cond.methodLink RX3 53 yX3_no, Cond.static yX3_no, Cond.initialized RX3, Cond.code yX3_no cX3_no 1 (some .boolean), Cond.constantLong RX3 39 (7), Cond.methodLink RX3 41 yX3_beyond, Cond.static yX3_beyond, Cond.code yX3_beyond cX3_beyond 6 (some .boolean), Cond.methodLink RX3 130 yX3_turns, Cond.instanceMethod yX3_turns, Cond.selects RX3 yX3_turns yX3_turns, Cond.code yX3_turns cX3_turns 7 (some .int), Cond.fieldLink RX3 26 "SeedDrawersModel" "place" "[J", Cond.methodLink RX3 84 yX3_rowFault, Cond.instanceMethod yX3_rowFault, Cond.selects RX3 yX3_rowFault yX3_rowFault, Cond.code yX3_rowFault cX3_rowFault 2 (some .int), Cond.fieldLink RX3 7 "SeedDrawersModel" "has" "[I", Cond.methodLink RX3 87 yX3_at, Cond.instanceMethod yX3_at, Cond.selects RX3 yX3_at yX3_at, Cond.code yX3_at cX3_at 3 (some .int)]
def wsX3_turn_r2 : List Cond := [Cond.methodLink RX3 104 yX3_answer, Cond.instanceMethod yX3_answer, Cond.selects RX3 yX3_answer yX3_answer, Cond.code yX3_answer cX3_answer 3 (some .int), Cond.methodLink RX3 49 yX3_met1, Cond.instanceMethod yX3_met1, Cond.selects RX3 yX3_met1 yX3_met1, Cond.code yX3_met1 cX3_met1 2 (some .int), Cond.fieldLink RX3 45 "SeedDrawersModel" "fault" "I", Cond.fieldLink RX3 30 "SeedDrawersModel" "faults" "[I"]
def wsX3_turn : List Cond := .code yX3_turn cX3_turn 3 (some .int) :: ((wsX3_turn_r1 ++ wsX3_turn_r2) ++ wsX30)
def wsX3_sum_r1 : List Cond := [Cond.fieldLink RX3 22 "SeedDrawersModel" "sizeOf" "[I", Cond.fieldLink RX3 16 "SeedDrawersModel" "rowOf" "[I", Cond.fieldLink RX3 26 "SeedDrawersModel" "place" "[J", Cond.methodLink RX3 53 yX3_no, Cond.static yX3_no, Cond.initialized RX3, Cond.code yX3_no cX3_no 1 (some .boolean), Cond.constantLong RX3 39 (7), Cond.methodLink RX3 41 yX3_beyond, Cond.static yX3_beyond, Cond.code yX3_beyond cX3_beyond 6 (some .boolean), Cond.methodLink RX3 84 yX3_rowFault, Cond.instanceMethod yX3_rowFault, Cond.selects RX3 yX3_rowFault yX3_rowFault, Cond.code yX3_rowFault cX3_rowFault 2 (some .int), Cond.fieldLink RX3 7 "SeedDrawersModel" "has" "[I", Cond.methodLink RX3 49 yX3_met1, Cond.instanceMethod yX3_met1, Cond.selects RX3 yX3_met1 yX3_met1, Cond.code yX3_met1 cX3_met1 2 (some .int), Cond.fieldLink RX3 45 "SeedDrawersModel" "fault" "I", Cond.fieldLink RX3 30 "SeedDrawersModel" "faults" "[I", Cond.methodLink RX3 87 yX3_at, Cond.instanceMethod yX3_at]
def wsX3_sum_r2 : List Cond := [Cond.selects RX3 yX3_at yX3_at, Cond.code yX3_at cX3_at 3 (some .int)]
def wsX3_sum : List Cond := .code yX3_sum cX3_sum 6 (some .long) :: ((wsX3_sum_r1 ++ wsX3_sum_r2) ++ wsX30)
def wsX3_find_r1 : List Cond := [Cond.fieldLink RX3 19 "SeedDrawersModel" "kindOf" "[I", Cond.fieldLink RX3 16 "SeedDrawersModel" "rowOf" "[I", Cond.fieldLink RX3 22 "SeedDrawersModel" "sizeOf" "[I", Cond.fieldLink RX3 66 "SeedDrawersModel" "holds" "Z", Cond.fieldLink RX3 70 "SeedDrawersModel" "handKind" "I", Cond.fieldLink RX3 26 "SeedDrawersModel" "place" "[J", Cond.fieldLink RX3 73 "SeedDrawersModel" "handValue" "J", Cond.methodLink RX3 53 yX3_no, Cond.static yX3_no, Cond.initialized RX3, Cond.code yX3_no cX3_no 1 (some .boolean), Cond.constantLong RX3 39 (7), Cond.methodLink RX3 41 yX3_beyond, Cond.static yX3_beyond, Cond.code yX3_beyond cX3_beyond 6 (some .boolean), Cond.methodLink RX3 84 yX3_rowFault, Cond.instanceMethod yX3_rowFault, Cond.selects RX3 yX3_rowFault yX3_rowFault, Cond.code yX3_rowFault cX3_rowFault 2 (some .int), Cond.fieldLink RX3 7 "SeedDrawersModel" "has" "[I", Cond.methodLink RX3 104 yX3_answer, Cond.instanceMethod yX3_answer, Cond.selects RX3 yX3_answer yX3_answer, Cond.code yX3_answer cX3_answer 3 (some .int)]
def wsX3_find_r2 : List Cond := [Cond.methodLink RX3 49 yX3_met1, Cond.instanceMethod yX3_met1, Cond.selects RX3 yX3_met1 yX3_met1, Cond.code yX3_met1 cX3_met1 2 (some .int), Cond.fieldLink RX3 45 "SeedDrawersModel" "fault" "I", Cond.fieldLink RX3 30 "SeedDrawersModel" "faults" "[I", Cond.methodLink RX3 87 yX3_at, Cond.instanceMethod yX3_at, Cond.selects RX3 yX3_at yX3_at, Cond.code yX3_at cX3_at 3 (some .int), Cond.methodLink RX3 98 yX3_isEmpty, Cond.instanceMethod yX3_isEmpty, Cond.selects RX3 yX3_isEmpty yX3_isEmpty, Cond.code yX3_isEmpty cX3_isEmpty 3 (some .boolean)]
def wsX3_find : List Cond := .code yX3_find cX3_find 6 (some .int) :: ((wsX3_find_r1 ++ wsX3_find_r2) ++ wsX30)
def wsX3_order : List Cond := .code yX3_order cX3_order 7 (some .int) :: ([.constantLong RX3 133 (4), .constantLong RX3 120 (20), .fieldLink RX3 135 "SeedDrawersModel" "orders" "I", .fieldLink RX3 33 "SeedDrawersModel" "orderOf" "[I", .methodLink RX3 53 yX3_no, .static yX3_no, .initialized RX3, .code yX3_no cX3_no 1 (some .boolean), .constantLong RX3 39 (7), .methodLink RX3 41 yX3_beyond, .static yX3_beyond, .code yX3_beyond cX3_beyond 6 (some .boolean)] ++ wsX30)
def wsX3_does_r1 : List Cond := [Cond.fieldLink RX3 33 "SeedDrawersModel" "orderOf" "[I", Cond.fieldLink RX3 66 "SeedDrawersModel" "holds" "Z", Cond.methodLink RX3 101 yX3_taking, Cond.instanceMethod yX3_taking, Cond.selects RX3 yX3_taking yX3_taking, Cond.initialized RX3, Cond.code yX3_taking cX3_taking 4 (some .int), Cond.fieldLink RX3 19 "SeedDrawersModel" "kindOf" "[I", Cond.fieldLink RX3 16 "SeedDrawersModel" "rowOf" "[I", Cond.fieldLink RX3 70 "SeedDrawersModel" "handKind" "I", Cond.fieldLink RX3 26 "SeedDrawersModel" "place" "[J", Cond.fieldLink RX3 73 "SeedDrawersModel" "handValue" "J", Cond.methodLink RX3 91 yX3_come, Cond.instanceMethod yX3_come, Cond.selects RX3 yX3_come yX3_come, Cond.code yX3_come cX3_come 4 (some .int), Cond.fieldLink RX3 22 "SeedDrawersModel" "sizeOf" "[I", Cond.methodLink RX3 84 yX3_rowFault, Cond.instanceMethod yX3_rowFault, Cond.selects RX3 yX3_rowFault yX3_rowFault, Cond.code yX3_rowFault cX3_rowFault 2 (some .int), Cond.fieldLink RX3 7 "SeedDrawersModel" "has" "[I", Cond.methodLink RX3 41 yX3_beyond, Cond.static yX3_beyond]
def wsX3_does_r2 : List Cond := [Cond.code yX3_beyond cX3_beyond 6 (some .boolean), Cond.methodLink RX3 98 yX3_isEmpty, Cond.instanceMethod yX3_isEmpty, Cond.selects RX3 yX3_isEmpty yX3_isEmpty, Cond.code yX3_isEmpty cX3_isEmpty 3 (some .boolean), Cond.methodLink RX3 87 yX3_at, Cond.instanceMethod yX3_at, Cond.selects RX3 yX3_at yX3_at, Cond.code yX3_at cX3_at 3 (some .int), Cond.methodLink RX3 111 yX3_puts, Cond.instanceMethod yX3_puts, Cond.selects RX3 yX3_puts yX3_puts, Cond.code yX3_puts cX3_puts 4 (some .int), Cond.methodLink RX3 107 yX3_laying, Cond.instanceMethod yX3_laying, Cond.selects RX3 yX3_laying yX3_laying, Cond.code yX3_laying cX3_laying 5 (some .int), Cond.methodLink RX3 94 yX3_fits, Cond.static yX3_fits, Cond.code yX3_fits cX3_fits 2 (some .boolean), Cond.methodLink RX3 126 yX3_swaps, Cond.instanceMethod yX3_swaps, Cond.selects RX3 yX3_swaps yX3_swaps, Cond.code yX3_swaps cX3_swaps 8 (some .int)]
def wsX3_does_r3 : List Cond := [Cond.methodLink RX3 117 yX3_kindAt, Cond.instanceMethod yX3_kindAt, Cond.selects RX3 yX3_kindAt yX3_kindAt, Cond.code yX3_kindAt cX3_kindAt 3 (some .int), Cond.methodLink RX3 130 yX3_turns, Cond.instanceMethod yX3_turns, Cond.selects RX3 yX3_turns yX3_turns, Cond.code yX3_turns cX3_turns 7 (some .int), Cond.methodLink RX3 122 yX3_pours, Cond.instanceMethod yX3_pours, Cond.selects RX3 yX3_pours yX3_pours, Cond.code yX3_pours cX3_pours 8 (some .int), Cond.fieldLink RX3 114 "SeedDrawersModel" "poured" "I"]
def wsX3_does : List Cond := .code yX3_does cX3_does 6 (some .int) :: ((wsX3_does_r1 ++ (wsX3_does_r2 ++ wsX3_does_r3)) ++ wsX30)
def wsX3_run_r1 : List Cond := [Cond.fieldLink RX3 135 "SeedDrawersModel" "orders" "I", Cond.fieldLink RX3 138 "SeedDrawersModel" "done" "I", Cond.fieldLink RX3 36 "SeedDrawersModel" "doneFault" "[I", Cond.methodLink RX3 141 yX3_does, Cond.instanceMethod yX3_does, Cond.selects RX3 yX3_does yX3_does, Cond.initialized RX3, Cond.code yX3_does cX3_does 6 (some .int), Cond.fieldLink RX3 33 "SeedDrawersModel" "orderOf" "[I", Cond.fieldLink RX3 66 "SeedDrawersModel" "holds" "Z", Cond.methodLink RX3 101 yX3_taking, Cond.instanceMethod yX3_taking, Cond.selects RX3 yX3_taking yX3_taking, Cond.code yX3_taking cX3_taking 4 (some .int), Cond.fieldLink RX3 19 "SeedDrawersModel" "kindOf" "[I", Cond.fieldLink RX3 16 "SeedDrawersModel" "rowOf" "[I", Cond.fieldLink RX3 70 "SeedDrawersModel" "handKind" "I", Cond.fieldLink RX3 26 "SeedDrawersModel" "place" "[J", Cond.fieldLink RX3 73 "SeedDrawersModel" "handValue" "J", Cond.methodLink RX3 91 yX3_come, Cond.instanceMethod yX3_come, Cond.selects RX3 yX3_come yX3_come, Cond.code yX3_come cX3_come 4 (some .int), Cond.fieldLink RX3 22 "SeedDrawersModel" "sizeOf" "[I"]
def wsX3_run_r2 : List Cond := [Cond.methodLink RX3 84 yX3_rowFault, Cond.instanceMethod yX3_rowFault, Cond.selects RX3 yX3_rowFault yX3_rowFault, Cond.code yX3_rowFault cX3_rowFault 2 (some .int), Cond.fieldLink RX3 7 "SeedDrawersModel" "has" "[I", Cond.methodLink RX3 41 yX3_beyond, Cond.static yX3_beyond, Cond.code yX3_beyond cX3_beyond 6 (some .boolean), Cond.methodLink RX3 98 yX3_isEmpty, Cond.instanceMethod yX3_isEmpty, Cond.selects RX3 yX3_isEmpty yX3_isEmpty, Cond.code yX3_isEmpty cX3_isEmpty 3 (some .boolean), Cond.methodLink RX3 87 yX3_at, Cond.instanceMethod yX3_at, Cond.selects RX3 yX3_at yX3_at, Cond.code yX3_at cX3_at 3 (some .int), Cond.methodLink RX3 111 yX3_puts, Cond.instanceMethod yX3_puts, Cond.selects RX3 yX3_puts yX3_puts, Cond.code yX3_puts cX3_puts 4 (some .int), Cond.methodLink RX3 107 yX3_laying, Cond.instanceMethod yX3_laying, Cond.selects RX3 yX3_laying yX3_laying, Cond.code yX3_laying cX3_laying 5 (some .int)]
def wsX3_run_r3 : List Cond := [Cond.methodLink RX3 94 yX3_fits, Cond.static yX3_fits, Cond.code yX3_fits cX3_fits 2 (some .boolean), Cond.methodLink RX3 126 yX3_swaps, Cond.instanceMethod yX3_swaps, Cond.selects RX3 yX3_swaps yX3_swaps, Cond.code yX3_swaps cX3_swaps 8 (some .int), Cond.methodLink RX3 117 yX3_kindAt, Cond.instanceMethod yX3_kindAt, Cond.selects RX3 yX3_kindAt yX3_kindAt, Cond.code yX3_kindAt cX3_kindAt 3 (some .int), Cond.methodLink RX3 130 yX3_turns, Cond.instanceMethod yX3_turns, Cond.selects RX3 yX3_turns yX3_turns, Cond.code yX3_turns cX3_turns 7 (some .int), Cond.methodLink RX3 122 yX3_pours, Cond.instanceMethod yX3_pours, Cond.selects RX3 yX3_pours yX3_pours, Cond.code yX3_pours cX3_pours 8 (some .int), Cond.fieldLink RX3 114 "SeedDrawersModel" "poured" "I", Cond.methodLink RX3 49 yX3_met1, Cond.instanceMethod yX3_met1, Cond.selects RX3 yX3_met1 yX3_met1, Cond.code yX3_met1 cX3_met1 2 (some .int)]
def wsX3_run_r4 : List Cond := [Cond.fieldLink RX3 45 "SeedDrawersModel" "fault" "I", Cond.fieldLink RX3 30 "SeedDrawersModel" "faults" "[I"]
def wsX3_run : List Cond := .code yX3_run cX3_run 4 (some .int) :: ((wsX3_run_r1 ++ (wsX3_run_r2 ++ (wsX3_run_r3 ++ wsX3_run_r4))) ++ wsX30)
def wsX3_met : List Cond := .code yX3_met cX3_met 2 (some .int) :: ([.fieldLink RX3 138 "SeedDrawersModel" "done" "I", .fieldLink RX3 36 "SeedDrawersModel" "doneFault" "[I", .methodLink RX3 41 yX3_beyond, .static yX3_beyond, .initialized RX3, .code yX3_beyond cX3_beyond 6 (some .boolean)] ++ wsX30)
def wsX3_fault : List Cond := .code yX3_fault cX3_fault 1 (some .int) :: ([.fieldLink RX3 45 "SeedDrawersModel" "fault" "I"] ++ wsX30)
def wsX3_faults : List Cond := .code yX3_faults cX3_faults 2 (some .int) :: ([.constantLong RX3 133 (4), .fieldLink RX3 30 "SeedDrawersModel" "faults" "[I", .methodLink RX3 41 yX3_beyond, .static yX3_beyond, .initialized RX3, .code yX3_beyond cX3_beyond 6 (some .boolean)] ++ wsX30)
def wsX3_told : List Cond := .code yX3_told cX3_told 5 (some .int) :: ([.fieldLink RX3 7 "SeedDrawersModel" "has" "[I", .fieldLink RX3 19 "SeedDrawersModel" "kindOf" "[I", .fieldLink RX3 16 "SeedDrawersModel" "rowOf" "[I", .fieldLink RX3 13 "SeedDrawersModel" "note" "[I", .methodLink RX3 53 yX3_no, .static yX3_no, .initialized RX3, .code yX3_no cX3_no 1 (some .boolean), .constantLong RX3 39 (7), .methodLink RX3 41 yX3_beyond, .static yX3_beyond, .code yX3_beyond cX3_beyond 6 (some .boolean)] ++ wsX30)
def wsX3_value : List Cond := .code yX3_value cX3_value 1 (some .long) :: ([.fieldLink RX3 66 "SeedDrawersModel" "holds" "Z", .fieldLink RX3 73 "SeedDrawersModel" "handValue" "J"] ++ wsX30)
def wsL_law_r1 : List Cond := [Cond.classLink RL 7 RX2, Cond.instantiable RX2 12, Cond.initialized RX2, Cond.classLink RL 10 RX3, Cond.instantiable RX3 18, Cond.initialized RX3, Cond.constantLong RL 32 (4294967295), Cond.methodLink RL 9 yX2_init, Cond.instanceMethod yX2_init, Cond.code yX2_init cX2_init 2 none, Cond.methodLink RX2 1 objectInit, Cond.instanceMethod objectInit, Cond.code objectInit ⟨#[0xb1]⟩ 1 none, Cond.classLink RX2 7 RX0, Cond.instantiable RX0 4, Cond.initialized RX0, Cond.fieldLink RX2 10 "SeedDrawers" "nothing" "LSeedDrawers$Content;", Cond.fieldLink RX2 16 "SeedDrawers" "drawers" "[LSeedDrawers$Content;", Cond.fieldLink RX2 20 "SeedDrawers" "contents" "[LSeedDrawers$Content;", Cond.fieldLink RX2 23 "SeedDrawers" "handKind" "I", Cond.classLink RX2 27 RX1, Cond.fieldLink RX2 29 "SeedDrawers" "orders" "[LSeedDrawers$Order;", Cond.instantiable RX1 5, Cond.initialized RX1]
def wsL_law_r2 : List Cond := [Cond.arrayClass .int, Cond.fieldLink RX2 34 "SeedDrawers" "metFaults" "[I", Cond.fieldLink RX2 38 "SeedDrawers" "faultCounts" "[I", Cond.instanceMethod yX0_init, Cond.code yX0_init cX0_init 1 none, Cond.methodLink RX0 3 objectInit, Cond.arrayClass .long, Cond.fieldLink RX0 9 "SeedDrawers$Content" "values" "[J", Cond.instanceMethod yX1_init, Cond.code yX1_init cX1_init 1 none, Cond.methodLink RX1 1 objectInit, Cond.methodLink RL 12 yX3_init, Cond.instanceMethod yX3_init, Cond.code yX3_init cX3_init 1 none, Cond.methodLink RX3 1 objectInit, Cond.fieldLink RX3 7 "SeedDrawersModel" "has" "[I", Cond.fieldLink RX3 13 "SeedDrawersModel" "note" "[I", Cond.fieldLink RX3 16 "SeedDrawersModel" "rowOf" "[I", Cond.fieldLink RX3 19 "SeedDrawersModel" "kindOf" "[I", Cond.fieldLink RX3 22 "SeedDrawersModel" "sizeOf" "[I", Cond.constant RX3 25 (60000), Cond.fieldLink RX3 26 "SeedDrawersModel" "place" "[J", Cond.fieldLink RX3 30 "SeedDrawersModel" "faults" "[I", Cond.fieldLink RX3 33 "SeedDrawersModel" "orderOf" "[I"]
def wsL_law_r3 : List Cond := [Cond.fieldLink RX3 36 "SeedDrawersModel" "doneFault" "[I", Cond.methodLink RL 13 yX2_row, Cond.instanceMethod yX2_row, Cond.selects RX2 yX2_row yX2_row, Cond.code yX2_row cX2_row 4 (some .int), Cond.methodLink RX2 41 yX2_isDrawer, Cond.static yX2_isDrawer, Cond.code yX2_isDrawer cX2_isDrawer 1 (some .boolean), Cond.methodLink RX2 45 yX2_newContent, Cond.instanceMethod yX2_newContent, Cond.selects RX2 yX2_newContent yX2_newContent, Cond.code yX2_newContent cX2_newContent 4 (some (.object "SeedDrawers$Content")), Cond.methodLink RX2 142 yX2_holdersOf, Cond.instanceMethod yX2_holdersOf, Cond.selects RX2 yX2_holdersOf yX2_holdersOf, Cond.code yX2_holdersOf cX2_holdersOf 4 (some .int), Cond.methodLink RX2 49 yX0_becomeRow, Cond.instanceMethod yX0_becomeRow, Cond.selects RX0 yX0_becomeRow yX0_becomeRow, Cond.code yX0_becomeRow cX0_becomeRow 4 none, Cond.fieldLink RX0 15 "SeedDrawers$Content" "has" "I", Cond.fieldLink RX0 19 "SeedDrawers$Content" "noteNumber" "I", Cond.fieldLink RX0 22 "SeedDrawers$Content" "places" "I", Cond.methodLink RL 17 yX3_row]
def wsL_law_r4 : List Cond := [Cond.instanceMethod yX3_row, Cond.selects RX3 yX3_row yX3_row, Cond.code yX3_row cX3_row 5 (some .int), Cond.constantLong RX3 57 (6), Cond.constantLong RX3 59 (12), Cond.fieldLink RX3 61 "SeedDrawersModel" "rows" "I", Cond.methodLink RX3 53 yX3_no, Cond.static yX3_no, Cond.code yX3_no cX3_no 1 (some .boolean), Cond.constantLong RX3 39 (7), Cond.methodLink RX3 41 yX3_beyond, Cond.static yX3_beyond, Cond.code yX3_beyond cX3_beyond 6 (some .boolean), Cond.methodLink RL 18 yX2_note, Cond.instanceMethod yX2_note, Cond.selects RX2 yX2_note yX2_note, Cond.code yX2_note cX2_note 3 (some .int), Cond.methodLink RX2 53 yX0_becomeNote, Cond.instanceMethod yX0_becomeNote, Cond.selects RX0 yX0_becomeNote yX0_becomeNote, Cond.code yX0_becomeNote cX0_becomeNote 2 none, Cond.methodLink RL 22 yX3_note, Cond.instanceMethod yX3_note, Cond.selects RX3 yX3_note yX3_note]
def wsL_law_r5 : List Cond := [Cond.code yX3_note cX3_note 3 (some .int), Cond.methodLink RL 23 yX2_share, Cond.instanceMethod yX2_share, Cond.selects RX2 yX2_share yX2_share, Cond.code yX2_share cX2_share 3 (some .int), Cond.methodLink RL 26 yX3_share, Cond.instanceMethod yX3_share, Cond.selects RX3 yX3_share yX3_share, Cond.code yX3_share cX3_share 3 (some .int), Cond.methodLink RL 27 yX2_clear, Cond.instanceMethod yX2_clear, Cond.selects RX2 yX2_clear yX2_clear, Cond.code yX2_clear cX2_clear 3 (some .int), Cond.methodLink RL 31 yX3_clear, Cond.instanceMethod yX3_clear, Cond.selects RX3 yX3_clear yX3_clear, Cond.code yX3_clear cX3_clear 3 (some .int), Cond.methodLink RL 34 yX2_think, Cond.instanceMethod yX2_think, Cond.selects RX2 yX2_think yX2_think, Cond.code yX2_think cX2_think 4 (some .int), Cond.methodLink RX2 57 yX2_valueOfKind, Cond.static yX2_valueOfKind, Cond.code yX2_valueOfKind cX2_valueOfKind 3 (some .long)]
def wsL_law_r6 : List Cond := [Cond.methodLink RX2 61 yX2_hold, Cond.instanceMethod yX2_hold, Cond.selects RX2 yX2_hold yX2_hold, Cond.code yX2_hold cX2_hold 4 none, Cond.fieldLink RX2 86 "SeedDrawers" "handValue" "J", Cond.methodLink RL 38 yX3_think, Cond.instanceMethod yX3_think, Cond.selects RX3 yX3_think yX3_think, Cond.code yX3_think cX3_think 4 (some .int), Cond.constantLong RX3 64 (5), Cond.fieldLink RX3 66 "SeedDrawersModel" "holds" "Z", Cond.fieldLink RX3 70 "SeedDrawersModel" "handKind" "I", Cond.fieldLink RX3 73 "SeedDrawersModel" "handValue" "J", Cond.methodLink RL 39 yX2_card, Cond.instanceMethod yX2_card, Cond.selects RX2 yX2_card yX2_card, Cond.code yX2_card cX2_card 1 (some .int), Cond.fieldLink RX2 65 "SeedDrawers" "cardCount" "I", Cond.methodLink RL 43 yX3_card, Cond.instanceMethod yX3_card, Cond.selects RX3 yX3_card yX3_card, Cond.code yX3_card cX3_card 1 (some .int), Cond.fieldLink RX3 77 "SeedDrawersModel" "cards" "I", Cond.methodLink RL 44 yX2_drop]
def wsL_law_r7 : List Cond := [Cond.instanceMethod yX2_drop, Cond.selects RX2 yX2_drop yX2_drop, Cond.code yX2_drop cX2_drop 2 (some .int), Cond.methodLink RL 47 yX3_drop, Cond.instanceMethod yX3_drop, Cond.selects RX3 yX3_drop yX3_drop, Cond.code yX3_drop cX3_drop 2 (some .int), Cond.methodLink RX3 80 yX3_hand, Cond.instanceMethod yX3_hand, Cond.selects RX3 yX3_hand yX3_hand, Cond.code yX3_hand cX3_hand 1 (some .int), Cond.methodLink RL 48 yX2_take, Cond.instanceMethod yX2_take, Cond.selects RX2 yX2_take yX2_take, Cond.code yX2_take cX2_take 5 (some .int), Cond.fieldLink RX2 78 "SeedDrawers$Content" "values" "[J", Cond.methodLink RX2 68 yX0_faultOfComing, Cond.instanceMethod yX0_faultOfComing, Cond.selects RX0 yX0_faultOfComing yX0_faultOfComing, Cond.code yX0_faultOfComing cX0_faultOfComing 3 (some .int), Cond.methodLink RX0 25 yX0_faultOfRow, Cond.instanceMethod yX0_faultOfRow, Cond.selects RX0 yX0_faultOfRow yX0_faultOfRow, Cond.code yX0_faultOfRow cX0_faultOfRow 1 (some .int)]
def wsL_law_r8 : List Cond := [Cond.methodLink RX2 72 yX2_meet, Cond.instanceMethod yX2_meet, Cond.selects RX2 yX2_meet yX2_meet, Cond.code yX2_meet cX2_meet 2 (some .int), Cond.fieldLink RX2 129 "SeedDrawers" "latestFault" "I", Cond.methodLink RX2 75 yX0_kindAt, Cond.instanceMethod yX0_kindAt, Cond.selects RX0 yX0_kindAt yX0_kindAt, Cond.code yX0_kindAt cX0_kindAt 3 (some .int), Cond.methodLink RL 51 yX3_take, Cond.instanceMethod yX3_take, Cond.selects RX3 yX3_take yX3_take, Cond.code yX3_take cX3_take 4 (some .int), Cond.methodLink RX3 101 yX3_taking, Cond.instanceMethod yX3_taking, Cond.selects RX3 yX3_taking yX3_taking, Cond.code yX3_taking cX3_taking 4 (some .int), Cond.methodLink RX3 91 yX3_come, Cond.instanceMethod yX3_come, Cond.selects RX3 yX3_come yX3_come, Cond.code yX3_come cX3_come 4 (some .int), Cond.methodLink RX3 84 yX3_rowFault, Cond.instanceMethod yX3_rowFault, Cond.selects RX3 yX3_rowFault yX3_rowFault]
def wsL_law_r9 : List Cond := [Cond.code yX3_rowFault cX3_rowFault 2 (some .int), Cond.methodLink RX3 98 yX3_isEmpty, Cond.instanceMethod yX3_isEmpty, Cond.selects RX3 yX3_isEmpty yX3_isEmpty, Cond.code yX3_isEmpty cX3_isEmpty 3 (some .boolean), Cond.methodLink RX3 87 yX3_at, Cond.instanceMethod yX3_at, Cond.selects RX3 yX3_at yX3_at, Cond.code yX3_at cX3_at 3 (some .int), Cond.methodLink RX3 104 yX3_answer, Cond.instanceMethod yX3_answer, Cond.selects RX3 yX3_answer yX3_answer, Cond.code yX3_answer cX3_answer 3 (some .int), Cond.methodLink RX3 49 yX3_met1, Cond.instanceMethod yX3_met1, Cond.selects RX3 yX3_met1 yX3_met1, Cond.code yX3_met1 cX3_met1 2 (some .int), Cond.fieldLink RX3 45 "SeedDrawersModel" "fault" "I", Cond.methodLink RL 52 yX2_lay, Cond.instanceMethod yX2_lay, Cond.selects RX2 yX2_lay yX2_lay, Cond.code yX2_lay cX2_lay 5 (some .int), Cond.methodLink RX2 82 yX0_faultOfLaying, Cond.instanceMethod yX0_faultOfLaying]
def wsL_law_r10 : List Cond := [Cond.selects RX0 yX0_faultOfLaying yX0_faultOfLaying, Cond.code yX0_faultOfLaying cX0_faultOfLaying 4 (some .int), Cond.methodLink RX0 29 yX0_faultOfComing, Cond.static yX2_fits, Cond.code yX2_fits cX2_fits 2 (some .boolean), Cond.methodLink RL 55 yX3_lay, Cond.instanceMethod yX3_lay, Cond.selects RX3 yX3_lay yX3_lay, Cond.code yX3_lay cX3_lay 3 (some .int), Cond.methodLink RX3 111 yX3_puts, Cond.instanceMethod yX3_puts, Cond.selects RX3 yX3_puts yX3_puts, Cond.code yX3_puts cX3_puts 4 (some .int), Cond.methodLink RX3 107 yX3_laying, Cond.instanceMethod yX3_laying, Cond.selects RX3 yX3_laying yX3_laying, Cond.code yX3_laying cX3_laying 5 (some .int), Cond.methodLink RX3 94 yX3_fits, Cond.static yX3_fits, Cond.code yX3_fits cX3_fits 2 (some .boolean), Cond.methodLink RL 56 yX2_size, Cond.instanceMethod yX2_size, Cond.selects RX2 yX2_size yX2_size, Cond.code yX2_size cX2_size 3 (some .int)]
def wsL_law_r11 : List Cond := [Cond.fieldLink RX2 94 "SeedDrawers$Content" "places" "I", Cond.methodLink RX2 90 yX0_faultOfRow, Cond.methodLink RL 59 yX3_size, Cond.instanceMethod yX3_size, Cond.selects RX3 yX3_size yX3_size, Cond.code yX3_size cX3_size 3 (some .int), Cond.methodLink RL 60 yX2_pour, Cond.instanceMethod yX2_pour, Cond.selects RX2 yX2_pour yX2_pour, Cond.code yX2_pour cX2_pour 8 (some .int), Cond.methodLink RX2 97 yX2_isTellableIndex, Cond.static yX2_isTellableIndex, Cond.code yX2_isTellableIndex cX2_isTellableIndex 1 (some .boolean), Cond.methodLink RX2 100 yX2_pourOne, Cond.static yX2_pourOne, Cond.code yX2_pourOne cX2_pourOne 5 (some .int), Cond.methodLink RL 64 yX3_pour, Cond.instanceMethod yX3_pour, Cond.selects RX3 yX3_pour yX3_pour, Cond.code yX3_pour cX3_pour 7 (some .int), Cond.constantLong RX3 120 (20), Cond.fieldLink RX3 114 "SeedDrawersModel" "poured" "I", Cond.methodLink RX3 122 yX3_pours, Cond.instanceMethod yX3_pours]
def wsL_law_r12 : List Cond := [Cond.selects RX3 yX3_pours yX3_pours, Cond.code yX3_pours cX3_pours 8 (some .int), Cond.methodLink RX3 117 yX3_kindAt, Cond.instanceMethod yX3_kindAt, Cond.selects RX3 yX3_kindAt yX3_kindAt, Cond.code yX3_kindAt cX3_kindAt 3 (some .int), Cond.methodLink RL 65 yX2_swap, Cond.instanceMethod yX2_swap, Cond.selects RX2 yX2_swap yX2_swap, Cond.code yX2_swap cX2_swap 10 (some .int), Cond.methodLink RX2 104 yX2_faultOfSwapping, Cond.static yX2_faultOfSwapping, Cond.code yX2_faultOfSwapping cX2_faultOfSwapping 5 (some .int), Cond.methodLink RL 69 yX3_swap, Cond.instanceMethod yX3_swap, Cond.selects RX3 yX3_swap yX3_swap, Cond.code yX3_swap cX3_swap 5 (some .int), Cond.methodLink RX3 126 yX3_swaps, Cond.instanceMethod yX3_swaps, Cond.selects RX3 yX3_swaps yX3_swaps, Cond.code yX3_swaps cX3_swaps 8 (some .int), Cond.methodLink RL 70 yX2_turn, Cond.instanceMethod yX2_turn, Cond.selects RX2 yX2_turn yX2_turn]
def wsL_law_r13 : List Cond := [Cond.code yX2_turn cX2_turn 3 (some .int), Cond.methodLink RX2 107 yX0_reverse, Cond.instanceMethod yX0_reverse, Cond.selects RX0 yX0_reverse yX0_reverse, Cond.code yX0_reverse cX0_reverse 5 (some .int), Cond.methodLink RL 73 yX3_turn, Cond.instanceMethod yX3_turn, Cond.selects RX3 yX3_turn yX3_turn, Cond.code yX3_turn cX3_turn 3 (some .int), Cond.methodLink RX3 130 yX3_turns, Cond.instanceMethod yX3_turns, Cond.selects RX3 yX3_turns yX3_turns, Cond.code yX3_turns cX3_turns 7 (some .int), Cond.methodLink RL 74 yX2_sum, Cond.instanceMethod yX2_sum, Cond.selects RX2 yX2_sum yX2_sum, Cond.code yX2_sum cX2_sum 3 (some .long), Cond.methodLink RX2 110 yX0_total, Cond.instanceMethod yX0_total, Cond.selects RX0 yX0_total yX0_total, Cond.code yX0_total cX0_total 4 (some .long), Cond.methodLink RL 78 yX3_sum, Cond.instanceMethod yX3_sum, Cond.selects RX3 yX3_sum yX3_sum]
def wsL_law_r14 : List Cond := [Cond.code yX3_sum cX3_sum 6 (some .long), Cond.methodLink RL 79 yX2_find, Cond.instanceMethod yX2_find, Cond.selects RX2 yX2_find yX2_find, Cond.code yX2_find cX2_find 3 (some .int), Cond.methodLink RX2 114 yX0_firstPlaceOf, Cond.instanceMethod yX0_firstPlaceOf, Cond.selects RX0 yX0_firstPlaceOf yX0_firstPlaceOf, Cond.code yX0_firstPlaceOf cX0_firstPlaceOf 5 (some .int), Cond.methodLink RX0 37 yX0_kindAt, Cond.methodLink RL 82 yX3_find, Cond.instanceMethod yX3_find, Cond.selects RX3 yX3_find yX3_find, Cond.code yX3_find cX3_find 6 (some .int), Cond.methodLink RL 83 yX2_order, Cond.instanceMethod yX2_order, Cond.selects RX2 yX2_order yX2_order, Cond.code yX2_order cX2_order 6 (some .int), Cond.fieldLink RX2 118 "SeedDrawers" "orderCount" "I", Cond.methodLink RX2 121 yX1_write, Cond.instanceMethod yX1_write, Cond.selects RX1 yX1_write yX1_write, Cond.code yX1_write cX1_write 6 none, Cond.fieldLink RX1 7 "SeedDrawers$Order" "op" "I"]
def wsL_law_r15 : List Cond := [Cond.fieldLink RX1 13 "SeedDrawers$Order" "a" "I", Cond.fieldLink RX1 16 "SeedDrawers$Order" "i" "I", Cond.fieldLink RX1 19 "SeedDrawers$Order" "b" "I", Cond.fieldLink RX1 22 "SeedDrawers$Order" "j" "I", Cond.methodLink RL 86 yX3_order, Cond.instanceMethod yX3_order, Cond.selects RX3 yX3_order yX3_order, Cond.code yX3_order cX3_order 7 (some .int), Cond.constantLong RX3 133 (4), Cond.fieldLink RX3 135 "SeedDrawersModel" "orders" "I", Cond.methodLink RL 87 yX2_run, Cond.instanceMethod yX2_run, Cond.selects RX2 yX2_run yX2_run, Cond.code yX2_run cX2_run 4 (some .int), Cond.fieldLink RX2 132 "SeedDrawers" "metCount" "I", Cond.methodLink RX2 125 yX2_perform, Cond.instanceMethod yX2_perform, Cond.selects RX2 yX2_perform yX2_perform, Cond.code yX2_perform cX2_perform 2 none, Cond.fieldLink RX2 149 "SeedDrawers$Order" "op" "I", Cond.fieldLink RX2 152 "SeedDrawers$Order" "a" "I", Cond.fieldLink RX2 155 "SeedDrawers$Order" "i" "I", Cond.fieldLink RX2 161 "SeedDrawers$Order" "b" "I", Cond.fieldLink RX2 164 "SeedDrawers$Order" "j" "I"]
def wsL_law_r16 : List Cond := [Cond.methodLink RX2 158 yX2_take, Cond.methodLink RX2 167 yX2_lay, Cond.methodLink RX2 170 yX2_swap, Cond.methodLink RX2 174 yX2_turn, Cond.methodLink RX2 177 yX2_pour, Cond.methodLink RL 90 yX3_run, Cond.instanceMethod yX3_run, Cond.selects RX3 yX3_run yX3_run, Cond.code yX3_run cX3_run 4 (some .int), Cond.fieldLink RX3 138 "SeedDrawersModel" "done" "I", Cond.methodLink RX3 141 yX3_does, Cond.instanceMethod yX3_does, Cond.selects RX3 yX3_does yX3_does, Cond.code yX3_does cX3_does 6 (some .int), Cond.methodLink RL 91 yX2_met, Cond.instanceMethod yX2_met, Cond.selects RX2 yX2_met yX2_met, Cond.code yX2_met cX2_met 2 (some .int), Cond.methodLink RL 94 yX3_met, Cond.instanceMethod yX3_met, Cond.selects RX3 yX3_met yX3_met, Cond.code yX3_met cX3_met 2 (some .int), Cond.methodLink RL 95 yX2_fault, Cond.instanceMethod yX2_fault]
def wsL_law_r17 : List Cond := [Cond.selects RX2 yX2_fault yX2_fault, Cond.code yX2_fault cX2_fault 1 (some .int), Cond.methodLink RL 98 yX3_fault, Cond.instanceMethod yX3_fault, Cond.selects RX3 yX3_fault yX3_fault, Cond.code yX3_fault cX3_fault 1 (some .int), Cond.methodLink RL 99 yX2_faults, Cond.instanceMethod yX2_faults, Cond.selects RX2 yX2_faults yX2_faults, Cond.code yX2_faults cX2_faults 2 (some .int), Cond.methodLink RL 102 yX3_faults, Cond.instanceMethod yX3_faults, Cond.selects RX3 yX3_faults yX3_faults, Cond.code yX3_faults cX3_faults 2 (some .int), Cond.methodLink RL 103 yX2_told, Cond.instanceMethod yX2_told, Cond.selects RX2 yX2_told yX2_told, Cond.code yX2_told cX2_told 4 (some .int), Cond.fieldLink RX2 135 "SeedDrawers$Content" "has" "I", Cond.fieldLink RX2 146 "SeedDrawers$Content" "noteNumber" "I", Cond.methodLink RX2 138 yX0_isRow, Cond.instanceMethod yX0_isRow, Cond.selects RX0 yX0_isRow yX0_isRow, Cond.code yX0_isRow cX0_isRow 1 (some .boolean)]
def wsL_law_r18 : List Cond := [Cond.methodLink RL 106 yX3_told, Cond.instanceMethod yX3_told, Cond.selects RX3 yX3_told yX3_told, Cond.code yX3_told cX3_told 5 (some .int), Cond.methodLink RL 107 yX2_hand, Cond.instanceMethod yX2_hand, Cond.selects RX2 yX2_hand yX2_hand, Cond.code yX2_hand cX2_hand 1 (some .int), Cond.methodLink RL 110 yX3_hand, Cond.methodLink RL 111 yX2_value, Cond.instanceMethod yX2_value, Cond.selects RX2 yX2_value yX2_value, Cond.code yX2_value cX2_value 1 (some .long), Cond.methodLink RL 115 yX3_value, Cond.instanceMethod yX3_value, Cond.selects RX3 yX3_value yX3_value, Cond.code yX3_value cX3_value 1 (some .long)]
def wsL_law : List Cond := (wsL_law_r1 ++ (wsL_law_r2 ++ (wsL_law_r3 ++ (wsL_law_r4 ++ (wsL_law_r5 ++ (wsL_law_r6 ++ (wsL_law_r7 ++ (wsL_law_r8 ++ (wsL_law_r9 ++ (wsL_law_r10 ++ (wsL_law_r11 ++ (wsL_law_r12 ++ (wsL_law_r13 ++ (wsL_law_r14 ++ (wsL_law_r15 ++ (wsL_law_r16 ++ (wsL_law_r17 ++ wsL_law_r18))))))))))))))))) ++ wsX20 ++ wsX30 ++ wsX00 ++ wsX10 ++ ([] : List Cond)
set_option maxRecDepth 20000 in
theorem wsL_law_in : ∀ w ∈ wsL_law, w ∈ lw_tbl := fun w h => (goodIn_p wsL_law [28, 31, 36, 62, 309, 126, 129, 133, 137, 141, 370, 373, 377, 145, 149, 383, 153, 387, 157, 391, 161, 164, 168, 395, 172, 400, 176, 404, 408, 180, 184, 188, 192, 196, 412, 416, 420, 424, 428, 432, 436, 440, 200, 204, 208, 444, 448, 452, 455, 212, 459, 217, 220, 223, 463, 468, 472, 227, 230, 476, 480, 234, 238, 484, 488, 242, 246, 492, 250, 254, 496, 259, 263, 500, 267, 271, 505, 509, 280, 513, 284, 517, 288, 521, 292, 296, 525, 300, 304, 530] (by decide +kernel) (by decide +kernel) w h).1
theorem inlX0 : ∀ w ∈ wsX00, w ∈ wsL_law := fun _ h => List.mem_append_left _ (List.mem_append_left _ (List.mem_append_right _ h))
theorem inX0 : ∀ w ∈ wsX00, w ∈ lw_tbl := fun w h => wsL_law_in w (inlX0 w h)
theorem inlX1 : ∀ w ∈ wsX10, w ∈ wsL_law := fun _ h => List.mem_append_left _ (List.mem_append_right _ h)
theorem inX1 : ∀ w ∈ wsX10, w ∈ lw_tbl := fun w h => wsL_law_in w (inlX1 w h)
theorem inlX2 : ∀ w ∈ wsX20, w ∈ wsL_law := fun _ h => List.mem_append_left _ (List.mem_append_left _ (List.mem_append_left _ (List.mem_append_left _ (List.mem_append_right _ h))))
theorem inX2 : ∀ w ∈ wsX20, w ∈ lw_tbl := fun w h => wsL_law_in w (inlX2 w h)
theorem inlX3 : ∀ w ∈ wsX30, w ∈ wsL_law := fun _ h => List.mem_append_left _ (List.mem_append_left _ (List.mem_append_left _ (List.mem_append_right _ h)))
theorem inX3 : ∀ w ∈ wsX30, w ∈ lw_tbl := fun w h => wsL_law_in w (inlX3 w h)
theorem dX0_init_0 : decode cX0_init 0 = .ok (.aload_n 0, 1) := by decide +kernel
theorem dX0_init_1 : decode cX0_init 1 = .ok (.invokespecial 3, 3) := by decide +kernel
theorem dX0_init_4 : decode cX0_init 4 = .ok (.aload_n 0, 1) := by decide +kernel
theorem dX0_init_5 : decode cX0_init 5 = .ok (.bipush 12, 2) := by decide +kernel
theorem dX0_init_7 : decode cX0_init 7 = .ok (.newarray .long, 2) := by decide +kernel
theorem dX0_init_9 : decode cX0_init 9 = .ok (.putfield 9, 3) := by decide +kernel
theorem dX0_init_12 : decode cX0_init 12 = .ok (.return_, 1) := by decide +kernel
theorem dX0_becomeNote_0 : decode cX0_becomeNote 0 = .ok (.aload_n 0, 1) := by decide +kernel
theorem dX0_becomeNote_1 : decode cX0_becomeNote 1 = .ok (.iconst 1, 1) := by decide +kernel
theorem dX0_becomeNote_2 : decode cX0_becomeNote 2 = .ok (.putfield 15, 3) := by decide +kernel
theorem dX0_becomeNote_5 : decode cX0_becomeNote 5 = .ok (.aload_n 0, 1) := by decide +kernel
theorem dX0_becomeNote_6 : decode cX0_becomeNote 6 = .ok (.iload_n 1, 1) := by decide +kernel
theorem dX0_becomeNote_7 : decode cX0_becomeNote 7 = .ok (.putfield 19, 3) := by decide +kernel
theorem dX0_becomeNote_10 : decode cX0_becomeNote 10 = .ok (.return_, 1) := by decide +kernel
theorem dX0_becomeRow_0 : decode cX0_becomeRow 0 = .ok (.aload_n 0, 1) := by decide +kernel
theorem dX0_becomeRow_1 : decode cX0_becomeRow 1 = .ok (.iconst 2, 1) := by decide +kernel
theorem dX0_becomeRow_2 : decode cX0_becomeRow 2 = .ok (.iload_n 1, 1) := by decide +kernel
theorem dX0_becomeRow_3 : decode cX0_becomeRow 3 = .ok (.iadd, 1) := by decide +kernel
theorem dX0_becomeRow_4 : decode cX0_becomeRow 4 = .ok (.putfield 15, 3) := by decide +kernel
theorem dX0_becomeRow_7 : decode cX0_becomeRow 7 = .ok (.aload_n 0, 1) := by decide +kernel
theorem dX0_becomeRow_8 : decode cX0_becomeRow 8 = .ok (.iconst 0, 1) := by decide +kernel
theorem dX0_becomeRow_9 : decode cX0_becomeRow 9 = .ok (.putfield 19, 3) := by decide +kernel
theorem dX0_becomeRow_12 : decode cX0_becomeRow 12 = .ok (.aload_n 0, 1) := by decide +kernel
theorem dX0_becomeRow_13 : decode cX0_becomeRow 13 = .ok (.iload_n 2, 1) := by decide +kernel
theorem dX0_becomeRow_14 : decode cX0_becomeRow 14 = .ok (.putfield 22, 3) := by decide +kernel
theorem dX0_becomeRow_17 : decode cX0_becomeRow 17 = .ok (.iconst 0, 1) := by decide +kernel
theorem dX0_becomeRow_18 : decode cX0_becomeRow 18 = .ok (.istore_n 3, 1) := by decide +kernel
theorem dX0_becomeRow_19 : decode cX0_becomeRow 19 = .ok (.iload_n 3, 1) := by decide +kernel
theorem dX0_becomeRow_20 : decode cX0_becomeRow 20 = .ok (.bipush 12, 2) := by decide +kernel
theorem dX0_becomeRow_22 : decode cX0_becomeRow 22 = .ok (.if_icmp .ge 16, 3) := by decide +kernel
theorem dX0_becomeRow_25 : decode cX0_becomeRow 25 = .ok (.aload_n 0, 1) := by decide +kernel
theorem dX0_becomeRow_26 : decode cX0_becomeRow 26 = .ok (.getfield 9, 3) := by decide +kernel
theorem dX0_becomeRow_29 : decode cX0_becomeRow 29 = .ok (.iload_n 3, 1) := by decide +kernel
theorem dX0_becomeRow_30 : decode cX0_becomeRow 30 = .ok (.lconst 0, 1) := by decide +kernel
theorem dX0_becomeRow_31 : decode cX0_becomeRow 31 = .ok (.lastore, 1) := by decide +kernel
theorem dX0_becomeRow_32 : decode cX0_becomeRow 32 = .ok (.iinc 3 1, 3) := by decide +kernel
theorem dX0_becomeRow_35 : decode cX0_becomeRow 35 = .ok (.goto (-16), 3) := by decide +kernel
theorem dX0_becomeRow_38 : decode cX0_becomeRow 38 = .ok (.return_, 1) := by decide +kernel
theorem dX0_isRow_0 : decode cX0_isRow 0 = .ok (.aload_n 0, 1) := by decide +kernel
theorem dX0_isRow_1 : decode cX0_isRow 1 = .ok (.getfield 15, 3) := by decide +kernel
theorem dX0_isRow_4 : decode cX0_isRow 4 = .ok (.iconst 2, 1) := by decide +kernel
theorem dX0_isRow_5 : decode cX0_isRow 5 = .ok (.if_icmp .lt 7, 3) := by decide +kernel
theorem dX0_isRow_8 : decode cX0_isRow 8 = .ok (.iconst 1, 1) := by decide +kernel
theorem dX0_isRow_9 : decode cX0_isRow 9 = .ok (.goto 4, 3) := by decide +kernel
theorem dX0_isRow_12 : decode cX0_isRow 12 = .ok (.iconst 0, 1) := by decide +kernel
theorem dX0_isRow_13 : decode cX0_isRow 13 = .ok (.ireturn, 1) := by decide +kernel
theorem dX0_faultOfRow_0 : decode cX0_faultOfRow 0 = .ok (.aload_n 0, 1) := by decide +kernel
theorem dX0_faultOfRow_1 : decode cX0_faultOfRow 1 = .ok (.getfield 15, 3) := by decide +kernel
theorem dX0_faultOfRow_4 : decode cX0_faultOfRow 4 = .ok (.ifCond .ne 5, 3) := by decide +kernel
theorem dX0_faultOfRow_7 : decode cX0_faultOfRow 7 = .ok (.iconst 1, 1) := by decide +kernel
theorem dX0_faultOfRow_8 : decode cX0_faultOfRow 8 = .ok (.ireturn, 1) := by decide +kernel
theorem dX0_faultOfRow_9 : decode cX0_faultOfRow 9 = .ok (.aload_n 0, 1) := by decide +kernel
theorem dX0_faultOfRow_10 : decode cX0_faultOfRow 10 = .ok (.getfield 15, 3) := by decide +kernel
theorem dX0_faultOfRow_13 : decode cX0_faultOfRow 13 = .ok (.iconst 1, 1) := by decide +kernel
theorem dX0_faultOfRow_14 : decode cX0_faultOfRow 14 = .ok (.if_icmp .ne 7, 3) := by decide +kernel
theorem dX0_faultOfRow_17 : decode cX0_faultOfRow 17 = .ok (.iconst 2, 1) := by decide +kernel
theorem dX0_faultOfRow_18 : decode cX0_faultOfRow 18 = .ok (.goto 4, 3) := by decide +kernel
theorem dX0_faultOfRow_21 : decode cX0_faultOfRow 21 = .ok (.iconst 0, 1) := by decide +kernel
theorem dX0_faultOfRow_22 : decode cX0_faultOfRow 22 = .ok (.ireturn, 1) := by decide +kernel
set_option maxRecDepth 20000 in
theorem ggX0_faultOfComing_X0_faultOfRow : GoodIn wsX0_faultOfComing wsX0_faultOfRow := goodIn_r _ [6, 7, 8, 9, 10, 11] (by decide +kernel) (by decide +kernel)
set_option maxRecDepth 20000 in
theorem gX0_faultOfComing_X0_faultOfRow : GoodIn wsX0_faultOfComing (wsV RX0 25 RX0 yX0_faultOfRow wsX0_faultOfRow) := goodIn_app (goodIn_of _ (by decide +kernel)) ggX0_faultOfComing_X0_faultOfRow
theorem dX0_faultOfComing_0 : decode cX0_faultOfComing 0 = .ok (.aload_n 0, 1) := by decide +kernel
theorem dX0_faultOfComing_1 : decode cX0_faultOfComing 1 = .ok (.invokevirtual 25, 3) := by decide +kernel
theorem dX0_faultOfComing_4 : decode cX0_faultOfComing 4 = .ok (.istore_n 2, 1) := by decide +kernel
theorem dX0_faultOfComing_5 : decode cX0_faultOfComing 5 = .ok (.iload_n 2, 1) := by decide +kernel
theorem dX0_faultOfComing_6 : decode cX0_faultOfComing 6 = .ok (.ifCond .eq 5, 3) := by decide +kernel
theorem dX0_faultOfComing_9 : decode cX0_faultOfComing 9 = .ok (.iload_n 2, 1) := by decide +kernel
theorem dX0_faultOfComing_10 : decode cX0_faultOfComing 10 = .ok (.ireturn, 1) := by decide +kernel
theorem dX0_faultOfComing_11 : decode cX0_faultOfComing 11 = .ok (.iload_n 1, 1) := by decide +kernel
theorem dX0_faultOfComing_12 : decode cX0_faultOfComing 12 = .ok (.ifCond .lt 11, 3) := by decide +kernel
theorem dX0_faultOfComing_15 : decode cX0_faultOfComing 15 = .ok (.iload_n 1, 1) := by decide +kernel
theorem dX0_faultOfComing_16 : decode cX0_faultOfComing 16 = .ok (.aload_n 0, 1) := by decide +kernel
theorem dX0_faultOfComing_17 : decode cX0_faultOfComing 17 = .ok (.getfield 22, 3) := by decide +kernel
theorem dX0_faultOfComing_20 : decode cX0_faultOfComing 20 = .ok (.if_icmp .lt 7, 3) := by decide +kernel
theorem dX0_faultOfComing_23 : decode cX0_faultOfComing 23 = .ok (.iconst 3, 1) := by decide +kernel
theorem dX0_faultOfComing_24 : decode cX0_faultOfComing 24 = .ok (.goto 4, 3) := by decide +kernel
theorem dX0_faultOfComing_27 : decode cX0_faultOfComing 27 = .ok (.iconst 0, 1) := by decide +kernel
theorem dX0_faultOfComing_28 : decode cX0_faultOfComing 28 = .ok (.ireturn, 1) := by decide +kernel
set_option maxRecDepth 20000 in
theorem ggX0_faultOfLaying_X0_faultOfComing : GoodIn wsX0_faultOfLaying wsX0_faultOfComing := goodIn_r _ [6, 7, 8, 9, 10, 5, 11, 1, 15, 16, 17, 18] (by decide +kernel) (by decide +kernel)
set_option maxRecDepth 20000 in
theorem gX0_faultOfLaying_X0_faultOfComing : GoodIn wsX0_faultOfLaying (wsV RX0 29 RX0 yX0_faultOfComing wsX0_faultOfComing) := goodIn_app (goodIn_of _ (by decide +kernel)) ggX0_faultOfLaying_X0_faultOfComing
set_option maxRecDepth 20000 in
theorem ggX0_faultOfLaying_X2_fits : GoodIn wsX0_faultOfLaying wsX2_fits := goodIn_r _ [14] (by decide +kernel) (by decide +kernel)
set_option maxRecDepth 20000 in
theorem gX0_faultOfLaying_X2_fits_n33 : GoodIn wsX0_faultOfLaying (wsX2_fits) := ggX0_faultOfLaying_X2_fits
theorem dX0_faultOfLaying_0 : decode cX0_faultOfLaying 0 = .ok (.aload_n 0, 1) := by decide +kernel
theorem dX0_faultOfLaying_1 : decode cX0_faultOfLaying 1 = .ok (.iload_n 1, 1) := by decide +kernel
theorem dX0_faultOfLaying_2 : decode cX0_faultOfLaying 2 = .ok (.invokevirtual 29, 3) := by decide +kernel
theorem dX0_faultOfLaying_5 : decode cX0_faultOfLaying 5 = .ok (.istore_n 3, 1) := by decide +kernel
theorem dX0_faultOfLaying_6 : decode cX0_faultOfLaying 6 = .ok (.iload_n 3, 1) := by decide +kernel
theorem dX0_faultOfLaying_7 : decode cX0_faultOfLaying 7 = .ok (.ifCond .eq 5, 3) := by decide +kernel
theorem dX0_faultOfLaying_10 : decode cX0_faultOfLaying 10 = .ok (.iload_n 3, 1) := by decide +kernel
theorem dX0_faultOfLaying_11 : decode cX0_faultOfLaying 11 = .ok (.ireturn, 1) := by decide +kernel
theorem dX0_faultOfLaying_12 : decode cX0_faultOfLaying 12 = .ok (.iload_n 2, 1) := by decide +kernel
theorem dX0_faultOfLaying_13 : decode cX0_faultOfLaying 13 = .ok (.aload_n 0, 1) := by decide +kernel
theorem dX0_faultOfLaying_14 : decode cX0_faultOfLaying 14 = .ok (.getfield 15, 3) := by decide +kernel
theorem dX0_faultOfLaying_17 : decode cX0_faultOfLaying 17 = .ok (.iconst 2, 1) := by decide +kernel
theorem dX0_faultOfLaying_18 : decode cX0_faultOfLaying 18 = .ok (.isub, 1) := by decide +kernel
theorem dX0_faultOfLaying_19 : decode cX0_faultOfLaying 19 = .ok (.invokestatic 33, 3) := by decide +kernel
theorem dX0_faultOfLaying_22 : decode cX0_faultOfLaying 22 = .ok (.ifCond .eq 7, 3) := by decide +kernel
theorem dX0_faultOfLaying_25 : decode cX0_faultOfLaying 25 = .ok (.iconst 0, 1) := by decide +kernel
theorem dX0_faultOfLaying_26 : decode cX0_faultOfLaying 26 = .ok (.goto 4, 3) := by decide +kernel
theorem dX0_faultOfLaying_29 : decode cX0_faultOfLaying 29 = .ok (.iconst 4, 1) := by decide +kernel
theorem dX0_faultOfLaying_30 : decode cX0_faultOfLaying 30 = .ok (.ireturn, 1) := by decide +kernel
theorem dX0_kindAt_0 : decode cX0_kindAt 0 = .ok (.aload_n 0, 1) := by decide +kernel
theorem dX0_kindAt_1 : decode cX0_kindAt 1 = .ok (.getfield 15, 3) := by decide +kernel
theorem dX0_kindAt_4 : decode cX0_kindAt 4 = .ok (.iconst 2, 1) := by decide +kernel
theorem dX0_kindAt_5 : decode cX0_kindAt 5 = .ok (.isub, 1) := by decide +kernel
theorem dX0_kindAt_6 : decode cX0_kindAt 6 = .ok (.istore_n 2, 1) := by decide +kernel
theorem dX0_kindAt_7 : decode cX0_kindAt 7 = .ok (.iload_n 2, 1) := by decide +kernel
theorem dX0_kindAt_8 : decode cX0_kindAt 8 = .ok (.bipush 6, 2) := by decide +kernel
theorem dX0_kindAt_10 : decode cX0_kindAt 10 = .ok (.if_icmp .ne 19, 3) := by decide +kernel
theorem dX0_kindAt_13 : decode cX0_kindAt 13 = .ok (.aload_n 0, 1) := by decide +kernel
theorem dX0_kindAt_14 : decode cX0_kindAt 14 = .ok (.getfield 9, 3) := by decide +kernel
theorem dX0_kindAt_17 : decode cX0_kindAt 17 = .ok (.iload_n 1, 1) := by decide +kernel
theorem dX0_kindAt_18 : decode cX0_kindAt 18 = .ok (.laload, 1) := by decide +kernel
theorem dX0_kindAt_19 : decode cX0_kindAt 19 = .ok (.lconst 0, 1) := by decide +kernel
theorem dX0_kindAt_20 : decode cX0_kindAt 20 = .ok (.lcmp, 1) := by decide +kernel
theorem dX0_kindAt_21 : decode cX0_kindAt 21 = .ok (.ifCond .ne 8, 3) := by decide +kernel
theorem dX0_kindAt_24 : decode cX0_kindAt 24 = .ok (.bipush (-9), 2) := by decide +kernel
theorem dX0_kindAt_26 : decode cX0_kindAt 26 = .ok (.goto 4, 3) := by decide +kernel
theorem dX0_kindAt_29 : decode cX0_kindAt 29 = .ok (.iload_n 2, 1) := by decide +kernel
theorem dX0_kindAt_30 : decode cX0_kindAt 30 = .ok (.ireturn, 1) := by decide +kernel
theorem dX0_reverse_0 : decode cX0_reverse 0 = .ok (.aload_n 0, 1) := by decide +kernel
theorem dX0_reverse_1 : decode cX0_reverse 1 = .ok (.getfield 22, 3) := by decide +kernel
theorem dX0_reverse_4 : decode cX0_reverse 4 = .ok (.iconst 2, 1) := by decide +kernel
theorem dX0_reverse_5 : decode cX0_reverse 5 = .ok (.idiv, 1) := by decide +kernel
theorem dX0_reverse_6 : decode cX0_reverse 6 = .ok (.istore_n 1, 1) := by decide +kernel
theorem dX0_reverse_7 : decode cX0_reverse 7 = .ok (.iconst 0, 1) := by decide +kernel
theorem dX0_reverse_8 : decode cX0_reverse 8 = .ok (.istore_n 2, 1) := by decide +kernel
theorem dX0_reverse_9 : decode cX0_reverse 9 = .ok (.iload_n 2, 1) := by decide +kernel
theorem dX0_reverse_10 : decode cX0_reverse 10 = .ok (.iload_n 1, 1) := by decide +kernel
theorem dX0_reverse_11 : decode cX0_reverse 11 = .ok (.if_icmp .ge 49, 3) := by decide +kernel
theorem dX0_reverse_14 : decode cX0_reverse 14 = .ok (.aload_n 0, 1) := by decide +kernel
theorem dX0_reverse_15 : decode cX0_reverse 15 = .ok (.getfield 9, 3) := by decide +kernel
theorem dX0_reverse_18 : decode cX0_reverse 18 = .ok (.iload_n 2, 1) := by decide +kernel
theorem dX0_reverse_19 : decode cX0_reverse 19 = .ok (.laload, 1) := by decide +kernel
theorem dX0_reverse_20 : decode cX0_reverse 20 = .ok (.lstore_n 3, 1) := by decide +kernel
theorem dX0_reverse_21 : decode cX0_reverse 21 = .ok (.aload_n 0, 1) := by decide +kernel
theorem dX0_reverse_22 : decode cX0_reverse 22 = .ok (.getfield 9, 3) := by decide +kernel
theorem dX0_reverse_25 : decode cX0_reverse 25 = .ok (.iload_n 2, 1) := by decide +kernel
theorem dX0_reverse_26 : decode cX0_reverse 26 = .ok (.aload_n 0, 1) := by decide +kernel
theorem dX0_reverse_27 : decode cX0_reverse 27 = .ok (.getfield 9, 3) := by decide +kernel
theorem dX0_reverse_30 : decode cX0_reverse 30 = .ok (.aload_n 0, 1) := by decide +kernel
theorem dX0_reverse_31 : decode cX0_reverse 31 = .ok (.getfield 22, 3) := by decide +kernel
theorem dX0_reverse_34 : decode cX0_reverse 34 = .ok (.iconst 1, 1) := by decide +kernel
theorem dX0_reverse_35 : decode cX0_reverse 35 = .ok (.isub, 1) := by decide +kernel
theorem dX0_reverse_36 : decode cX0_reverse 36 = .ok (.iload_n 2, 1) := by decide +kernel
theorem dX0_reverse_37 : decode cX0_reverse 37 = .ok (.isub, 1) := by decide +kernel
theorem dX0_reverse_38 : decode cX0_reverse 38 = .ok (.laload, 1) := by decide +kernel
theorem dX0_reverse_39 : decode cX0_reverse 39 = .ok (.lastore, 1) := by decide +kernel
theorem dX0_reverse_40 : decode cX0_reverse 40 = .ok (.aload_n 0, 1) := by decide +kernel
theorem dX0_reverse_41 : decode cX0_reverse 41 = .ok (.getfield 9, 3) := by decide +kernel
theorem dX0_reverse_44 : decode cX0_reverse 44 = .ok (.aload_n 0, 1) := by decide +kernel
theorem dX0_reverse_45 : decode cX0_reverse 45 = .ok (.getfield 22, 3) := by decide +kernel
theorem dX0_reverse_48 : decode cX0_reverse 48 = .ok (.iconst 1, 1) := by decide +kernel
theorem dX0_reverse_49 : decode cX0_reverse 49 = .ok (.isub, 1) := by decide +kernel
theorem dX0_reverse_50 : decode cX0_reverse 50 = .ok (.iload_n 2, 1) := by decide +kernel
theorem dX0_reverse_51 : decode cX0_reverse 51 = .ok (.isub, 1) := by decide +kernel
theorem dX0_reverse_52 : decode cX0_reverse 52 = .ok (.lload_n 3, 1) := by decide +kernel
theorem dX0_reverse_53 : decode cX0_reverse 53 = .ok (.lastore, 1) := by decide +kernel
theorem dX0_reverse_54 : decode cX0_reverse 54 = .ok (.iinc 2 1, 3) := by decide +kernel
theorem dX0_reverse_57 : decode cX0_reverse 57 = .ok (.goto (-48), 3) := by decide +kernel
theorem dX0_reverse_60 : decode cX0_reverse 60 = .ok (.iload_n 1, 1) := by decide +kernel
theorem dX0_reverse_61 : decode cX0_reverse 61 = .ok (.ireturn, 1) := by decide +kernel
theorem dX0_total_0 : decode cX0_total 0 = .ok (.lconst 0, 1) := by decide +kernel
theorem dX0_total_1 : decode cX0_total 1 = .ok (.lstore_n 1, 1) := by decide +kernel
theorem dX0_total_2 : decode cX0_total 2 = .ok (.iconst 0, 1) := by decide +kernel
theorem dX0_total_3 : decode cX0_total 3 = .ok (.istore_n 3, 1) := by decide +kernel
theorem dX0_total_4 : decode cX0_total 4 = .ok (.iload_n 3, 1) := by decide +kernel
theorem dX0_total_5 : decode cX0_total 5 = .ok (.aload_n 0, 1) := by decide +kernel
theorem dX0_total_6 : decode cX0_total 6 = .ok (.getfield 22, 3) := by decide +kernel
theorem dX0_total_9 : decode cX0_total 9 = .ok (.if_icmp .ge 18, 3) := by decide +kernel
theorem dX0_total_12 : decode cX0_total 12 = .ok (.lload_n 1, 1) := by decide +kernel
theorem dX0_total_13 : decode cX0_total 13 = .ok (.aload_n 0, 1) := by decide +kernel
theorem dX0_total_14 : decode cX0_total 14 = .ok (.getfield 9, 3) := by decide +kernel
theorem dX0_total_17 : decode cX0_total 17 = .ok (.iload_n 3, 1) := by decide +kernel
theorem dX0_total_18 : decode cX0_total 18 = .ok (.laload, 1) := by decide +kernel
theorem dX0_total_19 : decode cX0_total 19 = .ok (.ladd, 1) := by decide +kernel
theorem dX0_total_20 : decode cX0_total 20 = .ok (.lstore_n 1, 1) := by decide +kernel
theorem dX0_total_21 : decode cX0_total 21 = .ok (.iinc 3 1, 3) := by decide +kernel
theorem dX0_total_24 : decode cX0_total 24 = .ok (.goto (-20), 3) := by decide +kernel
theorem dX0_total_27 : decode cX0_total 27 = .ok (.lload_n 1, 1) := by decide +kernel
theorem dX0_total_28 : decode cX0_total 28 = .ok (.lreturn, 1) := by decide +kernel
set_option maxRecDepth 20000 in
theorem ggX0_firstPlaceOf_X0_kindAt : GoodIn wsX0_firstPlaceOf wsX0_kindAt := goodIn_r _ [7, 8, 2, 9, 10, 11, 12] (by decide +kernel) (by decide +kernel)
set_option maxRecDepth 20000 in
theorem gX0_firstPlaceOf_X0_kindAt : GoodIn wsX0_firstPlaceOf (wsV RX0 37 RX0 yX0_kindAt wsX0_kindAt) := goodIn_app (goodIn_of _ (by decide +kernel)) ggX0_firstPlaceOf_X0_kindAt
theorem dX0_firstPlaceOf_0 : decode cX0_firstPlaceOf 0 = .ok (.iconst 0, 1) := by decide +kernel
theorem dX0_firstPlaceOf_1 : decode cX0_firstPlaceOf 1 = .ok (.istore 4, 2) := by decide +kernel
theorem dX0_firstPlaceOf_3 : decode cX0_firstPlaceOf 3 = .ok (.iload 4, 2) := by decide +kernel
theorem dX0_firstPlaceOf_5 : decode cX0_firstPlaceOf 5 = .ok (.aload_n 0, 1) := by decide +kernel
theorem dX0_firstPlaceOf_6 : decode cX0_firstPlaceOf 6 = .ok (.getfield 22, 3) := by decide +kernel
theorem dX0_firstPlaceOf_9 : decode cX0_firstPlaceOf 9 = .ok (.if_icmp .ge 34, 3) := by decide +kernel
theorem dX0_firstPlaceOf_12 : decode cX0_firstPlaceOf 12 = .ok (.aload_n 0, 1) := by decide +kernel
theorem dX0_firstPlaceOf_13 : decode cX0_firstPlaceOf 13 = .ok (.iload 4, 2) := by decide +kernel
theorem dX0_firstPlaceOf_15 : decode cX0_firstPlaceOf 15 = .ok (.invokevirtual 37, 3) := by decide +kernel
theorem dX0_firstPlaceOf_18 : decode cX0_firstPlaceOf 18 = .ok (.iload_n 1, 1) := by decide +kernel
theorem dX0_firstPlaceOf_19 : decode cX0_firstPlaceOf 19 = .ok (.if_icmp .ne 18, 3) := by decide +kernel
theorem dX0_firstPlaceOf_22 : decode cX0_firstPlaceOf 22 = .ok (.aload_n 0, 1) := by decide +kernel
theorem dX0_firstPlaceOf_23 : decode cX0_firstPlaceOf 23 = .ok (.getfield 9, 3) := by decide +kernel
theorem dX0_firstPlaceOf_26 : decode cX0_firstPlaceOf 26 = .ok (.iload 4, 2) := by decide +kernel
theorem dX0_firstPlaceOf_28 : decode cX0_firstPlaceOf 28 = .ok (.laload, 1) := by decide +kernel
theorem dX0_firstPlaceOf_29 : decode cX0_firstPlaceOf 29 = .ok (.lload_n 2, 1) := by decide +kernel
theorem dX0_firstPlaceOf_30 : decode cX0_firstPlaceOf 30 = .ok (.lcmp, 1) := by decide +kernel
theorem dX0_firstPlaceOf_31 : decode cX0_firstPlaceOf 31 = .ok (.ifCond .ne 6, 3) := by decide +kernel
theorem dX0_firstPlaceOf_34 : decode cX0_firstPlaceOf 34 = .ok (.iload 4, 2) := by decide +kernel
theorem dX0_firstPlaceOf_36 : decode cX0_firstPlaceOf 36 = .ok (.ireturn, 1) := by decide +kernel
theorem dX0_firstPlaceOf_37 : decode cX0_firstPlaceOf 37 = .ok (.iinc 4 1, 3) := by decide +kernel
theorem dX0_firstPlaceOf_40 : decode cX0_firstPlaceOf 40 = .ok (.goto (-37), 3) := by decide +kernel
theorem dX0_firstPlaceOf_43 : decode cX0_firstPlaceOf 43 = .ok (.bipush (-9), 2) := by decide +kernel
theorem dX0_firstPlaceOf_45 : decode cX0_firstPlaceOf 45 = .ok (.ireturn, 1) := by decide +kernel
theorem dX1_init_0 : decode cX1_init 0 = .ok (.aload_n 0, 1) := by decide +kernel
theorem dX1_init_1 : decode cX1_init 1 = .ok (.invokespecial 1, 3) := by decide +kernel
theorem dX1_init_4 : decode cX1_init 4 = .ok (.return_, 1) := by decide +kernel
theorem dX1_write_0 : decode cX1_write 0 = .ok (.aload_n 0, 1) := by decide +kernel
theorem dX1_write_1 : decode cX1_write 1 = .ok (.iload_n 1, 1) := by decide +kernel
theorem dX1_write_2 : decode cX1_write 2 = .ok (.putfield 7, 3) := by decide +kernel
theorem dX1_write_5 : decode cX1_write 5 = .ok (.aload_n 0, 1) := by decide +kernel
theorem dX1_write_6 : decode cX1_write 6 = .ok (.iload_n 2, 1) := by decide +kernel
theorem dX1_write_7 : decode cX1_write 7 = .ok (.putfield 13, 3) := by decide +kernel
theorem dX1_write_10 : decode cX1_write 10 = .ok (.aload_n 0, 1) := by decide +kernel
theorem dX1_write_11 : decode cX1_write 11 = .ok (.iload_n 3, 1) := by decide +kernel
theorem dX1_write_12 : decode cX1_write 12 = .ok (.putfield 16, 3) := by decide +kernel
theorem dX1_write_15 : decode cX1_write 15 = .ok (.aload_n 0, 1) := by decide +kernel
theorem dX1_write_16 : decode cX1_write 16 = .ok (.iload 4, 2) := by decide +kernel
theorem dX1_write_18 : decode cX1_write 18 = .ok (.putfield 19, 3) := by decide +kernel
theorem dX1_write_21 : decode cX1_write 21 = .ok (.aload_n 0, 1) := by decide +kernel
theorem dX1_write_22 : decode cX1_write 22 = .ok (.iload 5, 2) := by decide +kernel
theorem dX1_write_24 : decode cX1_write 24 = .ok (.putfield 22, 3) := by decide +kernel
theorem dX1_write_27 : decode cX1_write 27 = .ok (.return_, 1) := by decide +kernel
set_option maxRecDepth 20000 in
theorem ggX2_init_X0_init : GoodIn wsX2_init wsX0_init := goodIn_r _ [19, 20, 2, 3, 21, 22, 26, 27, 28, 29] (by decide +kernel) (by decide +kernel)
set_option maxRecDepth 20000 in
theorem gX2_init_X0_init_n9 : GoodIn wsX2_init (wsX0_init) := ggX2_init_X0_init
set_option maxRecDepth 20000 in
theorem ggX2_init_X1_init : GoodIn wsX2_init wsX1_init := goodIn_r _ [24, 25, 2, 3] (by decide +kernel) (by decide +kernel)
set_option maxRecDepth 20000 in
theorem gX2_init_X1_init_n33 : GoodIn wsX2_init (wsX1_init) := ggX2_init_X1_init
theorem dX2_init_0 : decode cX2_init 0 = .ok (.aload_n 0, 1) := by decide +kernel
theorem dX2_init_1 : decode cX2_init 1 = .ok (.invokespecial 1, 3) := by decide +kernel
theorem dX2_init_4 : decode cX2_init 4 = .ok (.aload_n 0, 1) := by decide +kernel
theorem dX2_init_5 : decode cX2_init 5 = .ok (.new 7, 3) := by decide +kernel
theorem dX2_init_8 : decode cX2_init 8 = .ok (.dup, 1) := by decide +kernel
theorem dX2_init_9 : decode cX2_init 9 = .ok (.invokespecial 9, 3) := by decide +kernel
theorem dX2_init_12 : decode cX2_init 12 = .ok (.putfield 10, 3) := by decide +kernel
theorem dX2_init_15 : decode cX2_init 15 = .ok (.aload_n 0, 1) := by decide +kernel
theorem dX2_init_16 : decode cX2_init 16 = .ok (.bipush 8, 2) := by decide +kernel
theorem dX2_init_18 : decode cX2_init 18 = .ok (.anewarray 7, 3) := by decide +kernel
theorem dX2_init_21 : decode cX2_init 21 = .ok (.putfield 16, 3) := by decide +kernel
theorem dX2_init_24 : decode cX2_init 24 = .ok (.aload_n 0, 1) := by decide +kernel
theorem dX2_init_25 : decode cX2_init 25 = .ok (.bipush 8, 2) := by decide +kernel
theorem dX2_init_27 : decode cX2_init 27 = .ok (.anewarray 7, 3) := by decide +kernel
theorem dX2_init_30 : decode cX2_init 30 = .ok (.putfield 20, 3) := by decide +kernel
theorem dX2_init_33 : decode cX2_init 33 = .ok (.iconst 0, 1) := by decide +kernel
theorem dX2_init_34 : decode cX2_init 34 = .ok (.istore_n 1, 1) := by decide +kernel
theorem dX2_init_35 : decode cX2_init 35 = .ok (.iload_n 1, 1) := by decide +kernel
theorem dX2_init_36 : decode cX2_init 36 = .ok (.bipush 8, 2) := by decide +kernel
theorem dX2_init_38 : decode cX2_init 38 = .ok (.if_icmp .ge 32, 3) := by decide +kernel
theorem dX2_init_41 : decode cX2_init 41 = .ok (.aload_n 0, 1) := by decide +kernel
theorem dX2_init_42 : decode cX2_init 42 = .ok (.getfield 16, 3) := by decide +kernel
theorem dX2_init_45 : decode cX2_init 45 = .ok (.iload_n 1, 1) := by decide +kernel
theorem dX2_init_46 : decode cX2_init 46 = .ok (.aload_n 0, 1) := by decide +kernel
theorem dX2_init_47 : decode cX2_init 47 = .ok (.getfield 10, 3) := by decide +kernel
theorem dX2_init_50 : decode cX2_init 50 = .ok (.aastore, 1) := by decide +kernel
theorem dX2_init_51 : decode cX2_init 51 = .ok (.aload_n 0, 1) := by decide +kernel
theorem dX2_init_52 : decode cX2_init 52 = .ok (.getfield 20, 3) := by decide +kernel
theorem dX2_init_55 : decode cX2_init 55 = .ok (.iload_n 1, 1) := by decide +kernel
theorem dX2_init_56 : decode cX2_init 56 = .ok (.new 7, 3) := by decide +kernel
theorem dX2_init_59 : decode cX2_init 59 = .ok (.dup, 1) := by decide +kernel
theorem dX2_init_60 : decode cX2_init 60 = .ok (.invokespecial 9, 3) := by decide +kernel
theorem dX2_init_63 : decode cX2_init 63 = .ok (.aastore, 1) := by decide +kernel
theorem dX2_init_64 : decode cX2_init 64 = .ok (.iinc 1 1, 3) := by decide +kernel
theorem dX2_init_67 : decode cX2_init 67 = .ok (.goto (-32), 3) := by decide +kernel
theorem dX2_init_70 : decode cX2_init 70 = .ok (.aload_n 0, 1) := by decide +kernel
theorem dX2_init_71 : decode cX2_init 71 = .ok (.bipush (-9), 2) := by decide +kernel
theorem dX2_init_73 : decode cX2_init 73 = .ok (.putfield 23, 3) := by decide +kernel
theorem dX2_init_76 : decode cX2_init 76 = .ok (.aload_n 0, 1) := by decide +kernel
theorem dX2_init_77 : decode cX2_init 77 = .ok (.bipush 8, 2) := by decide +kernel
theorem dX2_init_79 : decode cX2_init 79 = .ok (.anewarray 27, 3) := by decide +kernel
theorem dX2_init_82 : decode cX2_init 82 = .ok (.putfield 29, 3) := by decide +kernel
theorem dX2_init_85 : decode cX2_init 85 = .ok (.iconst 0, 1) := by decide +kernel
theorem dX2_init_86 : decode cX2_init 86 = .ok (.istore_n 1, 1) := by decide +kernel
theorem dX2_init_87 : decode cX2_init 87 = .ok (.iload_n 1, 1) := by decide +kernel
theorem dX2_init_88 : decode cX2_init 88 = .ok (.bipush 8, 2) := by decide +kernel
theorem dX2_init_90 : decode cX2_init 90 = .ok (.if_icmp .ge 22, 3) := by decide +kernel
theorem dX2_init_93 : decode cX2_init 93 = .ok (.aload_n 0, 1) := by decide +kernel
theorem dX2_init_94 : decode cX2_init 94 = .ok (.getfield 29, 3) := by decide +kernel
theorem dX2_init_97 : decode cX2_init 97 = .ok (.iload_n 1, 1) := by decide +kernel
theorem dX2_init_98 : decode cX2_init 98 = .ok (.new 27, 3) := by decide +kernel
theorem dX2_init_101 : decode cX2_init 101 = .ok (.dup, 1) := by decide +kernel
theorem dX2_init_102 : decode cX2_init 102 = .ok (.invokespecial 33, 3) := by decide +kernel
theorem dX2_init_105 : decode cX2_init 105 = .ok (.aastore, 1) := by decide +kernel
theorem dX2_init_106 : decode cX2_init 106 = .ok (.iinc 1 1, 3) := by decide +kernel
theorem dX2_init_109 : decode cX2_init 109 = .ok (.goto (-22), 3) := by decide +kernel
theorem dX2_init_112 : decode cX2_init 112 = .ok (.aload_n 0, 1) := by decide +kernel
theorem dX2_init_113 : decode cX2_init 113 = .ok (.bipush 8, 2) := by decide +kernel
theorem dX2_init_115 : decode cX2_init 115 = .ok (.newarray .int, 2) := by decide +kernel
theorem dX2_init_117 : decode cX2_init 117 = .ok (.putfield 34, 3) := by decide +kernel
theorem dX2_init_120 : decode cX2_init 120 = .ok (.aload_n 0, 1) := by decide +kernel
theorem dX2_init_121 : decode cX2_init 121 = .ok (.iconst 5, 1) := by decide +kernel
theorem dX2_init_122 : decode cX2_init 122 = .ok (.newarray .int, 2) := by decide +kernel
theorem dX2_init_124 : decode cX2_init 124 = .ok (.putfield 38, 3) := by decide +kernel
theorem dX2_init_127 : decode cX2_init 127 = .ok (.return_, 1) := by decide +kernel
set_option maxRecDepth 20000 in
theorem ggX2_row_X2_isDrawer : GoodIn wsX2_row wsX2_isDrawer := goodIn_r _ [4] (by decide +kernel) (by decide +kernel)
set_option maxRecDepth 20000 in
theorem gX2_row_X2_isDrawer : GoodIn wsX2_row (va_wsS RX2 41 yX2_isDrawer wsX2_isDrawer) := goodIn_app (goodIn_of _ (by decide +kernel)) ggX2_row_X2_isDrawer
set_option maxRecDepth 20000 in
theorem ggX2_row_X2_newContent : GoodIn wsX2_row wsX2_newContent := goodIn_r _ [8, 9, 10, 11, 12, 13, 14, 3, 15, 25, 26, 27, 28, 29, 30, 31, 32, 33, 34, 35, 36] (by decide +kernel) (by decide +kernel)
set_option maxRecDepth 20000 in
theorem gX2_row_X2_newContent : GoodIn wsX2_row (wsV RX2 45 RX2 yX2_newContent wsX2_newContent) := goodIn_app (goodIn_of _ (by decide +kernel)) ggX2_row_X2_newContent
set_option maxRecDepth 20000 in
theorem ggX2_row_X0_becomeRow : GoodIn wsX2_row wsX0_becomeRow := goodIn_r _ [20, 21, 22, 23, 24, 37, 38, 39, 40] (by decide +kernel) (by decide +kernel)
set_option maxRecDepth 20000 in
theorem gX2_row_X0_becomeRow : GoodIn wsX2_row (wsV RX2 49 RX0 yX0_becomeRow wsX0_becomeRow) := goodIn_app (goodIn_of _ (by decide +kernel)) ggX2_row_X0_becomeRow
theorem dX2_row_0 : decode cX2_row 0 = .ok (.iload_n 1, 1) := by decide +kernel
theorem dX2_row_1 : decode cX2_row 1 = .ok (.invokestatic 41, 3) := by decide +kernel
theorem dX2_row_4 : decode cX2_row 4 = .ok (.ifCond .ne 5, 3) := by decide +kernel
theorem dX2_row_7 : decode cX2_row 7 = .ok (.iconst (-1), 1) := by decide +kernel
theorem dX2_row_8 : decode cX2_row 8 = .ok (.ireturn, 1) := by decide +kernel
theorem dX2_row_9 : decode cX2_row 9 = .ok (.iload_n 2, 1) := by decide +kernel
theorem dX2_row_10 : decode cX2_row 10 = .ok (.ifCond .lt 19, 3) := by decide +kernel
theorem dX2_row_13 : decode cX2_row 13 = .ok (.iload_n 2, 1) := by decide +kernel
theorem dX2_row_14 : decode cX2_row 14 = .ok (.bipush 6, 2) := by decide +kernel
theorem dX2_row_16 : decode cX2_row 16 = .ok (.if_icmp .gt 13, 3) := by decide +kernel
theorem dX2_row_19 : decode cX2_row 19 = .ok (.iload_n 3, 1) := by decide +kernel
theorem dX2_row_20 : decode cX2_row 20 = .ok (.ifCond .lt 9, 3) := by decide +kernel
theorem dX2_row_23 : decode cX2_row 23 = .ok (.iload_n 3, 1) := by decide +kernel
theorem dX2_row_24 : decode cX2_row 24 = .ok (.bipush 12, 2) := by decide +kernel
theorem dX2_row_26 : decode cX2_row 26 = .ok (.if_icmp .le 6, 3) := by decide +kernel
theorem dX2_row_29 : decode cX2_row 29 = .ok (.bipush (-2), 2) := by decide +kernel
theorem dX2_row_31 : decode cX2_row 31 = .ok (.ireturn, 1) := by decide +kernel
theorem dX2_row_32 : decode cX2_row 32 = .ok (.aload_n 0, 1) := by decide +kernel
theorem dX2_row_33 : decode cX2_row 33 = .ok (.iload_n 1, 1) := by decide +kernel
theorem dX2_row_34 : decode cX2_row 34 = .ok (.invokevirtual 45, 3) := by decide +kernel
theorem dX2_row_37 : decode cX2_row 37 = .ok (.iload_n 2, 1) := by decide +kernel
theorem dX2_row_38 : decode cX2_row 38 = .ok (.iload_n 3, 1) := by decide +kernel
theorem dX2_row_39 : decode cX2_row 39 = .ok (.invokevirtual 49, 3) := by decide +kernel
theorem dX2_row_42 : decode cX2_row 42 = .ok (.iload_n 3, 1) := by decide +kernel
theorem dX2_row_43 : decode cX2_row 43 = .ok (.ireturn, 1) := by decide +kernel
set_option maxRecDepth 20000 in
theorem ggX2_note_X2_isDrawer : GoodIn wsX2_note wsX2_isDrawer := goodIn_r _ [4] (by decide +kernel) (by decide +kernel)
set_option maxRecDepth 20000 in
theorem gX2_note_X2_isDrawer : GoodIn wsX2_note (va_wsS RX2 41 yX2_isDrawer wsX2_isDrawer) := goodIn_app (goodIn_of _ (by decide +kernel)) ggX2_note_X2_isDrawer
set_option maxRecDepth 20000 in
theorem ggX2_note_X2_newContent : GoodIn wsX2_note wsX2_newContent := goodIn_r _ [8, 9, 10, 11, 12, 13, 14, 3, 15, 23, 24, 25, 26, 27, 28, 29, 30, 31, 32, 33, 34] (by decide +kernel) (by decide +kernel)
set_option maxRecDepth 20000 in
theorem gX2_note_X2_newContent : GoodIn wsX2_note (wsV RX2 45 RX2 yX2_newContent wsX2_newContent) := goodIn_app (goodIn_of _ (by decide +kernel)) ggX2_note_X2_newContent
set_option maxRecDepth 20000 in
theorem ggX2_note_X0_becomeNote : GoodIn wsX2_note wsX0_becomeNote := goodIn_r _ [20, 21, 22, 35, 36, 37, 38] (by decide +kernel) (by decide +kernel)
set_option maxRecDepth 20000 in
theorem gX2_note_X0_becomeNote : GoodIn wsX2_note (wsV RX2 53 RX0 yX0_becomeNote wsX0_becomeNote) := goodIn_app (goodIn_of _ (by decide +kernel)) ggX2_note_X0_becomeNote
theorem dX2_note_0 : decode cX2_note 0 = .ok (.iload_n 1, 1) := by decide +kernel
theorem dX2_note_1 : decode cX2_note 1 = .ok (.invokestatic 41, 3) := by decide +kernel
theorem dX2_note_4 : decode cX2_note 4 = .ok (.ifCond .ne 5, 3) := by decide +kernel
theorem dX2_note_7 : decode cX2_note 7 = .ok (.iconst (-1), 1) := by decide +kernel
theorem dX2_note_8 : decode cX2_note 8 = .ok (.ireturn, 1) := by decide +kernel
theorem dX2_note_9 : decode cX2_note 9 = .ok (.aload_n 0, 1) := by decide +kernel
theorem dX2_note_10 : decode cX2_note 10 = .ok (.iload_n 1, 1) := by decide +kernel
theorem dX2_note_11 : decode cX2_note 11 = .ok (.invokevirtual 45, 3) := by decide +kernel
theorem dX2_note_14 : decode cX2_note 14 = .ok (.iload_n 2, 1) := by decide +kernel
theorem dX2_note_15 : decode cX2_note 15 = .ok (.invokevirtual 53, 3) := by decide +kernel
theorem dX2_note_18 : decode cX2_note 18 = .ok (.iconst 1, 1) := by decide +kernel
theorem dX2_note_19 : decode cX2_note 19 = .ok (.ireturn, 1) := by decide +kernel
set_option maxRecDepth 20000 in
theorem ggX2_share_X2_isDrawer : GoodIn wsX2_share wsX2_isDrawer := goodIn_r _ [5] (by decide +kernel) (by decide +kernel)
set_option maxRecDepth 20000 in
theorem gX2_share_X2_isDrawer : GoodIn wsX2_share (va_wsS RX2 41 yX2_isDrawer wsX2_isDrawer) := goodIn_app (goodIn_of _ (by decide +kernel)) ggX2_share_X2_isDrawer
theorem dX2_share_0 : decode cX2_share 0 = .ok (.iload_n 1, 1) := by decide +kernel
theorem dX2_share_1 : decode cX2_share 1 = .ok (.invokestatic 41, 3) := by decide +kernel
theorem dX2_share_4 : decode cX2_share 4 = .ok (.ifCond .eq 10, 3) := by decide +kernel
theorem dX2_share_7 : decode cX2_share 7 = .ok (.iload_n 2, 1) := by decide +kernel
theorem dX2_share_8 : decode cX2_share 8 = .ok (.invokestatic 41, 3) := by decide +kernel
theorem dX2_share_11 : decode cX2_share 11 = .ok (.ifCond .ne 5, 3) := by decide +kernel
theorem dX2_share_14 : decode cX2_share 14 = .ok (.iconst (-1), 1) := by decide +kernel
theorem dX2_share_15 : decode cX2_share 15 = .ok (.ireturn, 1) := by decide +kernel
theorem dX2_share_16 : decode cX2_share 16 = .ok (.aload_n 0, 1) := by decide +kernel
theorem dX2_share_17 : decode cX2_share 17 = .ok (.getfield 16, 3) := by decide +kernel
theorem dX2_share_20 : decode cX2_share 20 = .ok (.iload_n 1, 1) := by decide +kernel
theorem dX2_share_21 : decode cX2_share 21 = .ok (.aload_n 0, 1) := by decide +kernel
theorem dX2_share_22 : decode cX2_share 22 = .ok (.getfield 16, 3) := by decide +kernel
theorem dX2_share_25 : decode cX2_share 25 = .ok (.iload_n 2, 1) := by decide +kernel
theorem dX2_share_26 : decode cX2_share 26 = .ok (.aaload, 1) := by decide +kernel
theorem dX2_share_27 : decode cX2_share 27 = .ok (.aastore, 1) := by decide +kernel
theorem dX2_share_28 : decode cX2_share 28 = .ok (.iconst 1, 1) := by decide +kernel
theorem dX2_share_29 : decode cX2_share 29 = .ok (.ireturn, 1) := by decide +kernel
set_option maxRecDepth 20000 in
theorem ggX2_clear_X2_isDrawer : GoodIn wsX2_clear wsX2_isDrawer := goodIn_r _ [6] (by decide +kernel) (by decide +kernel)
set_option maxRecDepth 20000 in
theorem gX2_clear_X2_isDrawer : GoodIn wsX2_clear (va_wsS RX2 41 yX2_isDrawer wsX2_isDrawer) := goodIn_app (goodIn_of _ (by decide +kernel)) ggX2_clear_X2_isDrawer
theorem dX2_clear_0 : decode cX2_clear 0 = .ok (.iload_n 1, 1) := by decide +kernel
theorem dX2_clear_1 : decode cX2_clear 1 = .ok (.invokestatic 41, 3) := by decide +kernel
theorem dX2_clear_4 : decode cX2_clear 4 = .ok (.ifCond .ne 5, 3) := by decide +kernel
theorem dX2_clear_7 : decode cX2_clear 7 = .ok (.iconst (-1), 1) := by decide +kernel
theorem dX2_clear_8 : decode cX2_clear 8 = .ok (.ireturn, 1) := by decide +kernel
theorem dX2_clear_9 : decode cX2_clear 9 = .ok (.aload_n 0, 1) := by decide +kernel
theorem dX2_clear_10 : decode cX2_clear 10 = .ok (.getfield 16, 3) := by decide +kernel
theorem dX2_clear_13 : decode cX2_clear 13 = .ok (.iload_n 1, 1) := by decide +kernel
theorem dX2_clear_14 : decode cX2_clear 14 = .ok (.aaload, 1) := by decide +kernel
theorem dX2_clear_15 : decode cX2_clear 15 = .ok (.aload_n 0, 1) := by decide +kernel
theorem dX2_clear_16 : decode cX2_clear 16 = .ok (.getfield 10, 3) := by decide +kernel
theorem dX2_clear_19 : decode cX2_clear 19 = .ok (.if_acmp .ne 7, 3) := by decide +kernel
theorem dX2_clear_22 : decode cX2_clear 22 = .ok (.iconst 0, 1) := by decide +kernel
theorem dX2_clear_23 : decode cX2_clear 23 = .ok (.goto 4, 3) := by decide +kernel
theorem dX2_clear_26 : decode cX2_clear 26 = .ok (.iconst 1, 1) := by decide +kernel
theorem dX2_clear_27 : decode cX2_clear 27 = .ok (.istore_n 2, 1) := by decide +kernel
theorem dX2_clear_28 : decode cX2_clear 28 = .ok (.aload_n 0, 1) := by decide +kernel
theorem dX2_clear_29 : decode cX2_clear 29 = .ok (.getfield 16, 3) := by decide +kernel
theorem dX2_clear_32 : decode cX2_clear 32 = .ok (.iload_n 1, 1) := by decide +kernel
theorem dX2_clear_33 : decode cX2_clear 33 = .ok (.aload_n 0, 1) := by decide +kernel
theorem dX2_clear_34 : decode cX2_clear 34 = .ok (.getfield 10, 3) := by decide +kernel
theorem dX2_clear_37 : decode cX2_clear 37 = .ok (.aastore, 1) := by decide +kernel
theorem dX2_clear_38 : decode cX2_clear 38 = .ok (.iload_n 2, 1) := by decide +kernel
theorem dX2_clear_39 : decode cX2_clear 39 = .ok (.ireturn, 1) := by decide +kernel
set_option maxRecDepth 20000 in
theorem ggX2_think_X2_valueOfKind : GoodIn wsX2_think wsX2_valueOfKind := goodIn_r _ [4] (by decide +kernel) (by decide +kernel)
set_option maxRecDepth 20000 in
theorem gX2_think_X2_valueOfKind : GoodIn wsX2_think (va_wsS RX2 57 yX2_valueOfKind wsX2_valueOfKind) := goodIn_app (goodIn_of _ (by decide +kernel)) ggX2_think_X2_valueOfKind
set_option maxRecDepth 20000 in
theorem ggX2_think_X2_hold : GoodIn wsX2_think wsX2_hold := goodIn_r _ [8, 9, 10, 11, 12, 13, 14, 15, 16, 17, 18, 19, 20, 21, 22] (by decide +kernel) (by decide +kernel)
set_option maxRecDepth 20000 in
theorem gX2_think_X2_hold : GoodIn wsX2_think (wsV RX2 61 RX2 yX2_hold wsX2_hold) := goodIn_app (goodIn_of _ (by decide +kernel)) ggX2_think_X2_hold
theorem dX2_think_0 : decode cX2_think 0 = .ok (.iload_n 1, 1) := by decide +kernel
theorem dX2_think_1 : decode cX2_think 1 = .ok (.ifCond .lt 8, 3) := by decide +kernel
theorem dX2_think_4 : decode cX2_think 4 = .ok (.iload_n 1, 1) := by decide +kernel
theorem dX2_think_5 : decode cX2_think 5 = .ok (.iconst 5, 1) := by decide +kernel
theorem dX2_think_6 : decode cX2_think 6 = .ok (.if_icmp .le 6, 3) := by decide +kernel
theorem dX2_think_9 : decode cX2_think 9 = .ok (.bipush (-2), 2) := by decide +kernel
theorem dX2_think_11 : decode cX2_think 11 = .ok (.ireturn, 1) := by decide +kernel
theorem dX2_think_12 : decode cX2_think 12 = .ok (.aload_n 0, 1) := by decide +kernel
theorem dX2_think_13 : decode cX2_think 13 = .ok (.iload_n 1, 1) := by decide +kernel
theorem dX2_think_14 : decode cX2_think 14 = .ok (.iload_n 1, 1) := by decide +kernel
theorem dX2_think_15 : decode cX2_think 15 = .ok (.lload_n 2, 1) := by decide +kernel
theorem dX2_think_16 : decode cX2_think 16 = .ok (.invokestatic 57, 3) := by decide +kernel
theorem dX2_think_19 : decode cX2_think 19 = .ok (.invokevirtual 61, 3) := by decide +kernel
theorem dX2_think_22 : decode cX2_think 22 = .ok (.iconst 1, 1) := by decide +kernel
theorem dX2_think_23 : decode cX2_think 23 = .ok (.ireturn, 1) := by decide +kernel
set_option maxRecDepth 20000 in
theorem ggX2_card_X2_hold : GoodIn wsX2_card wsX2_hold := goodIn_r _ [6, 7, 8, 9, 10, 11, 12, 13, 14, 15, 16, 17, 18, 19, 20] (by decide +kernel) (by decide +kernel)
set_option maxRecDepth 20000 in
theorem gX2_card_X2_hold : GoodIn wsX2_card (wsV RX2 61 RX2 yX2_hold wsX2_hold) := goodIn_app (goodIn_of _ (by decide +kernel)) ggX2_card_X2_hold
theorem dX2_card_0 : decode cX2_card 0 = .ok (.aload_n 0, 1) := by decide +kernel
theorem dX2_card_1 : decode cX2_card 1 = .ok (.getfield 65, 3) := by decide +kernel
theorem dX2_card_4 : decode cX2_card 4 = .ok (.bipush 30, 2) := by decide +kernel
theorem dX2_card_6 : decode cX2_card 6 = .ok (.if_icmp .lt 6, 3) := by decide +kernel
theorem dX2_card_9 : decode cX2_card 9 = .ok (.bipush (-3), 2) := by decide +kernel
theorem dX2_card_11 : decode cX2_card 11 = .ok (.ireturn, 1) := by decide +kernel
theorem dX2_card_12 : decode cX2_card 12 = .ok (.aload_n 0, 1) := by decide +kernel
theorem dX2_card_13 : decode cX2_card 13 = .ok (.dup, 1) := by decide +kernel
theorem dX2_card_14 : decode cX2_card 14 = .ok (.getfield 65, 3) := by decide +kernel
theorem dX2_card_17 : decode cX2_card 17 = .ok (.iconst 1, 1) := by decide +kernel
theorem dX2_card_18 : decode cX2_card 18 = .ok (.iadd, 1) := by decide +kernel
theorem dX2_card_19 : decode cX2_card 19 = .ok (.putfield 65, 3) := by decide +kernel
theorem dX2_card_22 : decode cX2_card 22 = .ok (.aload_n 0, 1) := by decide +kernel
theorem dX2_card_23 : decode cX2_card 23 = .ok (.bipush 6, 2) := by decide +kernel
theorem dX2_card_25 : decode cX2_card 25 = .ok (.aload_n 0, 1) := by decide +kernel
theorem dX2_card_26 : decode cX2_card 26 = .ok (.getfield 65, 3) := by decide +kernel
theorem dX2_card_29 : decode cX2_card 29 = .ok (.i2l, 1) := by decide +kernel
theorem dX2_card_30 : decode cX2_card 30 = .ok (.invokevirtual 61, 3) := by decide +kernel
theorem dX2_card_33 : decode cX2_card 33 = .ok (.aload_n 0, 1) := by decide +kernel
theorem dX2_card_34 : decode cX2_card 34 = .ok (.getfield 65, 3) := by decide +kernel
theorem dX2_card_37 : decode cX2_card 37 = .ok (.ireturn, 1) := by decide +kernel
set_option maxRecDepth 20000 in
theorem ggX2_drop_X2_hold : GoodIn wsX2_drop wsX2_hold := goodIn_r _ [6, 1, 7, 8, 9, 10, 11, 12, 13, 14, 15, 16, 17, 18, 19] (by decide +kernel) (by decide +kernel)
set_option maxRecDepth 20000 in
theorem gX2_drop_X2_hold : GoodIn wsX2_drop (wsV RX2 61 RX2 yX2_hold wsX2_hold) := goodIn_app (goodIn_of _ (by decide +kernel)) ggX2_drop_X2_hold
theorem dX2_drop_0 : decode cX2_drop 0 = .ok (.aload_n 0, 1) := by decide +kernel
theorem dX2_drop_1 : decode cX2_drop 1 = .ok (.getfield 23, 3) := by decide +kernel
theorem dX2_drop_4 : decode cX2_drop 4 = .ok (.istore_n 1, 1) := by decide +kernel
theorem dX2_drop_5 : decode cX2_drop 5 = .ok (.aload_n 0, 1) := by decide +kernel
theorem dX2_drop_6 : decode cX2_drop 6 = .ok (.bipush (-9), 2) := by decide +kernel
theorem dX2_drop_8 : decode cX2_drop 8 = .ok (.lconst 0, 1) := by decide +kernel
theorem dX2_drop_9 : decode cX2_drop 9 = .ok (.invokevirtual 61, 3) := by decide +kernel
theorem dX2_drop_12 : decode cX2_drop 12 = .ok (.iload_n 1, 1) := by decide +kernel
theorem dX2_drop_13 : decode cX2_drop 13 = .ok (.ireturn, 1) := by decide +kernel
set_option maxRecDepth 20000 in
theorem ggX2_take_X2_isDrawer : GoodIn wsX2_take wsX2_isDrawer := goodIn_r _ [7] (by decide +kernel) (by decide +kernel)
set_option maxRecDepth 20000 in
theorem gX2_take_X2_isDrawer : GoodIn wsX2_take (va_wsS RX2 41 yX2_isDrawer wsX2_isDrawer) := goodIn_app (goodIn_of _ (by decide +kernel)) ggX2_take_X2_isDrawer
set_option maxRecDepth 20000 in
theorem ggX2_take_X0_faultOfComing : GoodIn wsX2_take wsX0_faultOfComing := goodIn_r _ [12, 13, 14, 15, 16, 11, 17, 18, 47, 48, 49, 50] (by decide +kernel) (by decide +kernel)
set_option maxRecDepth 20000 in
theorem gX2_take_X0_faultOfComing : GoodIn wsX2_take (wsV RX2 68 RX0 yX0_faultOfComing wsX0_faultOfComing) := goodIn_app (goodIn_of _ (by decide +kernel)) ggX2_take_X0_faultOfComing
set_option maxRecDepth 20000 in
theorem ggX2_take_X2_meet : GoodIn wsX2_take wsX2_meet := goodIn_r _ [22, 23, 24, 35, 36, 37, 38, 39, 40, 41, 42, 43, 44, 45, 46] (by decide +kernel) (by decide +kernel)
set_option maxRecDepth 20000 in
theorem gX2_take_X2_meet : GoodIn wsX2_take (wsV RX2 72 RX2 yX2_meet wsX2_meet) := goodIn_app (goodIn_of _ (by decide +kernel)) ggX2_take_X2_meet
set_option maxRecDepth 20000 in
theorem ggX2_take_X0_kindAt : GoodIn wsX2_take wsX0_kindAt := goodIn_r _ [28, 18, 29, 47, 48, 49, 50] (by decide +kernel) (by decide +kernel)
set_option maxRecDepth 20000 in
theorem gX2_take_X0_kindAt : GoodIn wsX2_take (wsV RX2 75 RX0 yX0_kindAt wsX0_kindAt) := goodIn_app (goodIn_of _ (by decide +kernel)) ggX2_take_X0_kindAt
set_option maxRecDepth 20000 in
theorem ggX2_take_X2_hold : GoodIn wsX2_take wsX2_hold := goodIn_r _ [33, 3, 34, 35, 36, 37, 38, 39, 40, 41, 42, 43, 44, 45, 46] (by decide +kernel) (by decide +kernel)
set_option maxRecDepth 20000 in
theorem gX2_take_X2_hold : GoodIn wsX2_take (wsV RX2 61 RX2 yX2_hold wsX2_hold) := goodIn_app (goodIn_of _ (by decide +kernel)) ggX2_take_X2_hold
theorem dX2_take_0 : decode cX2_take 0 = .ok (.iload_n 1, 1) := by decide +kernel
theorem dX2_take_1 : decode cX2_take 1 = .ok (.invokestatic 41, 3) := by decide +kernel
theorem dX2_take_4 : decode cX2_take 4 = .ok (.ifCond .ne 5, 3) := by decide +kernel
theorem dX2_take_7 : decode cX2_take 7 = .ok (.iconst (-1), 1) := by decide +kernel
theorem dX2_take_8 : decode cX2_take 8 = .ok (.ireturn, 1) := by decide +kernel
theorem dX2_take_9 : decode cX2_take 9 = .ok (.aload_n 0, 1) := by decide +kernel
theorem dX2_take_10 : decode cX2_take 10 = .ok (.getfield 16, 3) := by decide +kernel
theorem dX2_take_13 : decode cX2_take 13 = .ok (.iload_n 1, 1) := by decide +kernel
theorem dX2_take_14 : decode cX2_take 14 = .ok (.aaload, 1) := by decide +kernel
theorem dX2_take_15 : decode cX2_take 15 = .ok (.astore_n 3, 1) := by decide +kernel
theorem dX2_take_16 : decode cX2_take 16 = .ok (.aload_n 3, 1) := by decide +kernel
theorem dX2_take_17 : decode cX2_take 17 = .ok (.iload_n 2, 1) := by decide +kernel
theorem dX2_take_18 : decode cX2_take 18 = .ok (.invokevirtual 68, 3) := by decide +kernel
theorem dX2_take_21 : decode cX2_take 21 = .ok (.istore 4, 2) := by decide +kernel
theorem dX2_take_23 : decode cX2_take 23 = .ok (.iload 4, 2) := by decide +kernel
theorem dX2_take_25 : decode cX2_take 25 = .ok (.ifCond .eq 10, 3) := by decide +kernel
theorem dX2_take_28 : decode cX2_take 28 = .ok (.aload_n 0, 1) := by decide +kernel
theorem dX2_take_29 : decode cX2_take 29 = .ok (.iload 4, 2) := by decide +kernel
theorem dX2_take_31 : decode cX2_take 31 = .ok (.invokevirtual 72, 3) := by decide +kernel
theorem dX2_take_34 : decode cX2_take 34 = .ok (.ireturn, 1) := by decide +kernel
theorem dX2_take_35 : decode cX2_take 35 = .ok (.aload_n 0, 1) := by decide +kernel
theorem dX2_take_36 : decode cX2_take 36 = .ok (.aload_n 3, 1) := by decide +kernel
theorem dX2_take_37 : decode cX2_take 37 = .ok (.iload_n 2, 1) := by decide +kernel
theorem dX2_take_38 : decode cX2_take 38 = .ok (.invokevirtual 75, 3) := by decide +kernel
theorem dX2_take_41 : decode cX2_take 41 = .ok (.aload_n 3, 1) := by decide +kernel
theorem dX2_take_42 : decode cX2_take 42 = .ok (.getfield 78, 3) := by decide +kernel
theorem dX2_take_45 : decode cX2_take 45 = .ok (.iload_n 2, 1) := by decide +kernel
theorem dX2_take_46 : decode cX2_take 46 = .ok (.laload, 1) := by decide +kernel
theorem dX2_take_47 : decode cX2_take 47 = .ok (.invokevirtual 61, 3) := by decide +kernel
theorem dX2_take_50 : decode cX2_take 50 = .ok (.aload_n 0, 1) := by decide +kernel
theorem dX2_take_51 : decode cX2_take 51 = .ok (.getfield 23, 3) := by decide +kernel
theorem dX2_take_54 : decode cX2_take 54 = .ok (.ireturn, 1) := by decide +kernel
set_option maxRecDepth 20000 in
theorem ggX2_lay_X2_isDrawer : GoodIn wsX2_lay wsX2_isDrawer := goodIn_r _ [8] (by decide +kernel) (by decide +kernel)
set_option maxRecDepth 20000 in
theorem gX2_lay_X2_isDrawer : GoodIn wsX2_lay (va_wsS RX2 41 yX2_isDrawer wsX2_isDrawer) := goodIn_app (goodIn_of _ (by decide +kernel)) ggX2_lay_X2_isDrawer
set_option maxRecDepth 20000 in
theorem ggX2_lay_X0_faultOfLaying : GoodIn wsX2_lay wsX0_faultOfLaying := goodIn_r _ [13, 14, 15, 16, 17, 12, 18, 19, 20, 21, 22, 23, 24, 7, 25, 44, 45, 46, 47] (by decide +kernel) (by decide +kernel)
set_option maxRecDepth 20000 in
theorem gX2_lay_X0_faultOfLaying : GoodIn wsX2_lay (wsV RX2 82 RX0 yX0_faultOfLaying wsX0_faultOfLaying) := goodIn_app (goodIn_of _ (by decide +kernel)) ggX2_lay_X0_faultOfLaying
set_option maxRecDepth 20000 in
theorem ggX2_lay_X2_meet : GoodIn wsX2_lay wsX2_meet := goodIn_r _ [29, 30, 31, 32, 33, 34, 35, 36, 37, 38, 39, 40, 41, 42, 43] (by decide +kernel) (by decide +kernel)
set_option maxRecDepth 20000 in
theorem gX2_lay_X2_meet : GoodIn wsX2_lay (wsV RX2 72 RX2 yX2_meet wsX2_meet) := goodIn_app (goodIn_of _ (by decide +kernel)) ggX2_lay_X2_meet
theorem dX2_lay_0 : decode cX2_lay 0 = .ok (.iload_n 1, 1) := by decide +kernel
theorem dX2_lay_1 : decode cX2_lay 1 = .ok (.invokestatic 41, 3) := by decide +kernel
theorem dX2_lay_4 : decode cX2_lay 4 = .ok (.ifCond .ne 5, 3) := by decide +kernel
theorem dX2_lay_7 : decode cX2_lay 7 = .ok (.iconst (-1), 1) := by decide +kernel
theorem dX2_lay_8 : decode cX2_lay 8 = .ok (.ireturn, 1) := by decide +kernel
theorem dX2_lay_9 : decode cX2_lay 9 = .ok (.aload_n 0, 1) := by decide +kernel
theorem dX2_lay_10 : decode cX2_lay 10 = .ok (.getfield 23, 3) := by decide +kernel
theorem dX2_lay_13 : decode cX2_lay 13 = .ok (.bipush (-9), 2) := by decide +kernel
theorem dX2_lay_15 : decode cX2_lay 15 = .ok (.if_icmp .ne 6, 3) := by decide +kernel
theorem dX2_lay_18 : decode cX2_lay 18 = .ok (.bipush (-3), 2) := by decide +kernel
theorem dX2_lay_20 : decode cX2_lay 20 = .ok (.ireturn, 1) := by decide +kernel
theorem dX2_lay_21 : decode cX2_lay 21 = .ok (.aload_n 0, 1) := by decide +kernel
theorem dX2_lay_22 : decode cX2_lay 22 = .ok (.getfield 16, 3) := by decide +kernel
theorem dX2_lay_25 : decode cX2_lay 25 = .ok (.iload_n 1, 1) := by decide +kernel
theorem dX2_lay_26 : decode cX2_lay 26 = .ok (.aaload, 1) := by decide +kernel
theorem dX2_lay_27 : decode cX2_lay 27 = .ok (.astore_n 3, 1) := by decide +kernel
theorem dX2_lay_28 : decode cX2_lay 28 = .ok (.aload_n 3, 1) := by decide +kernel
theorem dX2_lay_29 : decode cX2_lay 29 = .ok (.iload_n 2, 1) := by decide +kernel
theorem dX2_lay_30 : decode cX2_lay 30 = .ok (.aload_n 0, 1) := by decide +kernel
theorem dX2_lay_31 : decode cX2_lay 31 = .ok (.getfield 23, 3) := by decide +kernel
theorem dX2_lay_34 : decode cX2_lay 34 = .ok (.invokevirtual 82, 3) := by decide +kernel
theorem dX2_lay_37 : decode cX2_lay 37 = .ok (.istore 4, 2) := by decide +kernel
theorem dX2_lay_39 : decode cX2_lay 39 = .ok (.iload 4, 2) := by decide +kernel
theorem dX2_lay_41 : decode cX2_lay 41 = .ok (.ifCond .eq 10, 3) := by decide +kernel
theorem dX2_lay_44 : decode cX2_lay 44 = .ok (.aload_n 0, 1) := by decide +kernel
theorem dX2_lay_45 : decode cX2_lay 45 = .ok (.iload 4, 2) := by decide +kernel
theorem dX2_lay_47 : decode cX2_lay 47 = .ok (.invokevirtual 72, 3) := by decide +kernel
theorem dX2_lay_50 : decode cX2_lay 50 = .ok (.ireturn, 1) := by decide +kernel
theorem dX2_lay_51 : decode cX2_lay 51 = .ok (.aload_n 3, 1) := by decide +kernel
theorem dX2_lay_52 : decode cX2_lay 52 = .ok (.getfield 78, 3) := by decide +kernel
theorem dX2_lay_55 : decode cX2_lay 55 = .ok (.iload_n 2, 1) := by decide +kernel
theorem dX2_lay_56 : decode cX2_lay 56 = .ok (.aload_n 0, 1) := by decide +kernel
theorem dX2_lay_57 : decode cX2_lay 57 = .ok (.getfield 86, 3) := by decide +kernel
theorem dX2_lay_60 : decode cX2_lay 60 = .ok (.lastore, 1) := by decide +kernel
theorem dX2_lay_61 : decode cX2_lay 61 = .ok (.iconst 1, 1) := by decide +kernel
theorem dX2_lay_62 : decode cX2_lay 62 = .ok (.ireturn, 1) := by decide +kernel
set_option maxRecDepth 20000 in
theorem ggX2_size_X2_isDrawer : GoodIn wsX2_size wsX2_isDrawer := goodIn_r _ [6] (by decide +kernel) (by decide +kernel)
set_option maxRecDepth 20000 in
theorem gX2_size_X2_isDrawer : GoodIn wsX2_size (va_wsS RX2 41 yX2_isDrawer wsX2_isDrawer) := goodIn_app (goodIn_of _ (by decide +kernel)) ggX2_size_X2_isDrawer
set_option maxRecDepth 20000 in
theorem ggX2_size_X0_faultOfRow : GoodIn wsX2_size wsX0_faultOfRow := goodIn_r _ [11, 12, 31, 32, 33, 34] (by decide +kernel) (by decide +kernel)
set_option maxRecDepth 20000 in
theorem gX2_size_X0_faultOfRow : GoodIn wsX2_size (wsV RX2 90 RX0 yX0_faultOfRow wsX0_faultOfRow) := goodIn_app (goodIn_of _ (by decide +kernel)) ggX2_size_X0_faultOfRow
set_option maxRecDepth 20000 in
theorem ggX2_size_X2_meet : GoodIn wsX2_size wsX2_meet := goodIn_r _ [16, 17, 18, 19, 20, 21, 22, 23, 24, 25, 26, 27, 28, 29, 30] (by decide +kernel) (by decide +kernel)
set_option maxRecDepth 20000 in
theorem gX2_size_X2_meet : GoodIn wsX2_size (wsV RX2 72 RX2 yX2_meet wsX2_meet) := goodIn_app (goodIn_of _ (by decide +kernel)) ggX2_size_X2_meet
theorem dX2_size_0 : decode cX2_size 0 = .ok (.iload_n 1, 1) := by decide +kernel
theorem dX2_size_1 : decode cX2_size 1 = .ok (.invokestatic 41, 3) := by decide +kernel
theorem dX2_size_4 : decode cX2_size 4 = .ok (.ifCond .ne 5, 3) := by decide +kernel
theorem dX2_size_7 : decode cX2_size 7 = .ok (.iconst (-1), 1) := by decide +kernel
theorem dX2_size_8 : decode cX2_size 8 = .ok (.ireturn, 1) := by decide +kernel
theorem dX2_size_9 : decode cX2_size 9 = .ok (.aload_n 0, 1) := by decide +kernel
theorem dX2_size_10 : decode cX2_size 10 = .ok (.getfield 16, 3) := by decide +kernel
theorem dX2_size_13 : decode cX2_size 13 = .ok (.iload_n 1, 1) := by decide +kernel
theorem dX2_size_14 : decode cX2_size 14 = .ok (.aaload, 1) := by decide +kernel
theorem dX2_size_15 : decode cX2_size 15 = .ok (.invokevirtual 90, 3) := by decide +kernel
theorem dX2_size_18 : decode cX2_size 18 = .ok (.istore_n 2, 1) := by decide +kernel
theorem dX2_size_19 : decode cX2_size 19 = .ok (.iload_n 2, 1) := by decide +kernel
theorem dX2_size_20 : decode cX2_size 20 = .ok (.ifCond .eq 11, 3) := by decide +kernel
theorem dX2_size_23 : decode cX2_size 23 = .ok (.aload_n 0, 1) := by decide +kernel
theorem dX2_size_24 : decode cX2_size 24 = .ok (.iload_n 2, 1) := by decide +kernel
theorem dX2_size_25 : decode cX2_size 25 = .ok (.invokevirtual 72, 3) := by decide +kernel
theorem dX2_size_28 : decode cX2_size 28 = .ok (.goto 12, 3) := by decide +kernel
theorem dX2_size_31 : decode cX2_size 31 = .ok (.aload_n 0, 1) := by decide +kernel
theorem dX2_size_32 : decode cX2_size 32 = .ok (.getfield 16, 3) := by decide +kernel
theorem dX2_size_35 : decode cX2_size 35 = .ok (.iload_n 1, 1) := by decide +kernel
theorem dX2_size_36 : decode cX2_size 36 = .ok (.aaload, 1) := by decide +kernel
theorem dX2_size_37 : decode cX2_size 37 = .ok (.getfield 94, 3) := by decide +kernel
theorem dX2_size_40 : decode cX2_size 40 = .ok (.ireturn, 1) := by decide +kernel
set_option maxRecDepth 20000 in
theorem ggX2_pour_X2_isDrawer : GoodIn wsX2_pour wsX2_isDrawer := goodIn_r _ [5] (by decide +kernel) (by decide +kernel)
set_option maxRecDepth 20000 in
theorem gX2_pour_X2_isDrawer : GoodIn wsX2_pour (va_wsS RX2 41 yX2_isDrawer wsX2_isDrawer) := goodIn_app (goodIn_of _ (by decide +kernel)) ggX2_pour_X2_isDrawer
set_option maxRecDepth 20000 in
theorem ggX2_pour_X2_isTellableIndex : GoodIn wsX2_pour wsX2_isTellableIndex := goodIn_r _ [8] (by decide +kernel) (by decide +kernel)
set_option maxRecDepth 20000 in
theorem gX2_pour_X2_isTellableIndex : GoodIn wsX2_pour (va_wsS RX2 97 yX2_isTellableIndex wsX2_isTellableIndex) := goodIn_app (goodIn_of _ (by decide +kernel)) ggX2_pour_X2_isTellableIndex
set_option maxRecDepth 20000 in
theorem ggX2_pour_X2_pourOne : GoodIn wsX2_pour wsX2_pourOne := goodIn_r _ [11, 12, 13, 14, 15, 16, 17, 18, 19, 20, 21, 22, 23, 24, 25, 26, 27, 28, 29, 30, 31, 32, 33, 34, 4, 35, 54, 55, 56, 57] (by decide +kernel) (by decide +kernel)
set_option maxRecDepth 20000 in
theorem gX2_pour_X2_pourOne : GoodIn wsX2_pour (va_wsS RX2 100 yX2_pourOne wsX2_pourOne) := goodIn_app (goodIn_of _ (by decide +kernel)) ggX2_pour_X2_pourOne
set_option maxRecDepth 20000 in
theorem ggX2_pour_X2_meet : GoodIn wsX2_pour wsX2_meet := goodIn_r _ [39, 40, 41, 42, 43, 44, 45, 46, 47, 48, 49, 50, 51, 52, 53] (by decide +kernel) (by decide +kernel)
set_option maxRecDepth 20000 in
theorem gX2_pour_X2_meet : GoodIn wsX2_pour (wsV RX2 72 RX2 yX2_meet wsX2_meet) := goodIn_app (goodIn_of _ (by decide +kernel)) ggX2_pour_X2_meet
theorem dX2_pour_0 : decode cX2_pour 0 = .ok (.iload_n 1, 1) := by decide +kernel
theorem dX2_pour_1 : decode cX2_pour 1 = .ok (.invokestatic 41, 3) := by decide +kernel
theorem dX2_pour_4 : decode cX2_pour 4 = .ok (.ifCond .eq 10, 3) := by decide +kernel
theorem dX2_pour_7 : decode cX2_pour 7 = .ok (.iload_n 3, 1) := by decide +kernel
theorem dX2_pour_8 : decode cX2_pour 8 = .ok (.invokestatic 41, 3) := by decide +kernel
theorem dX2_pour_11 : decode cX2_pour 11 = .ok (.ifCond .ne 5, 3) := by decide +kernel
theorem dX2_pour_14 : decode cX2_pour 14 = .ok (.iconst (-1), 1) := by decide +kernel
theorem dX2_pour_15 : decode cX2_pour 15 = .ok (.ireturn, 1) := by decide +kernel
theorem dX2_pour_16 : decode cX2_pour 16 = .ok (.iload_n 2, 1) := by decide +kernel
theorem dX2_pour_17 : decode cX2_pour 17 = .ok (.invokestatic 97, 3) := by decide +kernel
theorem dX2_pour_20 : decode cX2_pour 20 = .ok (.ifCond .eq 23, 3) := by decide +kernel
theorem dX2_pour_23 : decode cX2_pour 23 = .ok (.iload 4, 2) := by decide +kernel
theorem dX2_pour_25 : decode cX2_pour 25 = .ok (.invokestatic 97, 3) := by decide +kernel
theorem dX2_pour_28 : decode cX2_pour 28 = .ok (.ifCond .eq 15, 3) := by decide +kernel
theorem dX2_pour_31 : decode cX2_pour 31 = .ok (.iload 5, 2) := by decide +kernel
theorem dX2_pour_33 : decode cX2_pour 33 = .ok (.ifCond .lt 10, 3) := by decide +kernel
theorem dX2_pour_36 : decode cX2_pour 36 = .ok (.iload 5, 2) := by decide +kernel
theorem dX2_pour_38 : decode cX2_pour 38 = .ok (.bipush 12, 2) := by decide +kernel
theorem dX2_pour_40 : decode cX2_pour 40 = .ok (.if_icmp .le 6, 3) := by decide +kernel
theorem dX2_pour_43 : decode cX2_pour 43 = .ok (.bipush (-2), 2) := by decide +kernel
theorem dX2_pour_45 : decode cX2_pour 45 = .ok (.ireturn, 1) := by decide +kernel
theorem dX2_pour_46 : decode cX2_pour 46 = .ok (.iconst 0, 1) := by decide +kernel
theorem dX2_pour_47 : decode cX2_pour 47 = .ok (.istore 6, 2) := by decide +kernel
theorem dX2_pour_49 : decode cX2_pour 49 = .ok (.iload 6, 2) := by decide +kernel
theorem dX2_pour_51 : decode cX2_pour 51 = .ok (.iload 5, 2) := by decide +kernel
theorem dX2_pour_53 : decode cX2_pour 53 = .ok (.if_icmp .ge 53, 3) := by decide +kernel
theorem dX2_pour_56 : decode cX2_pour 56 = .ok (.aload_n 0, 1) := by decide +kernel
theorem dX2_pour_57 : decode cX2_pour 57 = .ok (.getfield 16, 3) := by decide +kernel
theorem dX2_pour_60 : decode cX2_pour 60 = .ok (.iload_n 1, 1) := by decide +kernel
theorem dX2_pour_61 : decode cX2_pour 61 = .ok (.aaload, 1) := by decide +kernel
theorem dX2_pour_62 : decode cX2_pour 62 = .ok (.iload_n 2, 1) := by decide +kernel
theorem dX2_pour_63 : decode cX2_pour 63 = .ok (.iload 6, 2) := by decide +kernel
theorem dX2_pour_65 : decode cX2_pour 65 = .ok (.iadd, 1) := by decide +kernel
theorem dX2_pour_66 : decode cX2_pour 66 = .ok (.aload_n 0, 1) := by decide +kernel
theorem dX2_pour_67 : decode cX2_pour 67 = .ok (.getfield 16, 3) := by decide +kernel
theorem dX2_pour_70 : decode cX2_pour 70 = .ok (.iload_n 3, 1) := by decide +kernel
theorem dX2_pour_71 : decode cX2_pour 71 = .ok (.aaload, 1) := by decide +kernel
theorem dX2_pour_72 : decode cX2_pour 72 = .ok (.iload 4, 2) := by decide +kernel
theorem dX2_pour_74 : decode cX2_pour 74 = .ok (.iload 6, 2) := by decide +kernel
theorem dX2_pour_76 : decode cX2_pour 76 = .ok (.iadd, 1) := by decide +kernel
theorem dX2_pour_77 : decode cX2_pour 77 = .ok (.invokestatic 100, 3) := by decide +kernel
theorem dX2_pour_80 : decode cX2_pour 80 = .ok (.istore 7, 2) := by decide +kernel
theorem dX2_pour_82 : decode cX2_pour 82 = .ok (.iload 7, 2) := by decide +kernel
theorem dX2_pour_84 : decode cX2_pour 84 = .ok (.ifCond .eq 16, 3) := by decide +kernel
theorem dX2_pour_87 : decode cX2_pour 87 = .ok (.aload_n 0, 1) := by decide +kernel
theorem dX2_pour_88 : decode cX2_pour 88 = .ok (.iload 7, 2) := by decide +kernel
theorem dX2_pour_90 : decode cX2_pour 90 = .ok (.invokevirtual 72, 3) := by decide +kernel
theorem dX2_pour_93 : decode cX2_pour 93 = .ok (.pop, 1) := by decide +kernel
theorem dX2_pour_94 : decode cX2_pour 94 = .ok (.bipush (-100), 2) := by decide +kernel
theorem dX2_pour_96 : decode cX2_pour 96 = .ok (.iload 6, 2) := by decide +kernel
theorem dX2_pour_98 : decode cX2_pour 98 = .ok (.iadd, 1) := by decide +kernel
theorem dX2_pour_99 : decode cX2_pour 99 = .ok (.ireturn, 1) := by decide +kernel
theorem dX2_pour_100 : decode cX2_pour 100 = .ok (.iinc 6 1, 3) := by decide +kernel
theorem dX2_pour_103 : decode cX2_pour 103 = .ok (.goto (-54), 3) := by decide +kernel
theorem dX2_pour_106 : decode cX2_pour 106 = .ok (.iload 5, 2) := by decide +kernel
theorem dX2_pour_108 : decode cX2_pour 108 = .ok (.ireturn, 1) := by decide +kernel
set_option maxRecDepth 20000 in
theorem ggX2_swap_X2_isDrawer : GoodIn wsX2_swap wsX2_isDrawer := goodIn_r _ [6] (by decide +kernel) (by decide +kernel)
set_option maxRecDepth 20000 in
theorem gX2_swap_X2_isDrawer : GoodIn wsX2_swap (va_wsS RX2 41 yX2_isDrawer wsX2_isDrawer) := goodIn_app (goodIn_of _ (by decide +kernel)) ggX2_swap_X2_isDrawer
set_option maxRecDepth 20000 in
theorem ggX2_swap_X2_faultOfSwapping : GoodIn wsX2_swap wsX2_faultOfSwapping := goodIn_r _ [9, 10, 11, 12, 13, 14, 15, 16, 17, 18, 19, 20, 21, 22, 23, 24, 25, 26, 27, 28, 29, 30, 31, 5, 32, 51, 52, 53, 54] (by decide +kernel) (by decide +kernel)
set_option maxRecDepth 20000 in
theorem gX2_swap_X2_faultOfSwapping : GoodIn wsX2_swap (va_wsS RX2 104 yX2_faultOfSwapping wsX2_faultOfSwapping) := goodIn_app (goodIn_of _ (by decide +kernel)) ggX2_swap_X2_faultOfSwapping
set_option maxRecDepth 20000 in
theorem ggX2_swap_X2_meet : GoodIn wsX2_swap wsX2_meet := goodIn_r _ [36, 37, 38, 39, 40, 41, 42, 43, 44, 45, 46, 47, 48, 49, 50] (by decide +kernel) (by decide +kernel)
set_option maxRecDepth 20000 in
theorem gX2_swap_X2_meet : GoodIn wsX2_swap (wsV RX2 72 RX2 yX2_meet wsX2_meet) := goodIn_app (goodIn_of _ (by decide +kernel)) ggX2_swap_X2_meet
theorem dX2_swap_0 : decode cX2_swap 0 = .ok (.iload_n 1, 1) := by decide +kernel
theorem dX2_swap_1 : decode cX2_swap 1 = .ok (.invokestatic 41, 3) := by decide +kernel
theorem dX2_swap_4 : decode cX2_swap 4 = .ok (.ifCond .eq 10, 3) := by decide +kernel
theorem dX2_swap_7 : decode cX2_swap 7 = .ok (.iload_n 3, 1) := by decide +kernel
theorem dX2_swap_8 : decode cX2_swap 8 = .ok (.invokestatic 41, 3) := by decide +kernel
theorem dX2_swap_11 : decode cX2_swap 11 = .ok (.ifCond .ne 5, 3) := by decide +kernel
theorem dX2_swap_14 : decode cX2_swap 14 = .ok (.iconst (-1), 1) := by decide +kernel
theorem dX2_swap_15 : decode cX2_swap 15 = .ok (.ireturn, 1) := by decide +kernel
theorem dX2_swap_16 : decode cX2_swap 16 = .ok (.aload_n 0, 1) := by decide +kernel
theorem dX2_swap_17 : decode cX2_swap 17 = .ok (.getfield 16, 3) := by decide +kernel
theorem dX2_swap_20 : decode cX2_swap 20 = .ok (.iload_n 1, 1) := by decide +kernel
theorem dX2_swap_21 : decode cX2_swap 21 = .ok (.aaload, 1) := by decide +kernel
theorem dX2_swap_22 : decode cX2_swap 22 = .ok (.astore 5, 2) := by decide +kernel
theorem dX2_swap_24 : decode cX2_swap 24 = .ok (.aload_n 0, 1) := by decide +kernel
theorem dX2_swap_25 : decode cX2_swap 25 = .ok (.getfield 16, 3) := by decide +kernel
theorem dX2_swap_28 : decode cX2_swap 28 = .ok (.iload_n 3, 1) := by decide +kernel
theorem dX2_swap_29 : decode cX2_swap 29 = .ok (.aaload, 1) := by decide +kernel
theorem dX2_swap_30 : decode cX2_swap 30 = .ok (.astore 6, 2) := by decide +kernel
theorem dX2_swap_32 : decode cX2_swap 32 = .ok (.aload 5, 2) := by decide +kernel
theorem dX2_swap_34 : decode cX2_swap 34 = .ok (.iload_n 2, 1) := by decide +kernel
theorem dX2_swap_35 : decode cX2_swap 35 = .ok (.aload 6, 2) := by decide +kernel
theorem dX2_swap_37 : decode cX2_swap 37 = .ok (.iload 4, 2) := by decide +kernel
theorem dX2_swap_39 : decode cX2_swap 39 = .ok (.invokestatic 104, 3) := by decide +kernel
theorem dX2_swap_42 : decode cX2_swap 42 = .ok (.istore 7, 2) := by decide +kernel
theorem dX2_swap_44 : decode cX2_swap 44 = .ok (.iload 7, 2) := by decide +kernel
theorem dX2_swap_46 : decode cX2_swap 46 = .ok (.ifCond .eq 10, 3) := by decide +kernel
theorem dX2_swap_49 : decode cX2_swap 49 = .ok (.aload_n 0, 1) := by decide +kernel
theorem dX2_swap_50 : decode cX2_swap 50 = .ok (.iload 7, 2) := by decide +kernel
theorem dX2_swap_52 : decode cX2_swap 52 = .ok (.invokevirtual 72, 3) := by decide +kernel
theorem dX2_swap_55 : decode cX2_swap 55 = .ok (.ireturn, 1) := by decide +kernel
theorem dX2_swap_56 : decode cX2_swap 56 = .ok (.aload 5, 2) := by decide +kernel
theorem dX2_swap_58 : decode cX2_swap 58 = .ok (.getfield 78, 3) := by decide +kernel
theorem dX2_swap_61 : decode cX2_swap 61 = .ok (.iload_n 2, 1) := by decide +kernel
theorem dX2_swap_62 : decode cX2_swap 62 = .ok (.laload, 1) := by decide +kernel
theorem dX2_swap_63 : decode cX2_swap 63 = .ok (.lstore 8, 2) := by decide +kernel
theorem dX2_swap_65 : decode cX2_swap 65 = .ok (.aload 5, 2) := by decide +kernel
theorem dX2_swap_67 : decode cX2_swap 67 = .ok (.getfield 78, 3) := by decide +kernel
theorem dX2_swap_70 : decode cX2_swap 70 = .ok (.iload_n 2, 1) := by decide +kernel
theorem dX2_swap_71 : decode cX2_swap 71 = .ok (.aload 6, 2) := by decide +kernel
theorem dX2_swap_73 : decode cX2_swap 73 = .ok (.getfield 78, 3) := by decide +kernel
theorem dX2_swap_76 : decode cX2_swap 76 = .ok (.iload 4, 2) := by decide +kernel
theorem dX2_swap_78 : decode cX2_swap 78 = .ok (.laload, 1) := by decide +kernel
theorem dX2_swap_79 : decode cX2_swap 79 = .ok (.lastore, 1) := by decide +kernel
theorem dX2_swap_80 : decode cX2_swap 80 = .ok (.aload 6, 2) := by decide +kernel
theorem dX2_swap_82 : decode cX2_swap 82 = .ok (.getfield 78, 3) := by decide +kernel
theorem dX2_swap_85 : decode cX2_swap 85 = .ok (.iload 4, 2) := by decide +kernel
theorem dX2_swap_87 : decode cX2_swap 87 = .ok (.lload 8, 2) := by decide +kernel
theorem dX2_swap_89 : decode cX2_swap 89 = .ok (.lastore, 1) := by decide +kernel
theorem dX2_swap_90 : decode cX2_swap 90 = .ok (.iconst 1, 1) := by decide +kernel
theorem dX2_swap_91 : decode cX2_swap 91 = .ok (.ireturn, 1) := by decide +kernel
set_option maxRecDepth 20000 in
theorem ggX2_turn_X2_isDrawer : GoodIn wsX2_turn wsX2_isDrawer := goodIn_r _ [5] (by decide +kernel) (by decide +kernel)
set_option maxRecDepth 20000 in
theorem gX2_turn_X2_isDrawer : GoodIn wsX2_turn (va_wsS RX2 41 yX2_isDrawer wsX2_isDrawer) := goodIn_app (goodIn_of _ (by decide +kernel)) ggX2_turn_X2_isDrawer
set_option maxRecDepth 20000 in
theorem ggX2_turn_X0_faultOfRow : GoodIn wsX2_turn wsX0_faultOfRow := goodIn_r _ [10, 11, 36, 37, 38, 39] (by decide +kernel) (by decide +kernel)
set_option maxRecDepth 20000 in
theorem gX2_turn_X0_faultOfRow : GoodIn wsX2_turn (wsV RX2 90 RX0 yX0_faultOfRow wsX0_faultOfRow) := goodIn_app (goodIn_of _ (by decide +kernel)) ggX2_turn_X0_faultOfRow
set_option maxRecDepth 20000 in
theorem ggX2_turn_X2_meet : GoodIn wsX2_turn wsX2_meet := goodIn_r _ [15, 16, 17, 24, 25, 26, 27, 28, 29, 30, 31, 32, 33, 34, 35] (by decide +kernel) (by decide +kernel)
set_option maxRecDepth 20000 in
theorem gX2_turn_X2_meet : GoodIn wsX2_turn (wsV RX2 72 RX2 yX2_meet wsX2_meet) := goodIn_app (goodIn_of _ (by decide +kernel)) ggX2_turn_X2_meet
set_option maxRecDepth 20000 in
theorem ggX2_turn_X0_reverse : GoodIn wsX2_turn wsX0_reverse := goodIn_r _ [21, 22, 23, 36, 37, 38, 39] (by decide +kernel) (by decide +kernel)
set_option maxRecDepth 20000 in
theorem gX2_turn_X0_reverse : GoodIn wsX2_turn (wsV RX2 107 RX0 yX0_reverse wsX0_reverse) := goodIn_app (goodIn_of _ (by decide +kernel)) ggX2_turn_X0_reverse
theorem dX2_turn_0 : decode cX2_turn 0 = .ok (.iload_n 1, 1) := by decide +kernel
theorem dX2_turn_1 : decode cX2_turn 1 = .ok (.invokestatic 41, 3) := by decide +kernel
theorem dX2_turn_4 : decode cX2_turn 4 = .ok (.ifCond .ne 5, 3) := by decide +kernel
theorem dX2_turn_7 : decode cX2_turn 7 = .ok (.iconst (-1), 1) := by decide +kernel
theorem dX2_turn_8 : decode cX2_turn 8 = .ok (.ireturn, 1) := by decide +kernel
theorem dX2_turn_9 : decode cX2_turn 9 = .ok (.aload_n 0, 1) := by decide +kernel
theorem dX2_turn_10 : decode cX2_turn 10 = .ok (.getfield 16, 3) := by decide +kernel
theorem dX2_turn_13 : decode cX2_turn 13 = .ok (.iload_n 1, 1) := by decide +kernel
theorem dX2_turn_14 : decode cX2_turn 14 = .ok (.aaload, 1) := by decide +kernel
theorem dX2_turn_15 : decode cX2_turn 15 = .ok (.invokevirtual 90, 3) := by decide +kernel
theorem dX2_turn_18 : decode cX2_turn 18 = .ok (.istore_n 2, 1) := by decide +kernel
theorem dX2_turn_19 : decode cX2_turn 19 = .ok (.iload_n 2, 1) := by decide +kernel
theorem dX2_turn_20 : decode cX2_turn 20 = .ok (.ifCond .eq 11, 3) := by decide +kernel
theorem dX2_turn_23 : decode cX2_turn 23 = .ok (.aload_n 0, 1) := by decide +kernel
theorem dX2_turn_24 : decode cX2_turn 24 = .ok (.iload_n 2, 1) := by decide +kernel
theorem dX2_turn_25 : decode cX2_turn 25 = .ok (.invokevirtual 72, 3) := by decide +kernel
theorem dX2_turn_28 : decode cX2_turn 28 = .ok (.goto 12, 3) := by decide +kernel
theorem dX2_turn_31 : decode cX2_turn 31 = .ok (.aload_n 0, 1) := by decide +kernel
theorem dX2_turn_32 : decode cX2_turn 32 = .ok (.getfield 16, 3) := by decide +kernel
theorem dX2_turn_35 : decode cX2_turn 35 = .ok (.iload_n 1, 1) := by decide +kernel
theorem dX2_turn_36 : decode cX2_turn 36 = .ok (.aaload, 1) := by decide +kernel
theorem dX2_turn_37 : decode cX2_turn 37 = .ok (.invokevirtual 107, 3) := by decide +kernel
theorem dX2_turn_40 : decode cX2_turn 40 = .ok (.ireturn, 1) := by decide +kernel
set_option maxRecDepth 20000 in
theorem ggX2_sum_X2_isDrawer : GoodIn wsX2_sum wsX2_isDrawer := goodIn_r _ [5] (by decide +kernel) (by decide +kernel)
set_option maxRecDepth 20000 in
theorem gX2_sum_X2_isDrawer : GoodIn wsX2_sum (va_wsS RX2 41 yX2_isDrawer wsX2_isDrawer) := goodIn_app (goodIn_of _ (by decide +kernel)) ggX2_sum_X2_isDrawer
set_option maxRecDepth 20000 in
theorem ggX2_sum_X0_faultOfRow : GoodIn wsX2_sum wsX0_faultOfRow := goodIn_r _ [10, 11, 36, 37, 38, 39] (by decide +kernel) (by decide +kernel)
set_option maxRecDepth 20000 in
theorem gX2_sum_X0_faultOfRow : GoodIn wsX2_sum (wsV RX2 90 RX0 yX0_faultOfRow wsX0_faultOfRow) := goodIn_app (goodIn_of _ (by decide +kernel)) ggX2_sum_X0_faultOfRow
set_option maxRecDepth 20000 in
theorem ggX2_sum_X2_meet : GoodIn wsX2_sum wsX2_meet := goodIn_r _ [15, 16, 17, 24, 25, 26, 27, 28, 29, 30, 31, 32, 33, 34, 35] (by decide +kernel) (by decide +kernel)
set_option maxRecDepth 20000 in
theorem gX2_sum_X2_meet : GoodIn wsX2_sum (wsV RX2 72 RX2 yX2_meet wsX2_meet) := goodIn_app (goodIn_of _ (by decide +kernel)) ggX2_sum_X2_meet
set_option maxRecDepth 20000 in
theorem ggX2_sum_X0_total : GoodIn wsX2_sum wsX0_total := goodIn_r _ [21, 22, 23, 36, 37, 38, 39] (by decide +kernel) (by decide +kernel)
set_option maxRecDepth 20000 in
theorem gX2_sum_X0_total : GoodIn wsX2_sum (wsV RX2 110 RX0 yX0_total wsX0_total) := goodIn_app (goodIn_of _ (by decide +kernel)) ggX2_sum_X0_total
theorem dX2_sum_0 : decode cX2_sum 0 = .ok (.iload_n 1, 1) := by decide +kernel
theorem dX2_sum_1 : decode cX2_sum 1 = .ok (.invokestatic 41, 3) := by decide +kernel
theorem dX2_sum_4 : decode cX2_sum 4 = .ok (.ifCond .ne 5, 3) := by decide +kernel
theorem dX2_sum_7 : decode cX2_sum 7 = .ok (.lconst 0, 1) := by decide +kernel
theorem dX2_sum_8 : decode cX2_sum 8 = .ok (.lreturn, 1) := by decide +kernel
theorem dX2_sum_9 : decode cX2_sum 9 = .ok (.aload_n 0, 1) := by decide +kernel
theorem dX2_sum_10 : decode cX2_sum 10 = .ok (.getfield 16, 3) := by decide +kernel
theorem dX2_sum_13 : decode cX2_sum 13 = .ok (.iload_n 1, 1) := by decide +kernel
theorem dX2_sum_14 : decode cX2_sum 14 = .ok (.aaload, 1) := by decide +kernel
theorem dX2_sum_15 : decode cX2_sum 15 = .ok (.invokevirtual 90, 3) := by decide +kernel
theorem dX2_sum_18 : decode cX2_sum 18 = .ok (.istore_n 2, 1) := by decide +kernel
theorem dX2_sum_19 : decode cX2_sum 19 = .ok (.iload_n 2, 1) := by decide +kernel
theorem dX2_sum_20 : decode cX2_sum 20 = .ok (.ifCond .eq 11, 3) := by decide +kernel
theorem dX2_sum_23 : decode cX2_sum 23 = .ok (.aload_n 0, 1) := by decide +kernel
theorem dX2_sum_24 : decode cX2_sum 24 = .ok (.iload_n 2, 1) := by decide +kernel
theorem dX2_sum_25 : decode cX2_sum 25 = .ok (.invokevirtual 72, 3) := by decide +kernel
theorem dX2_sum_28 : decode cX2_sum 28 = .ok (.pop, 1) := by decide +kernel
theorem dX2_sum_29 : decode cX2_sum 29 = .ok (.lconst 0, 1) := by decide +kernel
theorem dX2_sum_30 : decode cX2_sum 30 = .ok (.lreturn, 1) := by decide +kernel
theorem dX2_sum_31 : decode cX2_sum 31 = .ok (.aload_n 0, 1) := by decide +kernel
theorem dX2_sum_32 : decode cX2_sum 32 = .ok (.getfield 16, 3) := by decide +kernel
theorem dX2_sum_35 : decode cX2_sum 35 = .ok (.iload_n 1, 1) := by decide +kernel
theorem dX2_sum_36 : decode cX2_sum 36 = .ok (.aaload, 1) := by decide +kernel
theorem dX2_sum_37 : decode cX2_sum 37 = .ok (.invokevirtual 110, 3) := by decide +kernel
theorem dX2_sum_40 : decode cX2_sum 40 = .ok (.lreturn, 1) := by decide +kernel
set_option maxRecDepth 20000 in
theorem ggX2_find_X2_isDrawer : GoodIn wsX2_find wsX2_isDrawer := goodIn_r _ [7] (by decide +kernel) (by decide +kernel)
set_option maxRecDepth 20000 in
theorem gX2_find_X2_isDrawer : GoodIn wsX2_find (va_wsS RX2 41 yX2_isDrawer wsX2_isDrawer) := goodIn_app (goodIn_of _ (by decide +kernel)) ggX2_find_X2_isDrawer
set_option maxRecDepth 20000 in
theorem ggX2_find_X0_faultOfRow : GoodIn wsX2_find wsX0_faultOfRow := goodIn_r _ [12, 13, 42, 43, 44, 45] (by decide +kernel) (by decide +kernel)
set_option maxRecDepth 20000 in
theorem gX2_find_X0_faultOfRow : GoodIn wsX2_find (wsV RX2 90 RX0 yX0_faultOfRow wsX0_faultOfRow) := goodIn_app (goodIn_of _ (by decide +kernel)) ggX2_find_X0_faultOfRow
set_option maxRecDepth 20000 in
theorem ggX2_find_X2_meet : GoodIn wsX2_find wsX2_meet := goodIn_r _ [17, 18, 19, 30, 31, 32, 33, 34, 35, 36, 37, 38, 39, 40, 41] (by decide +kernel) (by decide +kernel)
set_option maxRecDepth 20000 in
theorem gX2_find_X2_meet : GoodIn wsX2_find (wsV RX2 72 RX2 yX2_meet wsX2_meet) := goodIn_app (goodIn_of _ (by decide +kernel)) ggX2_find_X2_meet
set_option maxRecDepth 20000 in
theorem ggX2_find_X0_firstPlaceOf : GoodIn wsX2_find wsX0_firstPlaceOf := goodIn_r _ [23, 24, 25, 26, 27, 28, 11, 29, 13, 42, 43, 44, 45] (by decide +kernel) (by decide +kernel)
set_option maxRecDepth 20000 in
theorem gX2_find_X0_firstPlaceOf : GoodIn wsX2_find (wsV RX2 114 RX0 yX0_firstPlaceOf wsX0_firstPlaceOf) := goodIn_app (goodIn_of _ (by decide +kernel)) ggX2_find_X0_firstPlaceOf
theorem dX2_find_0 : decode cX2_find 0 = .ok (.iload_n 1, 1) := by decide +kernel
theorem dX2_find_1 : decode cX2_find 1 = .ok (.invokestatic 41, 3) := by decide +kernel
theorem dX2_find_4 : decode cX2_find 4 = .ok (.ifCond .ne 5, 3) := by decide +kernel
theorem dX2_find_7 : decode cX2_find 7 = .ok (.iconst (-1), 1) := by decide +kernel
theorem dX2_find_8 : decode cX2_find 8 = .ok (.ireturn, 1) := by decide +kernel
theorem dX2_find_9 : decode cX2_find 9 = .ok (.aload_n 0, 1) := by decide +kernel
theorem dX2_find_10 : decode cX2_find 10 = .ok (.getfield 16, 3) := by decide +kernel
theorem dX2_find_13 : decode cX2_find 13 = .ok (.iload_n 1, 1) := by decide +kernel
theorem dX2_find_14 : decode cX2_find 14 = .ok (.aaload, 1) := by decide +kernel
theorem dX2_find_15 : decode cX2_find 15 = .ok (.invokevirtual 90, 3) := by decide +kernel
theorem dX2_find_18 : decode cX2_find 18 = .ok (.istore_n 2, 1) := by decide +kernel
theorem dX2_find_19 : decode cX2_find 19 = .ok (.iload_n 2, 1) := by decide +kernel
theorem dX2_find_20 : decode cX2_find 20 = .ok (.ifCond .eq 11, 3) := by decide +kernel
theorem dX2_find_23 : decode cX2_find 23 = .ok (.aload_n 0, 1) := by decide +kernel
theorem dX2_find_24 : decode cX2_find 24 = .ok (.iload_n 2, 1) := by decide +kernel
theorem dX2_find_25 : decode cX2_find 25 = .ok (.invokevirtual 72, 3) := by decide +kernel
theorem dX2_find_28 : decode cX2_find 28 = .ok (.goto 20, 3) := by decide +kernel
theorem dX2_find_31 : decode cX2_find 31 = .ok (.aload_n 0, 1) := by decide +kernel
theorem dX2_find_32 : decode cX2_find 32 = .ok (.getfield 16, 3) := by decide +kernel
theorem dX2_find_35 : decode cX2_find 35 = .ok (.iload_n 1, 1) := by decide +kernel
theorem dX2_find_36 : decode cX2_find 36 = .ok (.aaload, 1) := by decide +kernel
theorem dX2_find_37 : decode cX2_find 37 = .ok (.aload_n 0, 1) := by decide +kernel
theorem dX2_find_38 : decode cX2_find 38 = .ok (.getfield 23, 3) := by decide +kernel
theorem dX2_find_41 : decode cX2_find 41 = .ok (.aload_n 0, 1) := by decide +kernel
theorem dX2_find_42 : decode cX2_find 42 = .ok (.getfield 86, 3) := by decide +kernel
theorem dX2_find_45 : decode cX2_find 45 = .ok (.invokevirtual 114, 3) := by decide +kernel
theorem dX2_find_48 : decode cX2_find 48 = .ok (.ireturn, 1) := by decide +kernel
set_option maxRecDepth 20000 in
theorem ggX2_order_X2_isDrawer : GoodIn wsX2_order wsX2_isDrawer := goodIn_r _ [6] (by decide +kernel) (by decide +kernel)
set_option maxRecDepth 20000 in
theorem gX2_order_X2_isDrawer : GoodIn wsX2_order (va_wsS RX2 41 yX2_isDrawer wsX2_isDrawer) := goodIn_app (goodIn_of _ (by decide +kernel)) ggX2_order_X2_isDrawer
set_option maxRecDepth 20000 in
theorem ggX2_order_X2_isTellableIndex : GoodIn wsX2_order wsX2_isTellableIndex := goodIn_r _ [9] (by decide +kernel) (by decide +kernel)
set_option maxRecDepth 20000 in
theorem gX2_order_X2_isTellableIndex : GoodIn wsX2_order (va_wsS RX2 97 yX2_isTellableIndex wsX2_isTellableIndex) := goodIn_app (goodIn_of _ (by decide +kernel)) ggX2_order_X2_isTellableIndex
set_option maxRecDepth 20000 in
theorem ggX2_order_X1_write : GoodIn wsX2_order wsX1_write := goodIn_r _ [14, 15, 16, 17, 18, 19, 32, 33, 34, 35, 36] (by decide +kernel) (by decide +kernel)
set_option maxRecDepth 20000 in
theorem gX2_order_X1_write : GoodIn wsX2_order (wsV RX2 121 RX1 yX1_write wsX1_write) := goodIn_app (goodIn_of _ (by decide +kernel)) ggX2_order_X1_write
theorem dX2_order_0 : decode cX2_order 0 = .ok (.iload_n 2, 1) := by decide +kernel
theorem dX2_order_1 : decode cX2_order 1 = .ok (.invokestatic 41, 3) := by decide +kernel
theorem dX2_order_4 : decode cX2_order 4 = .ok (.ifCond .eq 11, 3) := by decide +kernel
theorem dX2_order_7 : decode cX2_order 7 = .ok (.iload 4, 2) := by decide +kernel
theorem dX2_order_9 : decode cX2_order 9 = .ok (.invokestatic 41, 3) := by decide +kernel
theorem dX2_order_12 : decode cX2_order 12 = .ok (.ifCond .ne 5, 3) := by decide +kernel
theorem dX2_order_15 : decode cX2_order 15 = .ok (.iconst (-1), 1) := by decide +kernel
theorem dX2_order_16 : decode cX2_order 16 = .ok (.ireturn, 1) := by decide +kernel
theorem dX2_order_17 : decode cX2_order 17 = .ok (.iload_n 1, 1) := by decide +kernel
theorem dX2_order_18 : decode cX2_order 18 = .ok (.ifCond .lt 23, 3) := by decide +kernel
theorem dX2_order_21 : decode cX2_order 21 = .ok (.iload_n 1, 1) := by decide +kernel
theorem dX2_order_22 : decode cX2_order 22 = .ok (.iconst 4, 1) := by decide +kernel
theorem dX2_order_23 : decode cX2_order 23 = .ok (.if_icmp .gt 18, 3) := by decide +kernel
theorem dX2_order_26 : decode cX2_order 26 = .ok (.iload_n 3, 1) := by decide +kernel
theorem dX2_order_27 : decode cX2_order 27 = .ok (.invokestatic 97, 3) := by decide +kernel
theorem dX2_order_30 : decode cX2_order 30 = .ok (.ifCond .eq 11, 3) := by decide +kernel
theorem dX2_order_33 : decode cX2_order 33 = .ok (.iload 5, 2) := by decide +kernel
theorem dX2_order_35 : decode cX2_order 35 = .ok (.invokestatic 97, 3) := by decide +kernel
theorem dX2_order_38 : decode cX2_order 38 = .ok (.ifCond .ne 6, 3) := by decide +kernel
theorem dX2_order_41 : decode cX2_order 41 = .ok (.bipush (-2), 2) := by decide +kernel
theorem dX2_order_43 : decode cX2_order 43 = .ok (.ireturn, 1) := by decide +kernel
theorem dX2_order_44 : decode cX2_order 44 = .ok (.aload_n 0, 1) := by decide +kernel
theorem dX2_order_45 : decode cX2_order 45 = .ok (.getfield 118, 3) := by decide +kernel
theorem dX2_order_48 : decode cX2_order 48 = .ok (.bipush 8, 2) := by decide +kernel
theorem dX2_order_50 : decode cX2_order 50 = .ok (.if_icmp .lt 6, 3) := by decide +kernel
theorem dX2_order_53 : decode cX2_order 53 = .ok (.bipush (-3), 2) := by decide +kernel
theorem dX2_order_55 : decode cX2_order 55 = .ok (.ireturn, 1) := by decide +kernel
theorem dX2_order_56 : decode cX2_order 56 = .ok (.aload_n 0, 1) := by decide +kernel
theorem dX2_order_57 : decode cX2_order 57 = .ok (.getfield 29, 3) := by decide +kernel
theorem dX2_order_60 : decode cX2_order 60 = .ok (.aload_n 0, 1) := by decide +kernel
theorem dX2_order_61 : decode cX2_order 61 = .ok (.getfield 118, 3) := by decide +kernel
theorem dX2_order_64 : decode cX2_order 64 = .ok (.aaload, 1) := by decide +kernel
theorem dX2_order_65 : decode cX2_order 65 = .ok (.iload_n 1, 1) := by decide +kernel
theorem dX2_order_66 : decode cX2_order 66 = .ok (.iload_n 2, 1) := by decide +kernel
theorem dX2_order_67 : decode cX2_order 67 = .ok (.iload_n 3, 1) := by decide +kernel
theorem dX2_order_68 : decode cX2_order 68 = .ok (.iload 4, 2) := by decide +kernel
theorem dX2_order_70 : decode cX2_order 70 = .ok (.iload 5, 2) := by decide +kernel
theorem dX2_order_72 : decode cX2_order 72 = .ok (.invokevirtual 121, 3) := by decide +kernel
theorem dX2_order_75 : decode cX2_order 75 = .ok (.aload_n 0, 1) := by decide +kernel
theorem dX2_order_76 : decode cX2_order 76 = .ok (.dup, 1) := by decide +kernel
theorem dX2_order_77 : decode cX2_order 77 = .ok (.getfield 118, 3) := by decide +kernel
theorem dX2_order_80 : decode cX2_order 80 = .ok (.iconst 1, 1) := by decide +kernel
theorem dX2_order_81 : decode cX2_order 81 = .ok (.iadd, 1) := by decide +kernel
theorem dX2_order_82 : decode cX2_order 82 = .ok (.putfield 118, 3) := by decide +kernel
theorem dX2_order_85 : decode cX2_order 85 = .ok (.aload_n 0, 1) := by decide +kernel
theorem dX2_order_86 : decode cX2_order 86 = .ok (.getfield 118, 3) := by decide +kernel
theorem dX2_order_89 : decode cX2_order 89 = .ok (.ireturn, 1) := by decide +kernel
set_option maxRecDepth 20000 in
theorem ggX2_run_X2_perform : GoodIn wsX2_run wsX2_perform := goodIn_r _ [11, 12, 13, 14, 15, 16, 17, 18, 19, 10, 20, 21, 22, 23, 24, 25, 26, 27, 28, 29, 30, 31, 32, 33, 34, 35, 36, 37, 38, 39, 40, 41, 5, 2, 42, 43, 44, 45, 46, 47, 48, 49, 50, 51, 52, 53, 54, 55, 56, 57, 58, 59, 60, 61, 62, 63, 64, 65, 66, 67, 68, 69, 70, 71, 72, 73, 74, 75, 76, 77, 78, 79, 80, 81, 82, 83, 84, 85, 86, 87, 88, 101, 102, 103, 104, 105, 89, 90, 91, 92, 93, 94, 95, 96, 97, 98, 99, 100, 106, 107, 108, 109] (by decide +kernel) (by decide +kernel)
set_option maxRecDepth 20000 in
theorem gX2_run_X2_perform : GoodIn wsX2_run (wsV RX2 125 RX2 yX2_perform wsX2_perform) := goodIn_app (goodIn_of _ (by decide +kernel)) ggX2_run_X2_perform
theorem dX2_run_0 : decode cX2_run 0 = .ok (.iconst 0, 1) := by decide +kernel
theorem dX2_run_1 : decode cX2_run 1 = .ok (.istore_n 1, 1) := by decide +kernel
theorem dX2_run_2 : decode cX2_run 2 = .ok (.iconst 0, 1) := by decide +kernel
theorem dX2_run_3 : decode cX2_run 3 = .ok (.istore_n 2, 1) := by decide +kernel
theorem dX2_run_4 : decode cX2_run 4 = .ok (.iload_n 2, 1) := by decide +kernel
theorem dX2_run_5 : decode cX2_run 5 = .ok (.aload_n 0, 1) := by decide +kernel
theorem dX2_run_6 : decode cX2_run 6 = .ok (.getfield 118, 3) := by decide +kernel
theorem dX2_run_9 : decode cX2_run 9 = .ok (.if_icmp .ge 62, 3) := by decide +kernel
theorem dX2_run_12 : decode cX2_run 12 = .ok (.aload_n 0, 1) := by decide +kernel
theorem dX2_run_13 : decode cX2_run 13 = .ok (.getfield 38, 3) := by decide +kernel
theorem dX2_run_16 : decode cX2_run 16 = .ok (.iconst 0, 1) := by decide +kernel
theorem dX2_run_17 : decode cX2_run 17 = .ok (.iaload, 1) := by decide +kernel
theorem dX2_run_18 : decode cX2_run 18 = .ok (.istore_n 3, 1) := by decide +kernel
theorem dX2_run_19 : decode cX2_run 19 = .ok (.aload_n 0, 1) := by decide +kernel
theorem dX2_run_20 : decode cX2_run 20 = .ok (.aload_n 0, 1) := by decide +kernel
theorem dX2_run_21 : decode cX2_run 21 = .ok (.getfield 29, 3) := by decide +kernel
theorem dX2_run_24 : decode cX2_run 24 = .ok (.iload_n 2, 1) := by decide +kernel
theorem dX2_run_25 : decode cX2_run 25 = .ok (.aaload, 1) := by decide +kernel
theorem dX2_run_26 : decode cX2_run 26 = .ok (.invokevirtual 125, 3) := by decide +kernel
theorem dX2_run_29 : decode cX2_run 29 = .ok (.aload_n 0, 1) := by decide +kernel
theorem dX2_run_30 : decode cX2_run 30 = .ok (.getfield 34, 3) := by decide +kernel
theorem dX2_run_33 : decode cX2_run 33 = .ok (.iload_n 2, 1) := by decide +kernel
theorem dX2_run_34 : decode cX2_run 34 = .ok (.aload_n 0, 1) := by decide +kernel
theorem dX2_run_35 : decode cX2_run 35 = .ok (.getfield 38, 3) := by decide +kernel
theorem dX2_run_38 : decode cX2_run 38 = .ok (.iconst 0, 1) := by decide +kernel
theorem dX2_run_39 : decode cX2_run 39 = .ok (.iaload, 1) := by decide +kernel
theorem dX2_run_40 : decode cX2_run 40 = .ok (.iload_n 3, 1) := by decide +kernel
theorem dX2_run_41 : decode cX2_run 41 = .ok (.if_icmp .ne 7, 3) := by decide +kernel
theorem dX2_run_44 : decode cX2_run 44 = .ok (.iconst 0, 1) := by decide +kernel
theorem dX2_run_45 : decode cX2_run 45 = .ok (.goto 7, 3) := by decide +kernel
theorem dX2_run_48 : decode cX2_run 48 = .ok (.aload_n 0, 1) := by decide +kernel
theorem dX2_run_49 : decode cX2_run 49 = .ok (.getfield 129, 3) := by decide +kernel
theorem dX2_run_52 : decode cX2_run 52 = .ok (.iastore, 1) := by decide +kernel
theorem dX2_run_53 : decode cX2_run 53 = .ok (.aload_n 0, 1) := by decide +kernel
theorem dX2_run_54 : decode cX2_run 54 = .ok (.getfield 34, 3) := by decide +kernel
theorem dX2_run_57 : decode cX2_run 57 = .ok (.iload_n 2, 1) := by decide +kernel
theorem dX2_run_58 : decode cX2_run 58 = .ok (.iaload, 1) := by decide +kernel
theorem dX2_run_59 : decode cX2_run 59 = .ok (.ifCond .ne 6, 3) := by decide +kernel
theorem dX2_run_62 : decode cX2_run 62 = .ok (.iinc 1 1, 3) := by decide +kernel
theorem dX2_run_65 : decode cX2_run 65 = .ok (.iinc 2 1, 3) := by decide +kernel
theorem dX2_run_68 : decode cX2_run 68 = .ok (.goto (-64), 3) := by decide +kernel
theorem dX2_run_71 : decode cX2_run 71 = .ok (.aload_n 0, 1) := by decide +kernel
theorem dX2_run_72 : decode cX2_run 72 = .ok (.aload_n 0, 1) := by decide +kernel
theorem dX2_run_73 : decode cX2_run 73 = .ok (.getfield 118, 3) := by decide +kernel
theorem dX2_run_76 : decode cX2_run 76 = .ok (.putfield 132, 3) := by decide +kernel
theorem dX2_run_79 : decode cX2_run 79 = .ok (.aload_n 0, 1) := by decide +kernel
theorem dX2_run_80 : decode cX2_run 80 = .ok (.iconst 0, 1) := by decide +kernel
theorem dX2_run_81 : decode cX2_run 81 = .ok (.putfield 118, 3) := by decide +kernel
theorem dX2_run_84 : decode cX2_run 84 = .ok (.iload_n 1, 1) := by decide +kernel
theorem dX2_run_85 : decode cX2_run 85 = .ok (.ireturn, 1) := by decide +kernel
theorem dX2_met_0 : decode cX2_met 0 = .ok (.iload_n 1, 1) := by decide +kernel
theorem dX2_met_1 : decode cX2_met 1 = .ok (.ifCond .lt 11, 3) := by decide +kernel
theorem dX2_met_4 : decode cX2_met 4 = .ok (.iload_n 1, 1) := by decide +kernel
theorem dX2_met_5 : decode cX2_met 5 = .ok (.aload_n 0, 1) := by decide +kernel
theorem dX2_met_6 : decode cX2_met 6 = .ok (.getfield 132, 3) := by decide +kernel
theorem dX2_met_9 : decode cX2_met 9 = .ok (.if_icmp .lt 8, 3) := by decide +kernel
theorem dX2_met_12 : decode cX2_met 12 = .ok (.bipush (-9), 2) := by decide +kernel
theorem dX2_met_14 : decode cX2_met 14 = .ok (.goto 9, 3) := by decide +kernel
theorem dX2_met_17 : decode cX2_met 17 = .ok (.aload_n 0, 1) := by decide +kernel
theorem dX2_met_18 : decode cX2_met 18 = .ok (.getfield 34, 3) := by decide +kernel
theorem dX2_met_21 : decode cX2_met 21 = .ok (.iload_n 1, 1) := by decide +kernel
theorem dX2_met_22 : decode cX2_met 22 = .ok (.iaload, 1) := by decide +kernel
theorem dX2_met_23 : decode cX2_met 23 = .ok (.ireturn, 1) := by decide +kernel
theorem dX2_fault_0 : decode cX2_fault 0 = .ok (.aload_n 0, 1) := by decide +kernel
theorem dX2_fault_1 : decode cX2_fault 1 = .ok (.getfield 129, 3) := by decide +kernel
theorem dX2_fault_4 : decode cX2_fault 4 = .ok (.ireturn, 1) := by decide +kernel
theorem dX2_faults_0 : decode cX2_faults 0 = .ok (.iload_n 1, 1) := by decide +kernel
theorem dX2_faults_1 : decode cX2_faults 1 = .ok (.ifCond .lt 8, 3) := by decide +kernel
theorem dX2_faults_4 : decode cX2_faults 4 = .ok (.iload_n 1, 1) := by decide +kernel
theorem dX2_faults_5 : decode cX2_faults 5 = .ok (.iconst 4, 1) := by decide +kernel
theorem dX2_faults_6 : decode cX2_faults 6 = .ok (.if_icmp .le 8, 3) := by decide +kernel
theorem dX2_faults_9 : decode cX2_faults 9 = .ok (.bipush (-9), 2) := by decide +kernel
theorem dX2_faults_11 : decode cX2_faults 11 = .ok (.goto 9, 3) := by decide +kernel
theorem dX2_faults_14 : decode cX2_faults 14 = .ok (.aload_n 0, 1) := by decide +kernel
theorem dX2_faults_15 : decode cX2_faults 15 = .ok (.getfield 38, 3) := by decide +kernel
theorem dX2_faults_18 : decode cX2_faults 18 = .ok (.iload_n 1, 1) := by decide +kernel
theorem dX2_faults_19 : decode cX2_faults 19 = .ok (.iaload, 1) := by decide +kernel
theorem dX2_faults_20 : decode cX2_faults 20 = .ok (.ireturn, 1) := by decide +kernel
set_option maxRecDepth 20000 in
theorem ggX2_told_X2_isDrawer : GoodIn wsX2_told wsX2_isDrawer := goodIn_r _ [7] (by decide +kernel) (by decide +kernel)
set_option maxRecDepth 20000 in
theorem gX2_told_X2_isDrawer : GoodIn wsX2_told (va_wsS RX2 41 yX2_isDrawer wsX2_isDrawer) := goodIn_app (goodIn_of _ (by decide +kernel)) ggX2_told_X2_isDrawer
set_option maxRecDepth 20000 in
theorem ggX2_told_X0_isRow : GoodIn wsX2_told wsX0_isRow := goodIn_r _ [12, 13, 30, 31, 32, 33] (by decide +kernel) (by decide +kernel)
set_option maxRecDepth 20000 in
theorem gX2_told_X0_isRow : GoodIn wsX2_told (wsV RX2 138 RX0 yX0_isRow wsX0_isRow) := goodIn_app (goodIn_of _ (by decide +kernel)) ggX2_told_X0_isRow
set_option maxRecDepth 20000 in
theorem ggX2_told_X2_holdersOf : GoodIn wsX2_told wsX2_holdersOf := goodIn_r _ [17, 1, 18, 19, 20, 21, 22, 23, 24, 25, 26, 27, 28, 29] (by decide +kernel) (by decide +kernel)
set_option maxRecDepth 20000 in
theorem gX2_told_X2_holdersOf : GoodIn wsX2_told (wsV RX2 142 RX2 yX2_holdersOf wsX2_holdersOf) := goodIn_app (goodIn_of _ (by decide +kernel)) ggX2_told_X2_holdersOf
theorem dX2_told_0 : decode cX2_told 0 = .ok (.iload_n 1, 1) := by decide +kernel
theorem dX2_told_1 : decode cX2_told 1 = .ok (.invokestatic 41, 3) := by decide +kernel
theorem dX2_told_4 : decode cX2_told 4 = .ok (.ifCond .ne 5, 3) := by decide +kernel
theorem dX2_told_7 : decode cX2_told 7 = .ok (.iconst (-1), 1) := by decide +kernel
theorem dX2_told_8 : decode cX2_told 8 = .ok (.ireturn, 1) := by decide +kernel
theorem dX2_told_9 : decode cX2_told 9 = .ok (.aload_n 0, 1) := by decide +kernel
theorem dX2_told_10 : decode cX2_told 10 = .ok (.getfield 16, 3) := by decide +kernel
theorem dX2_told_13 : decode cX2_told 13 = .ok (.iload_n 1, 1) := by decide +kernel
theorem dX2_told_14 : decode cX2_told 14 = .ok (.aaload, 1) := by decide +kernel
theorem dX2_told_15 : decode cX2_told 15 = .ok (.astore_n 3, 1) := by decide +kernel
theorem dX2_told_16 : decode cX2_told 16 = .ok (.iload_n 2, 1) := by decide +kernel
theorem dX2_told_17 : decode cX2_told 17 = .ok (.tableswitch 54 0 2 #[27, 32, 49], 27) := by decide +kernel
theorem dX2_told_44 : decode cX2_told 44 = .ok (.aload_n 3, 1) := by decide +kernel
theorem dX2_told_45 : decode cX2_told 45 = .ok (.getfield 135, 3) := by decide +kernel
theorem dX2_told_48 : decode cX2_told 48 = .ok (.ireturn, 1) := by decide +kernel
theorem dX2_told_49 : decode cX2_told 49 = .ok (.aload_n 3, 1) := by decide +kernel
theorem dX2_told_50 : decode cX2_told 50 = .ok (.invokevirtual 138, 3) := by decide +kernel
theorem dX2_told_53 : decode cX2_told 53 = .ok (.ifCond .eq 11, 3) := by decide +kernel
theorem dX2_told_56 : decode cX2_told 56 = .ok (.aload_n 0, 1) := by decide +kernel
theorem dX2_told_57 : decode cX2_told 57 = .ok (.aload_n 3, 1) := by decide +kernel
theorem dX2_told_58 : decode cX2_told 58 = .ok (.invokevirtual 142, 3) := by decide +kernel
theorem dX2_told_61 : decode cX2_told 61 = .ok (.goto 4, 3) := by decide +kernel
theorem dX2_told_64 : decode cX2_told 64 = .ok (.iconst 0, 1) := by decide +kernel
theorem dX2_told_65 : decode cX2_told 65 = .ok (.ireturn, 1) := by decide +kernel
theorem dX2_told_66 : decode cX2_told 66 = .ok (.aload_n 3, 1) := by decide +kernel
theorem dX2_told_67 : decode cX2_told 67 = .ok (.getfield 146, 3) := by decide +kernel
theorem dX2_told_70 : decode cX2_told 70 = .ok (.ireturn, 1) := by decide +kernel
theorem dX2_told_71 : decode cX2_told 71 = .ok (.bipush (-2), 2) := by decide +kernel
theorem dX2_told_73 : decode cX2_told 73 = .ok (.ireturn, 1) := by decide +kernel
theorem dX2_hand_0 : decode cX2_hand 0 = .ok (.aload_n 0, 1) := by decide +kernel
theorem dX2_hand_1 : decode cX2_hand 1 = .ok (.getfield 23, 3) := by decide +kernel
theorem dX2_hand_4 : decode cX2_hand 4 = .ok (.ireturn, 1) := by decide +kernel
theorem dX2_value_0 : decode cX2_value 0 = .ok (.aload_n 0, 1) := by decide +kernel
theorem dX2_value_1 : decode cX2_value 1 = .ok (.getfield 86, 3) := by decide +kernel
theorem dX2_value_4 : decode cX2_value 4 = .ok (.lreturn, 1) := by decide +kernel
theorem dX2_isDrawer_0 : decode cX2_isDrawer 0 = .ok (.iload_n 0, 1) := by decide +kernel
theorem dX2_isDrawer_1 : decode cX2_isDrawer 1 = .ok (.ifCond .lt 13, 3) := by decide +kernel
theorem dX2_isDrawer_4 : decode cX2_isDrawer 4 = .ok (.iload_n 0, 1) := by decide +kernel
theorem dX2_isDrawer_5 : decode cX2_isDrawer 5 = .ok (.bipush 8, 2) := by decide +kernel
theorem dX2_isDrawer_7 : decode cX2_isDrawer 7 = .ok (.if_icmp .ge 7, 3) := by decide +kernel
theorem dX2_isDrawer_10 : decode cX2_isDrawer 10 = .ok (.iconst 1, 1) := by decide +kernel
theorem dX2_isDrawer_11 : decode cX2_isDrawer 11 = .ok (.goto 4, 3) := by decide +kernel
theorem dX2_isDrawer_14 : decode cX2_isDrawer 14 = .ok (.iconst 0, 1) := by decide +kernel
theorem dX2_isDrawer_15 : decode cX2_isDrawer 15 = .ok (.ireturn, 1) := by decide +kernel
theorem dX2_isTellableIndex_0 : decode cX2_isTellableIndex 0 = .ok (.iload_n 0, 1) := by decide +kernel
theorem dX2_isTellableIndex_1 : decode cX2_isTellableIndex 1 = .ok (.ifCond .lt 13, 3) := by decide +kernel
theorem dX2_isTellableIndex_4 : decode cX2_isTellableIndex 4 = .ok (.iload_n 0, 1) := by decide +kernel
theorem dX2_isTellableIndex_5 : decode cX2_isTellableIndex 5 = .ok (.bipush 20, 2) := by decide +kernel
theorem dX2_isTellableIndex_7 : decode cX2_isTellableIndex 7 = .ok (.if_icmp .gt 7, 3) := by decide +kernel
theorem dX2_isTellableIndex_10 : decode cX2_isTellableIndex 10 = .ok (.iconst 1, 1) := by decide +kernel
theorem dX2_isTellableIndex_11 : decode cX2_isTellableIndex 11 = .ok (.goto 4, 3) := by decide +kernel
theorem dX2_isTellableIndex_14 : decode cX2_isTellableIndex 14 = .ok (.iconst 0, 1) := by decide +kernel
theorem dX2_isTellableIndex_15 : decode cX2_isTellableIndex 15 = .ok (.ireturn, 1) := by decide +kernel
theorem dX2_hold_0 : decode cX2_hold 0 = .ok (.aload_n 0, 1) := by decide +kernel
theorem dX2_hold_1 : decode cX2_hold 1 = .ok (.iload_n 1, 1) := by decide +kernel
theorem dX2_hold_2 : decode cX2_hold 2 = .ok (.putfield 23, 3) := by decide +kernel
theorem dX2_hold_5 : decode cX2_hold 5 = .ok (.aload_n 0, 1) := by decide +kernel
theorem dX2_hold_6 : decode cX2_hold 6 = .ok (.lload_n 2, 1) := by decide +kernel
theorem dX2_hold_7 : decode cX2_hold 7 = .ok (.putfield 86, 3) := by decide +kernel
theorem dX2_hold_10 : decode cX2_hold 10 = .ok (.return_, 1) := by decide +kernel
theorem dX2_valueOfKind_0 : decode cX2_valueOfKind 0 = .ok (.iload_n 0, 1) := by decide +kernel
theorem dX2_valueOfKind_1 : decode cX2_valueOfKind 1 = .ok (.tableswitch 70 0 5 #[39, 44, 49, 54, 70, 58], 39) := by decide +kernel
theorem dX2_valueOfKind_40 : decode cX2_valueOfKind 40 = .ok (.lload_n 1, 1) := by decide +kernel
theorem dX2_valueOfKind_41 : decode cX2_valueOfKind 41 = .ok (.l2i, 1) := by decide +kernel
theorem dX2_valueOfKind_42 : decode cX2_valueOfKind 42 = .ok (.i2b, 1) := by decide +kernel
theorem dX2_valueOfKind_43 : decode cX2_valueOfKind 43 = .ok (.i2l, 1) := by decide +kernel
theorem dX2_valueOfKind_44 : decode cX2_valueOfKind 44 = .ok (.lreturn, 1) := by decide +kernel
theorem dX2_valueOfKind_45 : decode cX2_valueOfKind 45 = .ok (.lload_n 1, 1) := by decide +kernel
theorem dX2_valueOfKind_46 : decode cX2_valueOfKind 46 = .ok (.l2i, 1) := by decide +kernel
theorem dX2_valueOfKind_47 : decode cX2_valueOfKind 47 = .ok (.i2s, 1) := by decide +kernel
theorem dX2_valueOfKind_48 : decode cX2_valueOfKind 48 = .ok (.i2l, 1) := by decide +kernel
theorem dX2_valueOfKind_49 : decode cX2_valueOfKind 49 = .ok (.lreturn, 1) := by decide +kernel
theorem dX2_valueOfKind_50 : decode cX2_valueOfKind 50 = .ok (.lload_n 1, 1) := by decide +kernel
theorem dX2_valueOfKind_51 : decode cX2_valueOfKind 51 = .ok (.l2i, 1) := by decide +kernel
theorem dX2_valueOfKind_52 : decode cX2_valueOfKind 52 = .ok (.i2c, 1) := by decide +kernel
theorem dX2_valueOfKind_53 : decode cX2_valueOfKind 53 = .ok (.i2l, 1) := by decide +kernel
theorem dX2_valueOfKind_54 : decode cX2_valueOfKind 54 = .ok (.lreturn, 1) := by decide +kernel
theorem dX2_valueOfKind_55 : decode cX2_valueOfKind 55 = .ok (.lload_n 1, 1) := by decide +kernel
theorem dX2_valueOfKind_56 : decode cX2_valueOfKind 56 = .ok (.l2i, 1) := by decide +kernel
theorem dX2_valueOfKind_57 : decode cX2_valueOfKind 57 = .ok (.i2l, 1) := by decide +kernel
theorem dX2_valueOfKind_58 : decode cX2_valueOfKind 58 = .ok (.lreturn, 1) := by decide +kernel
theorem dX2_valueOfKind_59 : decode cX2_valueOfKind 59 = .ok (.lload_n 1, 1) := by decide +kernel
theorem dX2_valueOfKind_60 : decode cX2_valueOfKind 60 = .ok (.lconst 0, 1) := by decide +kernel
theorem dX2_valueOfKind_61 : decode cX2_valueOfKind 61 = .ok (.lcmp, 1) := by decide +kernel
theorem dX2_valueOfKind_62 : decode cX2_valueOfKind 62 = .ok (.ifCond .eq 7, 3) := by decide +kernel
theorem dX2_valueOfKind_65 : decode cX2_valueOfKind 65 = .ok (.lconst 1, 1) := by decide +kernel
theorem dX2_valueOfKind_66 : decode cX2_valueOfKind 66 = .ok (.goto 4, 3) := by decide +kernel
theorem dX2_valueOfKind_69 : decode cX2_valueOfKind 69 = .ok (.lconst 0, 1) := by decide +kernel
theorem dX2_valueOfKind_70 : decode cX2_valueOfKind 70 = .ok (.lreturn, 1) := by decide +kernel
theorem dX2_valueOfKind_71 : decode cX2_valueOfKind 71 = .ok (.lload_n 1, 1) := by decide +kernel
theorem dX2_valueOfKind_72 : decode cX2_valueOfKind 72 = .ok (.lreturn, 1) := by decide +kernel
theorem dX2_fits_0 : decode cX2_fits 0 = .ok (.iload_n 0, 1) := by decide +kernel
theorem dX2_fits_1 : decode cX2_fits 1 = .ok (.tableswitch 141 (-9) 3 #[67, 141, 141, 141, 141, 141, 141, 141, 141, 79, 104, 104, 125], 67) := by decide +kernel
theorem dX2_fits_68 : decode cX2_fits 68 = .ok (.iload_n 1, 1) := by decide +kernel
theorem dX2_fits_69 : decode cX2_fits 69 = .ok (.bipush 6, 2) := by decide +kernel
theorem dX2_fits_71 : decode cX2_fits 71 = .ok (.if_icmp .ne 7, 3) := by decide +kernel
theorem dX2_fits_74 : decode cX2_fits 74 = .ok (.iconst 1, 1) := by decide +kernel
theorem dX2_fits_75 : decode cX2_fits 75 = .ok (.goto 4, 3) := by decide +kernel
theorem dX2_fits_78 : decode cX2_fits 78 = .ok (.iconst 0, 1) := by decide +kernel
theorem dX2_fits_79 : decode cX2_fits 79 = .ok (.ireturn, 1) := by decide +kernel
theorem dX2_fits_80 : decode cX2_fits 80 = .ok (.iload_n 1, 1) := by decide +kernel
theorem dX2_fits_81 : decode cX2_fits 81 = .ok (.ifCond .eq 18, 3) := by decide +kernel
theorem dX2_fits_84 : decode cX2_fits 84 = .ok (.iload_n 1, 1) := by decide +kernel
theorem dX2_fits_85 : decode cX2_fits 85 = .ok (.iconst 1, 1) := by decide +kernel
theorem dX2_fits_86 : decode cX2_fits 86 = .ok (.if_icmp .eq 13, 3) := by decide +kernel
theorem dX2_fits_89 : decode cX2_fits 89 = .ok (.iload_n 1, 1) := by decide +kernel
theorem dX2_fits_90 : decode cX2_fits 90 = .ok (.iconst 3, 1) := by decide +kernel
theorem dX2_fits_91 : decode cX2_fits 91 = .ok (.if_icmp .eq 8, 3) := by decide +kernel
theorem dX2_fits_94 : decode cX2_fits 94 = .ok (.iload_n 1, 1) := by decide +kernel
theorem dX2_fits_95 : decode cX2_fits 95 = .ok (.iconst 4, 1) := by decide +kernel
theorem dX2_fits_96 : decode cX2_fits 96 = .ok (.if_icmp .ne 7, 3) := by decide +kernel
theorem dX2_fits_99 : decode cX2_fits 99 = .ok (.iconst 1, 1) := by decide +kernel
theorem dX2_fits_100 : decode cX2_fits 100 = .ok (.goto 4, 3) := by decide +kernel
theorem dX2_fits_103 : decode cX2_fits 103 = .ok (.iconst 0, 1) := by decide +kernel
theorem dX2_fits_104 : decode cX2_fits 104 = .ok (.ireturn, 1) := by decide +kernel
theorem dX2_fits_105 : decode cX2_fits 105 = .ok (.iload_n 1, 1) := by decide +kernel
theorem dX2_fits_106 : decode cX2_fits 106 = .ok (.iload_n 0, 1) := by decide +kernel
theorem dX2_fits_107 : decode cX2_fits 107 = .ok (.if_icmp .eq 13, 3) := by decide +kernel
theorem dX2_fits_110 : decode cX2_fits 110 = .ok (.iload_n 1, 1) := by decide +kernel
theorem dX2_fits_111 : decode cX2_fits 111 = .ok (.iconst 3, 1) := by decide +kernel
theorem dX2_fits_112 : decode cX2_fits 112 = .ok (.if_icmp .eq 8, 3) := by decide +kernel
theorem dX2_fits_115 : decode cX2_fits 115 = .ok (.iload_n 1, 1) := by decide +kernel
theorem dX2_fits_116 : decode cX2_fits 116 = .ok (.iconst 4, 1) := by decide +kernel
theorem dX2_fits_117 : decode cX2_fits 117 = .ok (.if_icmp .ne 7, 3) := by decide +kernel
theorem dX2_fits_120 : decode cX2_fits 120 = .ok (.iconst 1, 1) := by decide +kernel
theorem dX2_fits_121 : decode cX2_fits 121 = .ok (.goto 4, 3) := by decide +kernel
theorem dX2_fits_124 : decode cX2_fits 124 = .ok (.iconst 0, 1) := by decide +kernel
theorem dX2_fits_125 : decode cX2_fits 125 = .ok (.ireturn, 1) := by decide +kernel
theorem dX2_fits_126 : decode cX2_fits 126 = .ok (.iload_n 1, 1) := by decide +kernel
theorem dX2_fits_127 : decode cX2_fits 127 = .ok (.iconst 3, 1) := by decide +kernel
theorem dX2_fits_128 : decode cX2_fits 128 = .ok (.if_icmp .eq 8, 3) := by decide +kernel
theorem dX2_fits_131 : decode cX2_fits 131 = .ok (.iload_n 1, 1) := by decide +kernel
theorem dX2_fits_132 : decode cX2_fits 132 = .ok (.iconst 4, 1) := by decide +kernel
theorem dX2_fits_133 : decode cX2_fits 133 = .ok (.if_icmp .ne 7, 3) := by decide +kernel
theorem dX2_fits_136 : decode cX2_fits 136 = .ok (.iconst 1, 1) := by decide +kernel
theorem dX2_fits_137 : decode cX2_fits 137 = .ok (.goto 4, 3) := by decide +kernel
theorem dX2_fits_140 : decode cX2_fits 140 = .ok (.iconst 0, 1) := by decide +kernel
theorem dX2_fits_141 : decode cX2_fits 141 = .ok (.ireturn, 1) := by decide +kernel
theorem dX2_fits_142 : decode cX2_fits 142 = .ok (.iload_n 1, 1) := by decide +kernel
theorem dX2_fits_143 : decode cX2_fits 143 = .ok (.iload_n 0, 1) := by decide +kernel
theorem dX2_fits_144 : decode cX2_fits 144 = .ok (.if_icmp .ne 7, 3) := by decide +kernel
theorem dX2_fits_147 : decode cX2_fits 147 = .ok (.iconst 1, 1) := by decide +kernel
theorem dX2_fits_148 : decode cX2_fits 148 = .ok (.goto 4, 3) := by decide +kernel
theorem dX2_fits_151 : decode cX2_fits 151 = .ok (.iconst 0, 1) := by decide +kernel
theorem dX2_fits_152 : decode cX2_fits 152 = .ok (.ireturn, 1) := by decide +kernel
theorem dX2_holdersOf_0 : decode cX2_holdersOf 0 = .ok (.iconst 0, 1) := by decide +kernel
theorem dX2_holdersOf_1 : decode cX2_holdersOf 1 = .ok (.istore_n 2, 1) := by decide +kernel
theorem dX2_holdersOf_2 : decode cX2_holdersOf 2 = .ok (.iconst 0, 1) := by decide +kernel
theorem dX2_holdersOf_3 : decode cX2_holdersOf 3 = .ok (.istore_n 3, 1) := by decide +kernel
theorem dX2_holdersOf_4 : decode cX2_holdersOf 4 = .ok (.iload_n 3, 1) := by decide +kernel
theorem dX2_holdersOf_5 : decode cX2_holdersOf 5 = .ok (.bipush 8, 2) := by decide +kernel
theorem dX2_holdersOf_7 : decode cX2_holdersOf 7 = .ok (.if_icmp .ge 22, 3) := by decide +kernel
theorem dX2_holdersOf_10 : decode cX2_holdersOf 10 = .ok (.aload_n 0, 1) := by decide +kernel
theorem dX2_holdersOf_11 : decode cX2_holdersOf 11 = .ok (.getfield 16, 3) := by decide +kernel
theorem dX2_holdersOf_14 : decode cX2_holdersOf 14 = .ok (.iload_n 3, 1) := by decide +kernel
theorem dX2_holdersOf_15 : decode cX2_holdersOf 15 = .ok (.aaload, 1) := by decide +kernel
theorem dX2_holdersOf_16 : decode cX2_holdersOf 16 = .ok (.aload_n 1, 1) := by decide +kernel
theorem dX2_holdersOf_17 : decode cX2_holdersOf 17 = .ok (.if_acmp .ne 6, 3) := by decide +kernel
theorem dX2_holdersOf_20 : decode cX2_holdersOf 20 = .ok (.iinc 2 1, 3) := by decide +kernel
theorem dX2_holdersOf_23 : decode cX2_holdersOf 23 = .ok (.iinc 3 1, 3) := by decide +kernel
theorem dX2_holdersOf_26 : decode cX2_holdersOf 26 = .ok (.goto (-22), 3) := by decide +kernel
theorem dX2_holdersOf_29 : decode cX2_holdersOf 29 = .ok (.iload_n 2, 1) := by decide +kernel
theorem dX2_holdersOf_30 : decode cX2_holdersOf 30 = .ok (.ireturn, 1) := by decide +kernel
set_option maxRecDepth 20000 in
theorem ggX2_newContent_X2_holdersOf : GoodIn wsX2_newContent wsX2_holdersOf := goodIn_r _ [8, 1, 9, 10, 11, 12, 13, 14, 15, 16, 17, 18, 19, 20] (by decide +kernel) (by decide +kernel)
set_option maxRecDepth 20000 in
theorem gX2_newContent_X2_holdersOf : GoodIn wsX2_newContent (wsV RX2 142 RX2 yX2_holdersOf wsX2_holdersOf) := goodIn_app (goodIn_of _ (by decide +kernel)) ggX2_newContent_X2_holdersOf
theorem dX2_newContent_0 : decode cX2_newContent 0 = .ok (.aload_n 0, 1) := by decide +kernel
theorem dX2_newContent_1 : decode cX2_newContent 1 = .ok (.getfield 16, 3) := by decide +kernel
theorem dX2_newContent_4 : decode cX2_newContent 4 = .ok (.iload_n 1, 1) := by decide +kernel
theorem dX2_newContent_5 : decode cX2_newContent 5 = .ok (.aload_n 0, 1) := by decide +kernel
theorem dX2_newContent_6 : decode cX2_newContent 6 = .ok (.getfield 10, 3) := by decide +kernel
theorem dX2_newContent_9 : decode cX2_newContent 9 = .ok (.aastore, 1) := by decide +kernel
theorem dX2_newContent_10 : decode cX2_newContent 10 = .ok (.aload_n 0, 1) := by decide +kernel
theorem dX2_newContent_11 : decode cX2_newContent 11 = .ok (.getfield 20, 3) := by decide +kernel
theorem dX2_newContent_14 : decode cX2_newContent 14 = .ok (.iconst 0, 1) := by decide +kernel
theorem dX2_newContent_15 : decode cX2_newContent 15 = .ok (.aaload, 1) := by decide +kernel
theorem dX2_newContent_16 : decode cX2_newContent 16 = .ok (.astore_n 2, 1) := by decide +kernel
theorem dX2_newContent_17 : decode cX2_newContent 17 = .ok (.iconst 1, 1) := by decide +kernel
theorem dX2_newContent_18 : decode cX2_newContent 18 = .ok (.istore_n 3, 1) := by decide +kernel
theorem dX2_newContent_19 : decode cX2_newContent 19 = .ok (.iload_n 3, 1) := by decide +kernel
theorem dX2_newContent_20 : decode cX2_newContent 20 = .ok (.bipush 8, 2) := by decide +kernel
theorem dX2_newContent_22 : decode cX2_newContent 22 = .ok (.if_icmp .ge 29, 3) := by decide +kernel
theorem dX2_newContent_25 : decode cX2_newContent 25 = .ok (.aload_n 0, 1) := by decide +kernel
theorem dX2_newContent_26 : decode cX2_newContent 26 = .ok (.aload_n 0, 1) := by decide +kernel
theorem dX2_newContent_27 : decode cX2_newContent 27 = .ok (.getfield 20, 3) := by decide +kernel
theorem dX2_newContent_30 : decode cX2_newContent 30 = .ok (.iload_n 3, 1) := by decide +kernel
theorem dX2_newContent_31 : decode cX2_newContent 31 = .ok (.aaload, 1) := by decide +kernel
theorem dX2_newContent_32 : decode cX2_newContent 32 = .ok (.invokevirtual 142, 3) := by decide +kernel
theorem dX2_newContent_35 : decode cX2_newContent 35 = .ok (.ifCond .ne 10, 3) := by decide +kernel
theorem dX2_newContent_38 : decode cX2_newContent 38 = .ok (.aload_n 0, 1) := by decide +kernel
theorem dX2_newContent_39 : decode cX2_newContent 39 = .ok (.getfield 20, 3) := by decide +kernel
theorem dX2_newContent_42 : decode cX2_newContent 42 = .ok (.iload_n 3, 1) := by decide +kernel
theorem dX2_newContent_43 : decode cX2_newContent 43 = .ok (.aaload, 1) := by decide +kernel
theorem dX2_newContent_44 : decode cX2_newContent 44 = .ok (.astore_n 2, 1) := by decide +kernel
theorem dX2_newContent_45 : decode cX2_newContent 45 = .ok (.iinc 3 1, 3) := by decide +kernel
theorem dX2_newContent_48 : decode cX2_newContent 48 = .ok (.goto (-29), 3) := by decide +kernel
theorem dX2_newContent_51 : decode cX2_newContent 51 = .ok (.aload_n 0, 1) := by decide +kernel
theorem dX2_newContent_52 : decode cX2_newContent 52 = .ok (.getfield 16, 3) := by decide +kernel
theorem dX2_newContent_55 : decode cX2_newContent 55 = .ok (.iload_n 1, 1) := by decide +kernel
theorem dX2_newContent_56 : decode cX2_newContent 56 = .ok (.aload_n 2, 1) := by decide +kernel
theorem dX2_newContent_57 : decode cX2_newContent 57 = .ok (.aastore, 1) := by decide +kernel
theorem dX2_newContent_58 : decode cX2_newContent 58 = .ok (.aload_n 2, 1) := by decide +kernel
theorem dX2_newContent_59 : decode cX2_newContent 59 = .ok (.areturn, 1) := by decide +kernel
theorem dX2_meet_0 : decode cX2_meet 0 = .ok (.aload_n 0, 1) := by decide +kernel
theorem dX2_meet_1 : decode cX2_meet 1 = .ok (.iload_n 1, 1) := by decide +kernel
theorem dX2_meet_2 : decode cX2_meet 2 = .ok (.putfield 129, 3) := by decide +kernel
theorem dX2_meet_5 : decode cX2_meet 5 = .ok (.aload_n 0, 1) := by decide +kernel
theorem dX2_meet_6 : decode cX2_meet 6 = .ok (.getfield 38, 3) := by decide +kernel
theorem dX2_meet_9 : decode cX2_meet 9 = .ok (.iconst 0, 1) := by decide +kernel
theorem dX2_meet_10 : decode cX2_meet 10 = .ok (.dup2, 1) := by decide +kernel
theorem dX2_meet_11 : decode cX2_meet 11 = .ok (.iaload, 1) := by decide +kernel
theorem dX2_meet_12 : decode cX2_meet 12 = .ok (.iconst 1, 1) := by decide +kernel
theorem dX2_meet_13 : decode cX2_meet 13 = .ok (.iadd, 1) := by decide +kernel
theorem dX2_meet_14 : decode cX2_meet 14 = .ok (.iastore, 1) := by decide +kernel
theorem dX2_meet_15 : decode cX2_meet 15 = .ok (.aload_n 0, 1) := by decide +kernel
theorem dX2_meet_16 : decode cX2_meet 16 = .ok (.getfield 38, 3) := by decide +kernel
theorem dX2_meet_19 : decode cX2_meet 19 = .ok (.iload_n 1, 1) := by decide +kernel
theorem dX2_meet_20 : decode cX2_meet 20 = .ok (.dup2, 1) := by decide +kernel
theorem dX2_meet_21 : decode cX2_meet 21 = .ok (.iaload, 1) := by decide +kernel
theorem dX2_meet_22 : decode cX2_meet 22 = .ok (.iconst 1, 1) := by decide +kernel
theorem dX2_meet_23 : decode cX2_meet 23 = .ok (.iadd, 1) := by decide +kernel
theorem dX2_meet_24 : decode cX2_meet 24 = .ok (.iastore, 1) := by decide +kernel
theorem dX2_meet_25 : decode cX2_meet 25 = .ok (.bipush (-10), 2) := by decide +kernel
theorem dX2_meet_27 : decode cX2_meet 27 = .ok (.iload_n 1, 1) := by decide +kernel
theorem dX2_meet_28 : decode cX2_meet 28 = .ok (.isub, 1) := by decide +kernel
theorem dX2_meet_29 : decode cX2_meet 29 = .ok (.ireturn, 1) := by decide +kernel
set_option maxRecDepth 20000 in
theorem ggX2_pourOne_X0_faultOfComing : GoodIn wsX2_pourOne wsX0_faultOfComing := goodIn_r _ [6, 7, 8, 9, 10, 5, 11, 12, 26, 27, 28, 29] (by decide +kernel) (by decide +kernel)
set_option maxRecDepth 20000 in
theorem gX2_pourOne_X0_faultOfComing : GoodIn wsX2_pourOne (wsV RX2 68 RX0 yX0_faultOfComing wsX0_faultOfComing) := goodIn_app (goodIn_of _ (by decide +kernel)) ggX2_pourOne_X0_faultOfComing
set_option maxRecDepth 20000 in
theorem ggX2_pourOne_X0_kindAt : GoodIn wsX2_pourOne wsX0_kindAt := goodIn_r _ [16, 12, 17, 26, 27, 28, 29] (by decide +kernel) (by decide +kernel)
set_option maxRecDepth 20000 in
theorem gX2_pourOne_X0_kindAt : GoodIn wsX2_pourOne (wsV RX2 75 RX0 yX0_kindAt wsX0_kindAt) := goodIn_app (goodIn_of _ (by decide +kernel)) ggX2_pourOne_X0_kindAt
set_option maxRecDepth 20000 in
theorem ggX2_pourOne_X0_faultOfLaying : GoodIn wsX2_pourOne wsX0_faultOfLaying := goodIn_r _ [21, 12, 22, 3, 4, 5, 6, 7, 8, 9, 10, 11, 23, 24, 25, 26, 27, 28, 29] (by decide +kernel) (by decide +kernel)
set_option maxRecDepth 20000 in
theorem gX2_pourOne_X0_faultOfLaying : GoodIn wsX2_pourOne (wsV RX2 82 RX0 yX0_faultOfLaying wsX0_faultOfLaying) := goodIn_app (goodIn_of _ (by decide +kernel)) ggX2_pourOne_X0_faultOfLaying
theorem dX2_pourOne_0 : decode cX2_pourOne 0 = .ok (.aload_n 0, 1) := by decide +kernel
theorem dX2_pourOne_1 : decode cX2_pourOne 1 = .ok (.iload_n 1, 1) := by decide +kernel
theorem dX2_pourOne_2 : decode cX2_pourOne 2 = .ok (.invokevirtual 68, 3) := by decide +kernel
theorem dX2_pourOne_5 : decode cX2_pourOne 5 = .ok (.istore 4, 2) := by decide +kernel
theorem dX2_pourOne_7 : decode cX2_pourOne 7 = .ok (.iload 4, 2) := by decide +kernel
theorem dX2_pourOne_9 : decode cX2_pourOne 9 = .ok (.ifCond .ne 15, 3) := by decide +kernel
theorem dX2_pourOne_12 : decode cX2_pourOne 12 = .ok (.aload_n 2, 1) := by decide +kernel
theorem dX2_pourOne_13 : decode cX2_pourOne 13 = .ok (.iload_n 3, 1) := by decide +kernel
theorem dX2_pourOne_14 : decode cX2_pourOne 14 = .ok (.aload_n 0, 1) := by decide +kernel
theorem dX2_pourOne_15 : decode cX2_pourOne 15 = .ok (.iload_n 1, 1) := by decide +kernel
theorem dX2_pourOne_16 : decode cX2_pourOne 16 = .ok (.invokevirtual 75, 3) := by decide +kernel
theorem dX2_pourOne_19 : decode cX2_pourOne 19 = .ok (.invokevirtual 82, 3) := by decide +kernel
theorem dX2_pourOne_22 : decode cX2_pourOne 22 = .ok (.istore 4, 2) := by decide +kernel
theorem dX2_pourOne_24 : decode cX2_pourOne 24 = .ok (.iload 4, 2) := by decide +kernel
theorem dX2_pourOne_26 : decode cX2_pourOne 26 = .ok (.ifCond .ne 15, 3) := by decide +kernel
theorem dX2_pourOne_29 : decode cX2_pourOne 29 = .ok (.aload_n 2, 1) := by decide +kernel
theorem dX2_pourOne_30 : decode cX2_pourOne 30 = .ok (.getfield 78, 3) := by decide +kernel
theorem dX2_pourOne_33 : decode cX2_pourOne 33 = .ok (.iload_n 3, 1) := by decide +kernel
theorem dX2_pourOne_34 : decode cX2_pourOne 34 = .ok (.aload_n 0, 1) := by decide +kernel
theorem dX2_pourOne_35 : decode cX2_pourOne 35 = .ok (.getfield 78, 3) := by decide +kernel
theorem dX2_pourOne_38 : decode cX2_pourOne 38 = .ok (.iload_n 1, 1) := by decide +kernel
theorem dX2_pourOne_39 : decode cX2_pourOne 39 = .ok (.laload, 1) := by decide +kernel
theorem dX2_pourOne_40 : decode cX2_pourOne 40 = .ok (.lastore, 1) := by decide +kernel
theorem dX2_pourOne_41 : decode cX2_pourOne 41 = .ok (.iload 4, 2) := by decide +kernel
theorem dX2_pourOne_43 : decode cX2_pourOne 43 = .ok (.ireturn, 1) := by decide +kernel
set_option maxRecDepth 20000 in
theorem ggX2_faultOfSwapping_X0_faultOfComing : GoodIn wsX2_faultOfSwapping wsX0_faultOfComing := goodIn_r _ [5, 6, 7, 8, 9, 4, 10, 11, 25, 26, 27, 28] (by decide +kernel) (by decide +kernel)
set_option maxRecDepth 20000 in
theorem gX2_faultOfSwapping_X0_faultOfComing : GoodIn wsX2_faultOfSwapping (wsV RX2 68 RX0 yX0_faultOfComing wsX0_faultOfComing) := goodIn_app (goodIn_of _ (by decide +kernel)) ggX2_faultOfSwapping_X0_faultOfComing
set_option maxRecDepth 20000 in
theorem ggX2_faultOfSwapping_X0_kindAt : GoodIn wsX2_faultOfSwapping wsX0_kindAt := goodIn_r _ [15, 11, 16, 25, 26, 27, 28] (by decide +kernel) (by decide +kernel)
set_option maxRecDepth 20000 in
theorem gX2_faultOfSwapping_X0_kindAt : GoodIn wsX2_faultOfSwapping (wsV RX2 75 RX0 yX0_kindAt wsX0_kindAt) := goodIn_app (goodIn_of _ (by decide +kernel)) ggX2_faultOfSwapping_X0_kindAt
set_option maxRecDepth 20000 in
theorem ggX2_faultOfSwapping_X0_faultOfLaying : GoodIn wsX2_faultOfSwapping wsX0_faultOfLaying := goodIn_r _ [20, 11, 21, 2, 3, 4, 5, 6, 7, 8, 9, 10, 22, 23, 24, 25, 26, 27, 28] (by decide +kernel) (by decide +kernel)
set_option maxRecDepth 20000 in
theorem gX2_faultOfSwapping_X0_faultOfLaying : GoodIn wsX2_faultOfSwapping (wsV RX2 82 RX0 yX0_faultOfLaying wsX0_faultOfLaying) := goodIn_app (goodIn_of _ (by decide +kernel)) ggX2_faultOfSwapping_X0_faultOfLaying
theorem dX2_faultOfSwapping_0 : decode cX2_faultOfSwapping 0 = .ok (.aload_n 0, 1) := by decide +kernel
theorem dX2_faultOfSwapping_1 : decode cX2_faultOfSwapping 1 = .ok (.iload_n 1, 1) := by decide +kernel
theorem dX2_faultOfSwapping_2 : decode cX2_faultOfSwapping 2 = .ok (.invokevirtual 68, 3) := by decide +kernel
theorem dX2_faultOfSwapping_5 : decode cX2_faultOfSwapping 5 = .ok (.istore 4, 2) := by decide +kernel
theorem dX2_faultOfSwapping_7 : decode cX2_faultOfSwapping 7 = .ok (.iload 4, 2) := by decide +kernel
theorem dX2_faultOfSwapping_9 : decode cX2_faultOfSwapping 9 = .ok (.ifCond .ne 10, 3) := by decide +kernel
theorem dX2_faultOfSwapping_12 : decode cX2_faultOfSwapping 12 = .ok (.aload_n 2, 1) := by decide +kernel
theorem dX2_faultOfSwapping_13 : decode cX2_faultOfSwapping 13 = .ok (.iload_n 3, 1) := by decide +kernel
theorem dX2_faultOfSwapping_14 : decode cX2_faultOfSwapping 14 = .ok (.invokevirtual 68, 3) := by decide +kernel
theorem dX2_faultOfSwapping_17 : decode cX2_faultOfSwapping 17 = .ok (.istore 4, 2) := by decide +kernel
theorem dX2_faultOfSwapping_19 : decode cX2_faultOfSwapping 19 = .ok (.iload 4, 2) := by decide +kernel
theorem dX2_faultOfSwapping_21 : decode cX2_faultOfSwapping 21 = .ok (.ifCond .ne 15, 3) := by decide +kernel
theorem dX2_faultOfSwapping_24 : decode cX2_faultOfSwapping 24 = .ok (.aload_n 0, 1) := by decide +kernel
theorem dX2_faultOfSwapping_25 : decode cX2_faultOfSwapping 25 = .ok (.iload_n 1, 1) := by decide +kernel
theorem dX2_faultOfSwapping_26 : decode cX2_faultOfSwapping 26 = .ok (.aload_n 2, 1) := by decide +kernel
theorem dX2_faultOfSwapping_27 : decode cX2_faultOfSwapping 27 = .ok (.iload_n 3, 1) := by decide +kernel
theorem dX2_faultOfSwapping_28 : decode cX2_faultOfSwapping 28 = .ok (.invokevirtual 75, 3) := by decide +kernel
theorem dX2_faultOfSwapping_31 : decode cX2_faultOfSwapping 31 = .ok (.invokevirtual 82, 3) := by decide +kernel
theorem dX2_faultOfSwapping_34 : decode cX2_faultOfSwapping 34 = .ok (.istore 4, 2) := by decide +kernel
theorem dX2_faultOfSwapping_36 : decode cX2_faultOfSwapping 36 = .ok (.iload 4, 2) := by decide +kernel
theorem dX2_faultOfSwapping_38 : decode cX2_faultOfSwapping 38 = .ok (.ifCond .ne 15, 3) := by decide +kernel
theorem dX2_faultOfSwapping_41 : decode cX2_faultOfSwapping 41 = .ok (.aload_n 2, 1) := by decide +kernel
theorem dX2_faultOfSwapping_42 : decode cX2_faultOfSwapping 42 = .ok (.iload_n 3, 1) := by decide +kernel
theorem dX2_faultOfSwapping_43 : decode cX2_faultOfSwapping 43 = .ok (.aload_n 0, 1) := by decide +kernel
theorem dX2_faultOfSwapping_44 : decode cX2_faultOfSwapping 44 = .ok (.iload_n 1, 1) := by decide +kernel
theorem dX2_faultOfSwapping_45 : decode cX2_faultOfSwapping 45 = .ok (.invokevirtual 75, 3) := by decide +kernel
theorem dX2_faultOfSwapping_48 : decode cX2_faultOfSwapping 48 = .ok (.invokevirtual 82, 3) := by decide +kernel
theorem dX2_faultOfSwapping_51 : decode cX2_faultOfSwapping 51 = .ok (.istore 4, 2) := by decide +kernel
theorem dX2_faultOfSwapping_53 : decode cX2_faultOfSwapping 53 = .ok (.iload 4, 2) := by decide +kernel
theorem dX2_faultOfSwapping_55 : decode cX2_faultOfSwapping 55 = .ok (.ireturn, 1) := by decide +kernel
set_option maxRecDepth 20000 in
theorem ggX2_perform_X2_take : GoodIn wsX2_perform wsX2_take := goodIn_r _ [10, 11, 12, 13, 14, 15, 9, 16, 17, 18, 19, 20, 21, 22, 23, 24, 25, 26, 27, 28, 29, 30, 31, 32, 33, 34, 35, 36, 37, 38, 39, 40, 41, 42, 43, 86, 87, 88, 89, 90, 91, 92, 93, 94, 95, 96, 97, 98, 99, 100, 101] (by decide +kernel) (by decide +kernel)
set_option maxRecDepth 20000 in
theorem gX2_perform_X2_take : GoodIn wsX2_perform (wsV RX2 158 RX2 yX2_take wsX2_take) := goodIn_app (goodIn_of _ (by decide +kernel)) ggX2_perform_X2_take
set_option maxRecDepth 20000 in
theorem ggX2_perform_X2_lay : GoodIn wsX2_perform wsX2_lay := goodIn_r _ [47, 13, 11, 12, 43, 14, 15, 9, 16, 48, 49, 50, 20, 51, 27, 52, 18, 19, 21, 22, 23, 24, 25, 26, 53, 54, 28, 29, 30, 31, 32, 33, 86, 87, 88, 89, 90, 91, 92, 93, 94, 95, 96, 97, 98, 99, 100, 101] (by decide +kernel) (by decide +kernel)
set_option maxRecDepth 20000 in
theorem gX2_perform_X2_lay : GoodIn wsX2_perform (wsV RX2 167 RX2 yX2_lay wsX2_lay) := goodIn_app (goodIn_of _ (by decide +kernel)) ggX2_perform_X2_lay
set_option maxRecDepth 20000 in
theorem ggX2_perform_X2_swap : GoodIn wsX2_perform wsX2_swap := goodIn_r _ [58, 11, 12, 14, 15, 9, 16, 59, 60, 61, 17, 18, 19, 20, 21, 22, 23, 24, 25, 26, 27, 34, 35, 36, 37, 38, 48, 49, 50, 51, 52, 53, 54, 28, 29, 30, 31, 32, 33, 86, 87, 88, 89, 90, 91, 92, 93, 94, 95, 96, 97, 98, 99, 100, 101] (by decide +kernel) (by decide +kernel)
set_option maxRecDepth 20000 in
theorem gX2_perform_X2_swap : GoodIn wsX2_perform (wsV RX2 170 RX2 yX2_swap wsX2_swap) := goodIn_app (goodIn_of _ (by decide +kernel)) ggX2_perform_X2_swap
set_option maxRecDepth 20000 in
theorem ggX2_perform_X2_turn : GoodIn wsX2_perform wsX2_turn := goodIn_r _ [65, 11, 14, 15, 9, 16, 66, 24, 25, 20, 26, 27, 28, 29, 30, 31, 32, 33, 67, 68, 69, 70, 22, 38, 86, 87, 88, 89, 90, 91, 92, 93, 94, 95, 96, 97, 98, 99, 100, 101] (by decide +kernel) (by decide +kernel)
set_option maxRecDepth 20000 in
theorem gX2_perform_X2_turn : GoodIn wsX2_perform (wsV RX2 174 RX2 yX2_turn wsX2_turn) := goodIn_app (goodIn_of _ (by decide +kernel)) ggX2_perform_X2_turn
set_option maxRecDepth 20000 in
theorem ggX2_perform_X2_pour : GoodIn wsX2_perform wsX2_pour := goodIn_r _ [74, 11, 14, 15, 9, 16, 75, 76, 77, 78, 79, 80, 12, 17, 18, 19, 20, 21, 22, 23, 24, 25, 26, 27, 34, 35, 36, 37, 38, 48, 49, 50, 51, 52, 53, 54, 28, 29, 30, 31, 32, 33, 86, 87, 88, 89, 90, 91, 92, 93, 94, 95, 96, 97, 98, 99, 100, 101] (by decide +kernel) (by decide +kernel)
set_option maxRecDepth 20000 in
theorem gX2_perform_X2_pour : GoodIn wsX2_perform (wsV RX2 177 RX2 yX2_pour wsX2_pour) := goodIn_app (goodIn_of _ (by decide +kernel)) ggX2_perform_X2_pour
theorem dX2_perform_0 : decode cX2_perform 0 = .ok (.aload_n 1, 1) := by decide +kernel
theorem dX2_perform_1 : decode cX2_perform 1 = .ok (.getfield 149, 3) := by decide +kernel
theorem dX2_perform_4 : decode cX2_perform 4 = .ok (.tableswitch 100 0 3 #[32, 48, 64, 88], 32) := by decide +kernel
theorem dX2_perform_36 : decode cX2_perform 36 = .ok (.aload_n 0, 1) := by decide +kernel
theorem dX2_perform_37 : decode cX2_perform 37 = .ok (.aload_n 1, 1) := by decide +kernel
theorem dX2_perform_38 : decode cX2_perform 38 = .ok (.getfield 152, 3) := by decide +kernel
theorem dX2_perform_41 : decode cX2_perform 41 = .ok (.aload_n 1, 1) := by decide +kernel
theorem dX2_perform_42 : decode cX2_perform 42 = .ok (.getfield 155, 3) := by decide +kernel
theorem dX2_perform_45 : decode cX2_perform 45 = .ok (.invokevirtual 158, 3) := by decide +kernel
theorem dX2_perform_48 : decode cX2_perform 48 = .ok (.pop, 1) := by decide +kernel
theorem dX2_perform_49 : decode cX2_perform 49 = .ok (.goto 77, 3) := by decide +kernel
theorem dX2_perform_52 : decode cX2_perform 52 = .ok (.aload_n 0, 1) := by decide +kernel
theorem dX2_perform_53 : decode cX2_perform 53 = .ok (.aload_n 1, 1) := by decide +kernel
theorem dX2_perform_54 : decode cX2_perform 54 = .ok (.getfield 161, 3) := by decide +kernel
theorem dX2_perform_57 : decode cX2_perform 57 = .ok (.aload_n 1, 1) := by decide +kernel
theorem dX2_perform_58 : decode cX2_perform 58 = .ok (.getfield 164, 3) := by decide +kernel
theorem dX2_perform_61 : decode cX2_perform 61 = .ok (.invokevirtual 167, 3) := by decide +kernel
theorem dX2_perform_64 : decode cX2_perform 64 = .ok (.pop, 1) := by decide +kernel
theorem dX2_perform_65 : decode cX2_perform 65 = .ok (.goto 61, 3) := by decide +kernel
theorem dX2_perform_68 : decode cX2_perform 68 = .ok (.aload_n 0, 1) := by decide +kernel
theorem dX2_perform_69 : decode cX2_perform 69 = .ok (.aload_n 1, 1) := by decide +kernel
theorem dX2_perform_70 : decode cX2_perform 70 = .ok (.getfield 152, 3) := by decide +kernel
theorem dX2_perform_73 : decode cX2_perform 73 = .ok (.aload_n 1, 1) := by decide +kernel
theorem dX2_perform_74 : decode cX2_perform 74 = .ok (.getfield 155, 3) := by decide +kernel
theorem dX2_perform_77 : decode cX2_perform 77 = .ok (.aload_n 1, 1) := by decide +kernel
theorem dX2_perform_78 : decode cX2_perform 78 = .ok (.getfield 161, 3) := by decide +kernel
theorem dX2_perform_81 : decode cX2_perform 81 = .ok (.aload_n 1, 1) := by decide +kernel
theorem dX2_perform_82 : decode cX2_perform 82 = .ok (.getfield 164, 3) := by decide +kernel
theorem dX2_perform_85 : decode cX2_perform 85 = .ok (.invokevirtual 170, 3) := by decide +kernel
theorem dX2_perform_88 : decode cX2_perform 88 = .ok (.pop, 1) := by decide +kernel
theorem dX2_perform_89 : decode cX2_perform 89 = .ok (.goto 37, 3) := by decide +kernel
theorem dX2_perform_92 : decode cX2_perform 92 = .ok (.aload_n 0, 1) := by decide +kernel
theorem dX2_perform_93 : decode cX2_perform 93 = .ok (.aload_n 1, 1) := by decide +kernel
theorem dX2_perform_94 : decode cX2_perform 94 = .ok (.getfield 152, 3) := by decide +kernel
theorem dX2_perform_97 : decode cX2_perform 97 = .ok (.invokevirtual 174, 3) := by decide +kernel
theorem dX2_perform_100 : decode cX2_perform 100 = .ok (.pop, 1) := by decide +kernel
theorem dX2_perform_101 : decode cX2_perform 101 = .ok (.goto 25, 3) := by decide +kernel
theorem dX2_perform_104 : decode cX2_perform 104 = .ok (.aload_n 0, 1) := by decide +kernel
theorem dX2_perform_105 : decode cX2_perform 105 = .ok (.aload_n 1, 1) := by decide +kernel
theorem dX2_perform_106 : decode cX2_perform 106 = .ok (.getfield 152, 3) := by decide +kernel
theorem dX2_perform_109 : decode cX2_perform 109 = .ok (.aload_n 1, 1) := by decide +kernel
theorem dX2_perform_110 : decode cX2_perform 110 = .ok (.getfield 155, 3) := by decide +kernel
theorem dX2_perform_113 : decode cX2_perform 113 = .ok (.aload_n 1, 1) := by decide +kernel
theorem dX2_perform_114 : decode cX2_perform 114 = .ok (.getfield 161, 3) := by decide +kernel
theorem dX2_perform_117 : decode cX2_perform 117 = .ok (.aload_n 1, 1) := by decide +kernel
theorem dX2_perform_118 : decode cX2_perform 118 = .ok (.getfield 164, 3) := by decide +kernel
theorem dX2_perform_121 : decode cX2_perform 121 = .ok (.iconst 3, 1) := by decide +kernel
theorem dX2_perform_122 : decode cX2_perform 122 = .ok (.invokevirtual 177, 3) := by decide +kernel
theorem dX2_perform_125 : decode cX2_perform 125 = .ok (.pop, 1) := by decide +kernel
theorem dX2_perform_126 : decode cX2_perform 126 = .ok (.return_, 1) := by decide +kernel
theorem dX3_init_0 : decode cX3_init 0 = .ok (.aload_n 0, 1) := by decide +kernel
theorem dX3_init_1 : decode cX3_init 1 = .ok (.invokespecial 1, 3) := by decide +kernel
theorem dX3_init_4 : decode cX3_init 4 = .ok (.aload_n 0, 1) := by decide +kernel
theorem dX3_init_5 : decode cX3_init 5 = .ok (.bipush 8, 2) := by decide +kernel
theorem dX3_init_7 : decode cX3_init 7 = .ok (.newarray .int, 2) := by decide +kernel
theorem dX3_init_9 : decode cX3_init 9 = .ok (.putfield 7, 3) := by decide +kernel
theorem dX3_init_12 : decode cX3_init 12 = .ok (.aload_n 0, 1) := by decide +kernel
theorem dX3_init_13 : decode cX3_init 13 = .ok (.bipush 8, 2) := by decide +kernel
theorem dX3_init_15 : decode cX3_init 15 = .ok (.newarray .int, 2) := by decide +kernel
theorem dX3_init_17 : decode cX3_init 17 = .ok (.putfield 13, 3) := by decide +kernel
theorem dX3_init_20 : decode cX3_init 20 = .ok (.aload_n 0, 1) := by decide +kernel
theorem dX3_init_21 : decode cX3_init 21 = .ok (.bipush 8, 2) := by decide +kernel
theorem dX3_init_23 : decode cX3_init 23 = .ok (.newarray .int, 2) := by decide +kernel
theorem dX3_init_25 : decode cX3_init 25 = .ok (.putfield 16, 3) := by decide +kernel
theorem dX3_init_28 : decode cX3_init 28 = .ok (.aload_n 0, 1) := by decide +kernel
theorem dX3_init_29 : decode cX3_init 29 = .ok (.sipush 5000, 3) := by decide +kernel
theorem dX3_init_32 : decode cX3_init 32 = .ok (.newarray .int, 2) := by decide +kernel
theorem dX3_init_34 : decode cX3_init 34 = .ok (.putfield 19, 3) := by decide +kernel
theorem dX3_init_37 : decode cX3_init 37 = .ok (.aload_n 0, 1) := by decide +kernel
theorem dX3_init_38 : decode cX3_init 38 = .ok (.sipush 5000, 3) := by decide +kernel
theorem dX3_init_41 : decode cX3_init 41 = .ok (.newarray .int, 2) := by decide +kernel
theorem dX3_init_43 : decode cX3_init 43 = .ok (.putfield 22, 3) := by decide +kernel
theorem dX3_init_46 : decode cX3_init 46 = .ok (.aload_n 0, 1) := by decide +kernel
theorem dX3_init_47 : decode cX3_init 47 = .ok (.ldc 25, 2) := by decide +kernel
theorem dX3_init_49 : decode cX3_init 49 = .ok (.newarray .long, 2) := by decide +kernel
theorem dX3_init_51 : decode cX3_init 51 = .ok (.putfield 26, 3) := by decide +kernel
theorem dX3_init_54 : decode cX3_init 54 = .ok (.aload_n 0, 1) := by decide +kernel
theorem dX3_init_55 : decode cX3_init 55 = .ok (.iconst 5, 1) := by decide +kernel
theorem dX3_init_56 : decode cX3_init 56 = .ok (.newarray .int, 2) := by decide +kernel
theorem dX3_init_58 : decode cX3_init 58 = .ok (.putfield 30, 3) := by decide +kernel
theorem dX3_init_61 : decode cX3_init 61 = .ok (.aload_n 0, 1) := by decide +kernel
theorem dX3_init_62 : decode cX3_init 62 = .ok (.bipush 40, 2) := by decide +kernel
theorem dX3_init_64 : decode cX3_init 64 = .ok (.newarray .int, 2) := by decide +kernel
theorem dX3_init_66 : decode cX3_init 66 = .ok (.putfield 33, 3) := by decide +kernel
theorem dX3_init_69 : decode cX3_init 69 = .ok (.aload_n 0, 1) := by decide +kernel
theorem dX3_init_70 : decode cX3_init 70 = .ok (.bipush 8, 2) := by decide +kernel
theorem dX3_init_72 : decode cX3_init 72 = .ok (.newarray .int, 2) := by decide +kernel
theorem dX3_init_74 : decode cX3_init 74 = .ok (.putfield 36, 3) := by decide +kernel
theorem dX3_init_77 : decode cX3_init 77 = .ok (.return_, 1) := by decide +kernel
theorem dX3_beyond_0 : decode cX3_beyond 0 = .ok (.lload_n 0, 1) := by decide +kernel
theorem dX3_beyond_1 : decode cX3_beyond 1 = .ok (.lload_n 2, 1) := by decide +kernel
theorem dX3_beyond_2 : decode cX3_beyond 2 = .ok (.lcmp, 1) := by decide +kernel
theorem dX3_beyond_3 : decode cX3_beyond 3 = .ok (.ifCond .lt 10, 3) := by decide +kernel
theorem dX3_beyond_6 : decode cX3_beyond 6 = .ok (.lload_n 0, 1) := by decide +kernel
theorem dX3_beyond_7 : decode cX3_beyond 7 = .ok (.lload 4, 2) := by decide +kernel
theorem dX3_beyond_9 : decode cX3_beyond 9 = .ok (.lcmp, 1) := by decide +kernel
theorem dX3_beyond_10 : decode cX3_beyond 10 = .ok (.ifCond .le 7, 3) := by decide +kernel
theorem dX3_beyond_13 : decode cX3_beyond 13 = .ok (.iconst 1, 1) := by decide +kernel
theorem dX3_beyond_14 : decode cX3_beyond 14 = .ok (.goto 4, 3) := by decide +kernel
theorem dX3_beyond_17 : decode cX3_beyond 17 = .ok (.iconst 0, 1) := by decide +kernel
theorem dX3_beyond_18 : decode cX3_beyond 18 = .ok (.ireturn, 1) := by decide +kernel
set_option maxRecDepth 20000 in
theorem ggX3_no_X3_beyond : GoodIn wsX3_no wsX3_beyond := goodIn_r _ [5] (by decide +kernel) (by decide +kernel)
set_option maxRecDepth 20000 in
theorem gX3_no_X3_beyond : GoodIn wsX3_no (va_wsS RX3 41 yX3_beyond wsX3_beyond) := goodIn_app (goodIn_of _ (by decide +kernel)) ggX3_no_X3_beyond
theorem dX3_no_0 : decode cX3_no 0 = .ok (.iload_n 0, 1) := by decide +kernel
theorem dX3_no_1 : decode cX3_no 1 = .ok (.i2l, 1) := by decide +kernel
theorem dX3_no_2 : decode cX3_no 2 = .ok (.lconst 0, 1) := by decide +kernel
theorem dX3_no_3 : decode cX3_no 3 = .ok (.ldc2_w 39, 3) := by decide +kernel
theorem dX3_no_6 : decode cX3_no 6 = .ok (.invokestatic 41, 3) := by decide +kernel
theorem dX3_no_9 : decode cX3_no 9 = .ok (.ireturn, 1) := by decide +kernel
theorem dX3_met1_0 : decode cX3_met1 0 = .ok (.aload_n 0, 1) := by decide +kernel
theorem dX3_met1_1 : decode cX3_met1 1 = .ok (.iload_n 1, 1) := by decide +kernel
theorem dX3_met1_2 : decode cX3_met1 2 = .ok (.putfield 45, 3) := by decide +kernel
theorem dX3_met1_5 : decode cX3_met1 5 = .ok (.aload_n 0, 1) := by decide +kernel
theorem dX3_met1_6 : decode cX3_met1 6 = .ok (.getfield 30, 3) := by decide +kernel
theorem dX3_met1_9 : decode cX3_met1 9 = .ok (.iload_n 1, 1) := by decide +kernel
theorem dX3_met1_10 : decode cX3_met1 10 = .ok (.dup2, 1) := by decide +kernel
theorem dX3_met1_11 : decode cX3_met1 11 = .ok (.iaload, 1) := by decide +kernel
theorem dX3_met1_12 : decode cX3_met1 12 = .ok (.iconst 1, 1) := by decide +kernel
theorem dX3_met1_13 : decode cX3_met1 13 = .ok (.iadd, 1) := by decide +kernel
theorem dX3_met1_14 : decode cX3_met1 14 = .ok (.iastore, 1) := by decide +kernel
theorem dX3_met1_15 : decode cX3_met1 15 = .ok (.aload_n 0, 1) := by decide +kernel
theorem dX3_met1_16 : decode cX3_met1 16 = .ok (.getfield 30, 3) := by decide +kernel
theorem dX3_met1_19 : decode cX3_met1 19 = .ok (.iconst 0, 1) := by decide +kernel
theorem dX3_met1_20 : decode cX3_met1 20 = .ok (.dup2, 1) := by decide +kernel
theorem dX3_met1_21 : decode cX3_met1 21 = .ok (.iaload, 1) := by decide +kernel
theorem dX3_met1_22 : decode cX3_met1 22 = .ok (.iconst 1, 1) := by decide +kernel
theorem dX3_met1_23 : decode cX3_met1 23 = .ok (.iadd, 1) := by decide +kernel
theorem dX3_met1_24 : decode cX3_met1 24 = .ok (.iastore, 1) := by decide +kernel
theorem dX3_met1_25 : decode cX3_met1 25 = .ok (.iload_n 1, 1) := by decide +kernel
theorem dX3_met1_26 : decode cX3_met1 26 = .ok (.ireturn, 1) := by decide +kernel
set_option maxRecDepth 20000 in
theorem ggX3_answer_X3_met1 : GoodIn wsX3_answer wsX3_met1 := goodIn_r _ [5, 6, 7, 8, 9, 10, 11, 12, 13, 14, 15, 16, 17, 18, 19, 20, 21, 22, 23, 24, 25] (by decide +kernel) (by decide +kernel)
set_option maxRecDepth 20000 in
theorem gX3_answer_X3_met1 : GoodIn wsX3_answer (wsV RX3 49 RX3 yX3_met1 wsX3_met1) := goodIn_app (goodIn_of _ (by decide +kernel)) ggX3_answer_X3_met1
theorem dX3_answer_0 : decode cX3_answer 0 = .ok (.iload_n 1, 1) := by decide +kernel
theorem dX3_answer_1 : decode cX3_answer 1 = .ok (.ifCond .le 14, 3) := by decide +kernel
theorem dX3_answer_4 : decode cX3_answer 4 = .ok (.bipush (-10), 2) := by decide +kernel
theorem dX3_answer_6 : decode cX3_answer 6 = .ok (.aload_n 0, 1) := by decide +kernel
theorem dX3_answer_7 : decode cX3_answer 7 = .ok (.iload_n 1, 1) := by decide +kernel
theorem dX3_answer_8 : decode cX3_answer 8 = .ok (.invokevirtual 49, 3) := by decide +kernel
theorem dX3_answer_11 : decode cX3_answer 11 = .ok (.isub, 1) := by decide +kernel
theorem dX3_answer_12 : decode cX3_answer 12 = .ok (.goto 4, 3) := by decide +kernel
theorem dX3_answer_15 : decode cX3_answer 15 = .ok (.iload_n 2, 1) := by decide +kernel
theorem dX3_answer_16 : decode cX3_answer 16 = .ok (.ireturn, 1) := by decide +kernel
set_option maxRecDepth 20000 in
theorem ggX3_row_X3_no : GoodIn wsX3_row wsX3_no := goodIn_r _ [12, 13, 14, 15, 11, 16] (by decide +kernel) (by decide +kernel)
set_option maxRecDepth 20000 in
theorem gX3_row_X3_no : GoodIn wsX3_row (va_wsS RX3 53 yX3_no wsX3_no) := goodIn_app (goodIn_of _ (by decide +kernel)) ggX3_row_X3_no
set_option maxRecDepth 20000 in
theorem ggX3_row_X3_beyond : GoodIn wsX3_row wsX3_beyond := goodIn_r _ [16] (by decide +kernel) (by decide +kernel)
set_option maxRecDepth 20000 in
theorem gX3_row_X3_beyond : GoodIn wsX3_row (va_wsS RX3 41 yX3_beyond wsX3_beyond) := goodIn_app (goodIn_of _ (by decide +kernel)) ggX3_row_X3_beyond
theorem dX3_row_0 : decode cX3_row 0 = .ok (.iload_n 1, 1) := by decide +kernel
theorem dX3_row_1 : decode cX3_row 1 = .ok (.invokestatic 53, 3) := by decide +kernel
theorem dX3_row_4 : decode cX3_row 4 = .ok (.ifCond .eq 5, 3) := by decide +kernel
theorem dX3_row_7 : decode cX3_row 7 = .ok (.iconst (-1), 1) := by decide +kernel
theorem dX3_row_8 : decode cX3_row 8 = .ok (.ireturn, 1) := by decide +kernel
theorem dX3_row_9 : decode cX3_row 9 = .ok (.iload_n 2, 1) := by decide +kernel
theorem dX3_row_10 : decode cX3_row 10 = .ok (.i2l, 1) := by decide +kernel
theorem dX3_row_11 : decode cX3_row 11 = .ok (.lconst 0, 1) := by decide +kernel
theorem dX3_row_12 : decode cX3_row 12 = .ok (.ldc2_w 57, 3) := by decide +kernel
theorem dX3_row_15 : decode cX3_row 15 = .ok (.invokestatic 41, 3) := by decide +kernel
theorem dX3_row_18 : decode cX3_row 18 = .ok (.ifCond .ne 15, 3) := by decide +kernel
theorem dX3_row_21 : decode cX3_row 21 = .ok (.iload_n 3, 1) := by decide +kernel
theorem dX3_row_22 : decode cX3_row 22 = .ok (.i2l, 1) := by decide +kernel
theorem dX3_row_23 : decode cX3_row 23 = .ok (.lconst 0, 1) := by decide +kernel
theorem dX3_row_24 : decode cX3_row 24 = .ok (.ldc2_w 59, 3) := by decide +kernel
theorem dX3_row_27 : decode cX3_row 27 = .ok (.invokestatic 41, 3) := by decide +kernel
theorem dX3_row_30 : decode cX3_row 30 = .ok (.ifCond .eq 6, 3) := by decide +kernel
theorem dX3_row_33 : decode cX3_row 33 = .ok (.bipush (-2), 2) := by decide +kernel
theorem dX3_row_35 : decode cX3_row 35 = .ok (.ireturn, 1) := by decide +kernel
theorem dX3_row_36 : decode cX3_row 36 = .ok (.aload_n 0, 1) := by decide +kernel
theorem dX3_row_37 : decode cX3_row 37 = .ok (.getfield 7, 3) := by decide +kernel
theorem dX3_row_40 : decode cX3_row 40 = .ok (.iload_n 1, 1) := by decide +kernel
theorem dX3_row_41 : decode cX3_row 41 = .ok (.iconst 2, 1) := by decide +kernel
theorem dX3_row_42 : decode cX3_row 42 = .ok (.iastore, 1) := by decide +kernel
theorem dX3_row_43 : decode cX3_row 43 = .ok (.aload_n 0, 1) := by decide +kernel
theorem dX3_row_44 : decode cX3_row 44 = .ok (.getfield 16, 3) := by decide +kernel
theorem dX3_row_47 : decode cX3_row 47 = .ok (.iload_n 1, 1) := by decide +kernel
theorem dX3_row_48 : decode cX3_row 48 = .ok (.aload_n 0, 1) := by decide +kernel
theorem dX3_row_49 : decode cX3_row 49 = .ok (.getfield 61, 3) := by decide +kernel
theorem dX3_row_52 : decode cX3_row 52 = .ok (.iastore, 1) := by decide +kernel
theorem dX3_row_53 : decode cX3_row 53 = .ok (.aload_n 0, 1) := by decide +kernel
theorem dX3_row_54 : decode cX3_row 54 = .ok (.getfield 19, 3) := by decide +kernel
theorem dX3_row_57 : decode cX3_row 57 = .ok (.aload_n 0, 1) := by decide +kernel
theorem dX3_row_58 : decode cX3_row 58 = .ok (.getfield 61, 3) := by decide +kernel
theorem dX3_row_61 : decode cX3_row 61 = .ok (.iload_n 2, 1) := by decide +kernel
theorem dX3_row_62 : decode cX3_row 62 = .ok (.iastore, 1) := by decide +kernel
theorem dX3_row_63 : decode cX3_row 63 = .ok (.aload_n 0, 1) := by decide +kernel
theorem dX3_row_64 : decode cX3_row 64 = .ok (.getfield 22, 3) := by decide +kernel
theorem dX3_row_67 : decode cX3_row 67 = .ok (.aload_n 0, 1) := by decide +kernel
theorem dX3_row_68 : decode cX3_row 68 = .ok (.getfield 61, 3) := by decide +kernel
theorem dX3_row_71 : decode cX3_row 71 = .ok (.iload_n 3, 1) := by decide +kernel
theorem dX3_row_72 : decode cX3_row 72 = .ok (.iastore, 1) := by decide +kernel
theorem dX3_row_73 : decode cX3_row 73 = .ok (.iconst 0, 1) := by decide +kernel
theorem dX3_row_74 : decode cX3_row 74 = .ok (.istore 4, 2) := by decide +kernel
theorem dX3_row_76 : decode cX3_row 76 = .ok (.iload 4, 2) := by decide +kernel
theorem dX3_row_78 : decode cX3_row 78 = .ok (.bipush 12, 2) := by decide +kernel
theorem dX3_row_80 : decode cX3_row 80 = .ok (.if_icmp .ge 25, 3) := by decide +kernel
theorem dX3_row_83 : decode cX3_row 83 = .ok (.aload_n 0, 1) := by decide +kernel
theorem dX3_row_84 : decode cX3_row 84 = .ok (.getfield 26, 3) := by decide +kernel
theorem dX3_row_87 : decode cX3_row 87 = .ok (.bipush 12, 2) := by decide +kernel
theorem dX3_row_89 : decode cX3_row 89 = .ok (.aload_n 0, 1) := by decide +kernel
theorem dX3_row_90 : decode cX3_row 90 = .ok (.getfield 61, 3) := by decide +kernel
theorem dX3_row_93 : decode cX3_row 93 = .ok (.imul, 1) := by decide +kernel
theorem dX3_row_94 : decode cX3_row 94 = .ok (.iload 4, 2) := by decide +kernel
theorem dX3_row_96 : decode cX3_row 96 = .ok (.iadd, 1) := by decide +kernel
theorem dX3_row_97 : decode cX3_row 97 = .ok (.lconst 0, 1) := by decide +kernel
theorem dX3_row_98 : decode cX3_row 98 = .ok (.lastore, 1) := by decide +kernel
theorem dX3_row_99 : decode cX3_row 99 = .ok (.iinc 4 1, 3) := by decide +kernel
theorem dX3_row_102 : decode cX3_row 102 = .ok (.goto (-26), 3) := by decide +kernel
theorem dX3_row_105 : decode cX3_row 105 = .ok (.aload_n 0, 1) := by decide +kernel
theorem dX3_row_106 : decode cX3_row 106 = .ok (.dup, 1) := by decide +kernel
theorem dX3_row_107 : decode cX3_row 107 = .ok (.getfield 61, 3) := by decide +kernel
theorem dX3_row_110 : decode cX3_row 110 = .ok (.iconst 1, 1) := by decide +kernel
theorem dX3_row_111 : decode cX3_row 111 = .ok (.iadd, 1) := by decide +kernel
theorem dX3_row_112 : decode cX3_row 112 = .ok (.putfield 61, 3) := by decide +kernel
theorem dX3_row_115 : decode cX3_row 115 = .ok (.iload_n 3, 1) := by decide +kernel
theorem dX3_row_116 : decode cX3_row 116 = .ok (.ireturn, 1) := by decide +kernel
set_option maxRecDepth 20000 in
theorem ggX3_note_X3_no : GoodIn wsX3_note wsX3_no := goodIn_r _ [6, 7, 8, 9, 5, 10] (by decide +kernel) (by decide +kernel)
set_option maxRecDepth 20000 in
theorem gX3_note_X3_no : GoodIn wsX3_note (va_wsS RX3 53 yX3_no wsX3_no) := goodIn_app (goodIn_of _ (by decide +kernel)) ggX3_note_X3_no
theorem dX3_note_0 : decode cX3_note 0 = .ok (.iload_n 1, 1) := by decide +kernel
theorem dX3_note_1 : decode cX3_note 1 = .ok (.invokestatic 53, 3) := by decide +kernel
theorem dX3_note_4 : decode cX3_note 4 = .ok (.ifCond .eq 5, 3) := by decide +kernel
theorem dX3_note_7 : decode cX3_note 7 = .ok (.iconst (-1), 1) := by decide +kernel
theorem dX3_note_8 : decode cX3_note 8 = .ok (.ireturn, 1) := by decide +kernel
theorem dX3_note_9 : decode cX3_note 9 = .ok (.aload_n 0, 1) := by decide +kernel
theorem dX3_note_10 : decode cX3_note 10 = .ok (.getfield 7, 3) := by decide +kernel
theorem dX3_note_13 : decode cX3_note 13 = .ok (.iload_n 1, 1) := by decide +kernel
theorem dX3_note_14 : decode cX3_note 14 = .ok (.iconst 1, 1) := by decide +kernel
theorem dX3_note_15 : decode cX3_note 15 = .ok (.iastore, 1) := by decide +kernel
theorem dX3_note_16 : decode cX3_note 16 = .ok (.aload_n 0, 1) := by decide +kernel
theorem dX3_note_17 : decode cX3_note 17 = .ok (.getfield 13, 3) := by decide +kernel
theorem dX3_note_20 : decode cX3_note 20 = .ok (.iload_n 1, 1) := by decide +kernel
theorem dX3_note_21 : decode cX3_note 21 = .ok (.iload_n 2, 1) := by decide +kernel
theorem dX3_note_22 : decode cX3_note 22 = .ok (.iastore, 1) := by decide +kernel
theorem dX3_note_23 : decode cX3_note 23 = .ok (.iconst 1, 1) := by decide +kernel
theorem dX3_note_24 : decode cX3_note 24 = .ok (.ireturn, 1) := by decide +kernel
set_option maxRecDepth 20000 in
theorem ggX3_share_X3_no : GoodIn wsX3_share wsX3_no := goodIn_r _ [7, 8, 9, 10, 6, 11] (by decide +kernel) (by decide +kernel)
set_option maxRecDepth 20000 in
theorem gX3_share_X3_no : GoodIn wsX3_share (va_wsS RX3 53 yX3_no wsX3_no) := goodIn_app (goodIn_of _ (by decide +kernel)) ggX3_share_X3_no
theorem dX3_share_0 : decode cX3_share 0 = .ok (.iload_n 1, 1) := by decide +kernel
theorem dX3_share_1 : decode cX3_share 1 = .ok (.invokestatic 53, 3) := by decide +kernel
theorem dX3_share_4 : decode cX3_share 4 = .ok (.ifCond .ne 10, 3) := by decide +kernel
theorem dX3_share_7 : decode cX3_share 7 = .ok (.iload_n 2, 1) := by decide +kernel
theorem dX3_share_8 : decode cX3_share 8 = .ok (.invokestatic 53, 3) := by decide +kernel
theorem dX3_share_11 : decode cX3_share 11 = .ok (.ifCond .eq 5, 3) := by decide +kernel
theorem dX3_share_14 : decode cX3_share 14 = .ok (.iconst (-1), 1) := by decide +kernel
theorem dX3_share_15 : decode cX3_share 15 = .ok (.ireturn, 1) := by decide +kernel
theorem dX3_share_16 : decode cX3_share 16 = .ok (.aload_n 0, 1) := by decide +kernel
theorem dX3_share_17 : decode cX3_share 17 = .ok (.getfield 7, 3) := by decide +kernel
theorem dX3_share_20 : decode cX3_share 20 = .ok (.iload_n 1, 1) := by decide +kernel
theorem dX3_share_21 : decode cX3_share 21 = .ok (.aload_n 0, 1) := by decide +kernel
theorem dX3_share_22 : decode cX3_share 22 = .ok (.getfield 7, 3) := by decide +kernel
theorem dX3_share_25 : decode cX3_share 25 = .ok (.iload_n 2, 1) := by decide +kernel
theorem dX3_share_26 : decode cX3_share 26 = .ok (.iaload, 1) := by decide +kernel
theorem dX3_share_27 : decode cX3_share 27 = .ok (.iastore, 1) := by decide +kernel
theorem dX3_share_28 : decode cX3_share 28 = .ok (.aload_n 0, 1) := by decide +kernel
theorem dX3_share_29 : decode cX3_share 29 = .ok (.getfield 13, 3) := by decide +kernel
theorem dX3_share_32 : decode cX3_share 32 = .ok (.iload_n 1, 1) := by decide +kernel
theorem dX3_share_33 : decode cX3_share 33 = .ok (.aload_n 0, 1) := by decide +kernel
theorem dX3_share_34 : decode cX3_share 34 = .ok (.getfield 13, 3) := by decide +kernel
theorem dX3_share_37 : decode cX3_share 37 = .ok (.iload_n 2, 1) := by decide +kernel
theorem dX3_share_38 : decode cX3_share 38 = .ok (.iaload, 1) := by decide +kernel
theorem dX3_share_39 : decode cX3_share 39 = .ok (.iastore, 1) := by decide +kernel
theorem dX3_share_40 : decode cX3_share 40 = .ok (.aload_n 0, 1) := by decide +kernel
theorem dX3_share_41 : decode cX3_share 41 = .ok (.getfield 16, 3) := by decide +kernel
theorem dX3_share_44 : decode cX3_share 44 = .ok (.iload_n 1, 1) := by decide +kernel
theorem dX3_share_45 : decode cX3_share 45 = .ok (.aload_n 0, 1) := by decide +kernel
theorem dX3_share_46 : decode cX3_share 46 = .ok (.getfield 16, 3) := by decide +kernel
theorem dX3_share_49 : decode cX3_share 49 = .ok (.iload_n 2, 1) := by decide +kernel
theorem dX3_share_50 : decode cX3_share 50 = .ok (.iaload, 1) := by decide +kernel
theorem dX3_share_51 : decode cX3_share 51 = .ok (.iastore, 1) := by decide +kernel
theorem dX3_share_52 : decode cX3_share 52 = .ok (.iconst 1, 1) := by decide +kernel
theorem dX3_share_53 : decode cX3_share 53 = .ok (.ireturn, 1) := by decide +kernel
set_option maxRecDepth 20000 in
theorem ggX3_clear_X3_no : GoodIn wsX3_clear wsX3_no := goodIn_r _ [5, 6, 7, 8, 4, 9] (by decide +kernel) (by decide +kernel)
set_option maxRecDepth 20000 in
theorem gX3_clear_X3_no : GoodIn wsX3_clear (va_wsS RX3 53 yX3_no wsX3_no) := goodIn_app (goodIn_of _ (by decide +kernel)) ggX3_clear_X3_no
theorem dX3_clear_0 : decode cX3_clear 0 = .ok (.iload_n 1, 1) := by decide +kernel
theorem dX3_clear_1 : decode cX3_clear 1 = .ok (.invokestatic 53, 3) := by decide +kernel
theorem dX3_clear_4 : decode cX3_clear 4 = .ok (.ifCond .eq 5, 3) := by decide +kernel
theorem dX3_clear_7 : decode cX3_clear 7 = .ok (.iconst (-1), 1) := by decide +kernel
theorem dX3_clear_8 : decode cX3_clear 8 = .ok (.ireturn, 1) := by decide +kernel
theorem dX3_clear_9 : decode cX3_clear 9 = .ok (.aload_n 0, 1) := by decide +kernel
theorem dX3_clear_10 : decode cX3_clear 10 = .ok (.getfield 7, 3) := by decide +kernel
theorem dX3_clear_13 : decode cX3_clear 13 = .ok (.iload_n 1, 1) := by decide +kernel
theorem dX3_clear_14 : decode cX3_clear 14 = .ok (.iaload, 1) := by decide +kernel
theorem dX3_clear_15 : decode cX3_clear 15 = .ok (.ifCond .le 7, 3) := by decide +kernel
theorem dX3_clear_18 : decode cX3_clear 18 = .ok (.iconst 1, 1) := by decide +kernel
theorem dX3_clear_19 : decode cX3_clear 19 = .ok (.goto 4, 3) := by decide +kernel
theorem dX3_clear_22 : decode cX3_clear 22 = .ok (.iconst 0, 1) := by decide +kernel
theorem dX3_clear_23 : decode cX3_clear 23 = .ok (.istore_n 2, 1) := by decide +kernel
theorem dX3_clear_24 : decode cX3_clear 24 = .ok (.aload_n 0, 1) := by decide +kernel
theorem dX3_clear_25 : decode cX3_clear 25 = .ok (.getfield 7, 3) := by decide +kernel
theorem dX3_clear_28 : decode cX3_clear 28 = .ok (.iload_n 1, 1) := by decide +kernel
theorem dX3_clear_29 : decode cX3_clear 29 = .ok (.iconst 0, 1) := by decide +kernel
theorem dX3_clear_30 : decode cX3_clear 30 = .ok (.iastore, 1) := by decide +kernel
theorem dX3_clear_31 : decode cX3_clear 31 = .ok (.iload_n 2, 1) := by decide +kernel
theorem dX3_clear_32 : decode cX3_clear 32 = .ok (.ireturn, 1) := by decide +kernel
set_option maxRecDepth 20000 in
theorem ggX3_think_X3_beyond : GoodIn wsX3_think wsX3_beyond := goodIn_r _ [8] (by decide +kernel) (by decide +kernel)
set_option maxRecDepth 20000 in
theorem gX3_think_X3_beyond : GoodIn wsX3_think (va_wsS RX3 41 yX3_beyond wsX3_beyond) := goodIn_app (goodIn_of _ (by decide +kernel)) ggX3_think_X3_beyond
theorem dX3_think_0 : decode cX3_think 0 = .ok (.iload_n 1, 1) := by decide +kernel
theorem dX3_think_1 : decode cX3_think 1 = .ok (.i2l, 1) := by decide +kernel
theorem dX3_think_2 : decode cX3_think 2 = .ok (.lconst 0, 1) := by decide +kernel
theorem dX3_think_3 : decode cX3_think 3 = .ok (.ldc2_w 64, 3) := by decide +kernel
theorem dX3_think_6 : decode cX3_think 6 = .ok (.invokestatic 41, 3) := by decide +kernel
theorem dX3_think_9 : decode cX3_think 9 = .ok (.ifCond .eq 6, 3) := by decide +kernel
theorem dX3_think_12 : decode cX3_think 12 = .ok (.bipush (-2), 2) := by decide +kernel
theorem dX3_think_14 : decode cX3_think 14 = .ok (.ireturn, 1) := by decide +kernel
theorem dX3_think_15 : decode cX3_think 15 = .ok (.aload_n 0, 1) := by decide +kernel
theorem dX3_think_16 : decode cX3_think 16 = .ok (.iconst 1, 1) := by decide +kernel
theorem dX3_think_17 : decode cX3_think 17 = .ok (.putfield 66, 3) := by decide +kernel
theorem dX3_think_20 : decode cX3_think 20 = .ok (.aload_n 0, 1) := by decide +kernel
theorem dX3_think_21 : decode cX3_think 21 = .ok (.iload_n 1, 1) := by decide +kernel
theorem dX3_think_22 : decode cX3_think 22 = .ok (.putfield 70, 3) := by decide +kernel
theorem dX3_think_25 : decode cX3_think 25 = .ok (.aload_n 0, 1) := by decide +kernel
theorem dX3_think_26 : decode cX3_think 26 = .ok (.iload_n 1, 1) := by decide +kernel
theorem dX3_think_27 : decode cX3_think 27 = .ok (.ifCond .ne 10, 3) := by decide +kernel
theorem dX3_think_30 : decode cX3_think 30 = .ok (.lload_n 2, 1) := by decide +kernel
theorem dX3_think_31 : decode cX3_think 31 = .ok (.l2i, 1) := by decide +kernel
theorem dX3_think_32 : decode cX3_think 32 = .ok (.i2b, 1) := by decide +kernel
theorem dX3_think_33 : decode cX3_think 33 = .ok (.i2l, 1) := by decide +kernel
theorem dX3_think_34 : decode cX3_think 34 = .ok (.goto 58, 3) := by decide +kernel
theorem dX3_think_37 : decode cX3_think 37 = .ok (.iload_n 1, 1) := by decide +kernel
theorem dX3_think_38 : decode cX3_think 38 = .ok (.iconst 1, 1) := by decide +kernel
theorem dX3_think_39 : decode cX3_think 39 = .ok (.if_icmp .ne 10, 3) := by decide +kernel
theorem dX3_think_42 : decode cX3_think 42 = .ok (.lload_n 2, 1) := by decide +kernel
theorem dX3_think_43 : decode cX3_think 43 = .ok (.l2i, 1) := by decide +kernel
theorem dX3_think_44 : decode cX3_think 44 = .ok (.i2s, 1) := by decide +kernel
theorem dX3_think_45 : decode cX3_think 45 = .ok (.i2l, 1) := by decide +kernel
theorem dX3_think_46 : decode cX3_think 46 = .ok (.goto 46, 3) := by decide +kernel
theorem dX3_think_49 : decode cX3_think 49 = .ok (.iload_n 1, 1) := by decide +kernel
theorem dX3_think_50 : decode cX3_think 50 = .ok (.iconst 2, 1) := by decide +kernel
theorem dX3_think_51 : decode cX3_think 51 = .ok (.if_icmp .ne 10, 3) := by decide +kernel
theorem dX3_think_54 : decode cX3_think 54 = .ok (.lload_n 2, 1) := by decide +kernel
theorem dX3_think_55 : decode cX3_think 55 = .ok (.l2i, 1) := by decide +kernel
theorem dX3_think_56 : decode cX3_think 56 = .ok (.i2c, 1) := by decide +kernel
theorem dX3_think_57 : decode cX3_think 57 = .ok (.i2l, 1) := by decide +kernel
theorem dX3_think_58 : decode cX3_think 58 = .ok (.goto 34, 3) := by decide +kernel
theorem dX3_think_61 : decode cX3_think 61 = .ok (.iload_n 1, 1) := by decide +kernel
theorem dX3_think_62 : decode cX3_think 62 = .ok (.iconst 3, 1) := by decide +kernel
theorem dX3_think_63 : decode cX3_think 63 = .ok (.if_icmp .ne 9, 3) := by decide +kernel
theorem dX3_think_66 : decode cX3_think 66 = .ok (.lload_n 2, 1) := by decide +kernel
theorem dX3_think_67 : decode cX3_think 67 = .ok (.l2i, 1) := by decide +kernel
theorem dX3_think_68 : decode cX3_think 68 = .ok (.i2l, 1) := by decide +kernel
theorem dX3_think_69 : decode cX3_think 69 = .ok (.goto 23, 3) := by decide +kernel
theorem dX3_think_72 : decode cX3_think 72 = .ok (.iload_n 1, 1) := by decide +kernel
theorem dX3_think_73 : decode cX3_think 73 = .ok (.iconst 4, 1) := by decide +kernel
theorem dX3_think_74 : decode cX3_think 74 = .ok (.if_icmp .ne 7, 3) := by decide +kernel
theorem dX3_think_77 : decode cX3_think 77 = .ok (.lload_n 2, 1) := by decide +kernel
theorem dX3_think_78 : decode cX3_think 78 = .ok (.goto 14, 3) := by decide +kernel
theorem dX3_think_81 : decode cX3_think 81 = .ok (.lload_n 2, 1) := by decide +kernel
theorem dX3_think_82 : decode cX3_think 82 = .ok (.lconst 0, 1) := by decide +kernel
theorem dX3_think_83 : decode cX3_think 83 = .ok (.lcmp, 1) := by decide +kernel
theorem dX3_think_84 : decode cX3_think 84 = .ok (.ifCond .eq 7, 3) := by decide +kernel
theorem dX3_think_87 : decode cX3_think 87 = .ok (.lconst 1, 1) := by decide +kernel
theorem dX3_think_88 : decode cX3_think 88 = .ok (.goto 4, 3) := by decide +kernel
theorem dX3_think_91 : decode cX3_think 91 = .ok (.lconst 0, 1) := by decide +kernel
theorem dX3_think_92 : decode cX3_think 92 = .ok (.putfield 73, 3) := by decide +kernel
theorem dX3_think_95 : decode cX3_think 95 = .ok (.iconst 1, 1) := by decide +kernel
theorem dX3_think_96 : decode cX3_think 96 = .ok (.ireturn, 1) := by decide +kernel
theorem dX3_card_0 : decode cX3_card 0 = .ok (.aload_n 0, 1) := by decide +kernel
theorem dX3_card_1 : decode cX3_card 1 = .ok (.getfield 77, 3) := by decide +kernel
theorem dX3_card_4 : decode cX3_card 4 = .ok (.bipush 30, 2) := by decide +kernel
theorem dX3_card_6 : decode cX3_card 6 = .ok (.if_icmp .ne 6, 3) := by decide +kernel
theorem dX3_card_9 : decode cX3_card 9 = .ok (.bipush (-3), 2) := by decide +kernel
theorem dX3_card_11 : decode cX3_card 11 = .ok (.ireturn, 1) := by decide +kernel
theorem dX3_card_12 : decode cX3_card 12 = .ok (.aload_n 0, 1) := by decide +kernel
theorem dX3_card_13 : decode cX3_card 13 = .ok (.dup, 1) := by decide +kernel
theorem dX3_card_14 : decode cX3_card 14 = .ok (.getfield 77, 3) := by decide +kernel
theorem dX3_card_17 : decode cX3_card 17 = .ok (.iconst 1, 1) := by decide +kernel
theorem dX3_card_18 : decode cX3_card 18 = .ok (.iadd, 1) := by decide +kernel
theorem dX3_card_19 : decode cX3_card 19 = .ok (.putfield 77, 3) := by decide +kernel
theorem dX3_card_22 : decode cX3_card 22 = .ok (.aload_n 0, 1) := by decide +kernel
theorem dX3_card_23 : decode cX3_card 23 = .ok (.iconst 1, 1) := by decide +kernel
theorem dX3_card_24 : decode cX3_card 24 = .ok (.putfield 66, 3) := by decide +kernel
theorem dX3_card_27 : decode cX3_card 27 = .ok (.aload_n 0, 1) := by decide +kernel
theorem dX3_card_28 : decode cX3_card 28 = .ok (.bipush 6, 2) := by decide +kernel
theorem dX3_card_30 : decode cX3_card 30 = .ok (.putfield 70, 3) := by decide +kernel
theorem dX3_card_33 : decode cX3_card 33 = .ok (.aload_n 0, 1) := by decide +kernel
theorem dX3_card_34 : decode cX3_card 34 = .ok (.aload_n 0, 1) := by decide +kernel
theorem dX3_card_35 : decode cX3_card 35 = .ok (.getfield 77, 3) := by decide +kernel
theorem dX3_card_38 : decode cX3_card 38 = .ok (.i2l, 1) := by decide +kernel
theorem dX3_card_39 : decode cX3_card 39 = .ok (.putfield 73, 3) := by decide +kernel
theorem dX3_card_42 : decode cX3_card 42 = .ok (.aload_n 0, 1) := by decide +kernel
theorem dX3_card_43 : decode cX3_card 43 = .ok (.getfield 77, 3) := by decide +kernel
theorem dX3_card_46 : decode cX3_card 46 = .ok (.ireturn, 1) := by decide +kernel
set_option maxRecDepth 20000 in
theorem ggX3_drop_X3_hand : GoodIn wsX3_drop wsX3_hand := goodIn_r _ [6, 1, 7, 8, 9, 10, 11, 12, 13, 14, 15, 16, 17, 18, 19, 20, 21, 22, 23, 24, 25] (by decide +kernel) (by decide +kernel)
set_option maxRecDepth 20000 in
theorem gX3_drop_X3_hand : GoodIn wsX3_drop (wsV RX3 80 RX3 yX3_hand wsX3_hand) := goodIn_app (goodIn_of _ (by decide +kernel)) ggX3_drop_X3_hand
theorem dX3_drop_0 : decode cX3_drop 0 = .ok (.aload_n 0, 1) := by decide +kernel
theorem dX3_drop_1 : decode cX3_drop 1 = .ok (.invokevirtual 80, 3) := by decide +kernel
theorem dX3_drop_4 : decode cX3_drop 4 = .ok (.istore_n 1, 1) := by decide +kernel
theorem dX3_drop_5 : decode cX3_drop 5 = .ok (.aload_n 0, 1) := by decide +kernel
theorem dX3_drop_6 : decode cX3_drop 6 = .ok (.iconst 0, 1) := by decide +kernel
theorem dX3_drop_7 : decode cX3_drop 7 = .ok (.putfield 66, 3) := by decide +kernel
theorem dX3_drop_10 : decode cX3_drop 10 = .ok (.iload_n 1, 1) := by decide +kernel
theorem dX3_drop_11 : decode cX3_drop 11 = .ok (.ireturn, 1) := by decide +kernel
theorem dX3_rowFault_0 : decode cX3_rowFault 0 = .ok (.aload_n 0, 1) := by decide +kernel
theorem dX3_rowFault_1 : decode cX3_rowFault 1 = .ok (.getfield 7, 3) := by decide +kernel
theorem dX3_rowFault_4 : decode cX3_rowFault 4 = .ok (.iload_n 1, 1) := by decide +kernel
theorem dX3_rowFault_5 : decode cX3_rowFault 5 = .ok (.iaload, 1) := by decide +kernel
theorem dX3_rowFault_6 : decode cX3_rowFault 6 = .ok (.ifCond .ne 7, 3) := by decide +kernel
theorem dX3_rowFault_9 : decode cX3_rowFault 9 = .ok (.iconst 1, 1) := by decide +kernel
theorem dX3_rowFault_10 : decode cX3_rowFault 10 = .ok (.goto 18, 3) := by decide +kernel
theorem dX3_rowFault_13 : decode cX3_rowFault 13 = .ok (.aload_n 0, 1) := by decide +kernel
theorem dX3_rowFault_14 : decode cX3_rowFault 14 = .ok (.getfield 7, 3) := by decide +kernel
theorem dX3_rowFault_17 : decode cX3_rowFault 17 = .ok (.iload_n 1, 1) := by decide +kernel
theorem dX3_rowFault_18 : decode cX3_rowFault 18 = .ok (.iaload, 1) := by decide +kernel
theorem dX3_rowFault_19 : decode cX3_rowFault 19 = .ok (.iconst 1, 1) := by decide +kernel
theorem dX3_rowFault_20 : decode cX3_rowFault 20 = .ok (.if_icmp .ne 7, 3) := by decide +kernel
theorem dX3_rowFault_23 : decode cX3_rowFault 23 = .ok (.iconst 2, 1) := by decide +kernel
theorem dX3_rowFault_24 : decode cX3_rowFault 24 = .ok (.goto 4, 3) := by decide +kernel
theorem dX3_rowFault_27 : decode cX3_rowFault 27 = .ok (.iconst 0, 1) := by decide +kernel
theorem dX3_rowFault_28 : decode cX3_rowFault 28 = .ok (.ireturn, 1) := by decide +kernel
set_option maxRecDepth 20000 in
theorem ggX3_come_X3_rowFault : GoodIn wsX3_come wsX3_rowFault := goodIn_r _ [7, 8, 12, 13, 14, 15, 16, 17, 18, 19, 20, 21, 22, 23, 24, 25, 26, 27, 28, 29] (by decide +kernel) (by decide +kernel)
set_option maxRecDepth 20000 in
theorem gX3_come_X3_rowFault : GoodIn wsX3_come (wsV RX3 84 RX3 yX3_rowFault wsX3_rowFault) := goodIn_app (goodIn_of _ (by decide +kernel)) ggX3_come_X3_rowFault
set_option maxRecDepth 20000 in
theorem ggX3_come_X3_beyond : GoodIn wsX3_come wsX3_beyond := goodIn_r _ [11] (by decide +kernel) (by decide +kernel)
set_option maxRecDepth 20000 in
theorem gX3_come_X3_beyond : GoodIn wsX3_come (va_wsS RX3 41 yX3_beyond wsX3_beyond) := goodIn_app (goodIn_of _ (by decide +kernel)) ggX3_come_X3_beyond
theorem dX3_come_0 : decode cX3_come 0 = .ok (.aload_n 0, 1) := by decide +kernel
theorem dX3_come_1 : decode cX3_come 1 = .ok (.iload_n 1, 1) := by decide +kernel
theorem dX3_come_2 : decode cX3_come 2 = .ok (.invokevirtual 84, 3) := by decide +kernel
theorem dX3_come_5 : decode cX3_come 5 = .ok (.istore_n 3, 1) := by decide +kernel
theorem dX3_come_6 : decode cX3_come 6 = .ok (.iload_n 3, 1) := by decide +kernel
theorem dX3_come_7 : decode cX3_come 7 = .ok (.ifCond .le 7, 3) := by decide +kernel
theorem dX3_come_10 : decode cX3_come 10 = .ok (.iload_n 3, 1) := by decide +kernel
theorem dX3_come_11 : decode cX3_come 11 = .ok (.goto 31, 3) := by decide +kernel
theorem dX3_come_14 : decode cX3_come 14 = .ok (.iload_n 2, 1) := by decide +kernel
theorem dX3_come_15 : decode cX3_come 15 = .ok (.i2l, 1) := by decide +kernel
theorem dX3_come_16 : decode cX3_come 16 = .ok (.lconst 0, 1) := by decide +kernel
theorem dX3_come_17 : decode cX3_come 17 = .ok (.aload_n 0, 1) := by decide +kernel
theorem dX3_come_18 : decode cX3_come 18 = .ok (.getfield 22, 3) := by decide +kernel
theorem dX3_come_21 : decode cX3_come 21 = .ok (.aload_n 0, 1) := by decide +kernel
theorem dX3_come_22 : decode cX3_come 22 = .ok (.getfield 16, 3) := by decide +kernel
theorem dX3_come_25 : decode cX3_come 25 = .ok (.iload_n 1, 1) := by decide +kernel
theorem dX3_come_26 : decode cX3_come 26 = .ok (.iaload, 1) := by decide +kernel
theorem dX3_come_27 : decode cX3_come 27 = .ok (.iaload, 1) := by decide +kernel
theorem dX3_come_28 : decode cX3_come 28 = .ok (.iconst 1, 1) := by decide +kernel
theorem dX3_come_29 : decode cX3_come 29 = .ok (.isub, 1) := by decide +kernel
theorem dX3_come_30 : decode cX3_come 30 = .ok (.i2l, 1) := by decide +kernel
theorem dX3_come_31 : decode cX3_come 31 = .ok (.invokestatic 41, 3) := by decide +kernel
theorem dX3_come_34 : decode cX3_come 34 = .ok (.ifCond .eq 7, 3) := by decide +kernel
theorem dX3_come_37 : decode cX3_come 37 = .ok (.iconst 3, 1) := by decide +kernel
theorem dX3_come_38 : decode cX3_come 38 = .ok (.goto 4, 3) := by decide +kernel
theorem dX3_come_41 : decode cX3_come 41 = .ok (.iconst 0, 1) := by decide +kernel
theorem dX3_come_42 : decode cX3_come 42 = .ok (.ireturn, 1) := by decide +kernel
theorem dX3_at_0 : decode cX3_at 0 = .ok (.bipush 12, 2) := by decide +kernel
theorem dX3_at_2 : decode cX3_at 2 = .ok (.aload_n 0, 1) := by decide +kernel
theorem dX3_at_3 : decode cX3_at 3 = .ok (.getfield 16, 3) := by decide +kernel
theorem dX3_at_6 : decode cX3_at 6 = .ok (.iload_n 1, 1) := by decide +kernel
theorem dX3_at_7 : decode cX3_at 7 = .ok (.iaload, 1) := by decide +kernel
theorem dX3_at_8 : decode cX3_at 8 = .ok (.imul, 1) := by decide +kernel
theorem dX3_at_9 : decode cX3_at 9 = .ok (.iload_n 2, 1) := by decide +kernel
theorem dX3_at_10 : decode cX3_at 10 = .ok (.iadd, 1) := by decide +kernel
theorem dX3_at_11 : decode cX3_at 11 = .ok (.ireturn, 1) := by decide +kernel
set_option maxRecDepth 20000 in
theorem ggX3_isEmpty_X3_at : GoodIn wsX3_isEmpty wsX3_at := goodIn_r _ [8, 2, 9, 10, 11, 12, 13, 14, 15, 16, 17, 18, 19, 20, 21, 22, 23, 24, 25, 26] (by decide +kernel) (by decide +kernel)
set_option maxRecDepth 20000 in
theorem gX3_isEmpty_X3_at : GoodIn wsX3_isEmpty (wsV RX3 87 RX3 yX3_at wsX3_at) := goodIn_app (goodIn_of _ (by decide +kernel)) ggX3_isEmpty_X3_at
theorem dX3_isEmpty_0 : decode cX3_isEmpty 0 = .ok (.aload_n 0, 1) := by decide +kernel
theorem dX3_isEmpty_1 : decode cX3_isEmpty 1 = .ok (.getfield 19, 3) := by decide +kernel
theorem dX3_isEmpty_4 : decode cX3_isEmpty 4 = .ok (.aload_n 0, 1) := by decide +kernel
theorem dX3_isEmpty_5 : decode cX3_isEmpty 5 = .ok (.getfield 16, 3) := by decide +kernel
theorem dX3_isEmpty_8 : decode cX3_isEmpty 8 = .ok (.iload_n 1, 1) := by decide +kernel
theorem dX3_isEmpty_9 : decode cX3_isEmpty 9 = .ok (.iaload, 1) := by decide +kernel
theorem dX3_isEmpty_10 : decode cX3_isEmpty 10 = .ok (.iaload, 1) := by decide +kernel
theorem dX3_isEmpty_11 : decode cX3_isEmpty 11 = .ok (.bipush 6, 2) := by decide +kernel
theorem dX3_isEmpty_13 : decode cX3_isEmpty 13 = .ok (.if_icmp .ne 23, 3) := by decide +kernel
theorem dX3_isEmpty_16 : decode cX3_isEmpty 16 = .ok (.aload_n 0, 1) := by decide +kernel
theorem dX3_isEmpty_17 : decode cX3_isEmpty 17 = .ok (.getfield 26, 3) := by decide +kernel
theorem dX3_isEmpty_20 : decode cX3_isEmpty 20 = .ok (.aload_n 0, 1) := by decide +kernel
theorem dX3_isEmpty_21 : decode cX3_isEmpty 21 = .ok (.iload_n 1, 1) := by decide +kernel
theorem dX3_isEmpty_22 : decode cX3_isEmpty 22 = .ok (.iload_n 2, 1) := by decide +kernel
theorem dX3_isEmpty_23 : decode cX3_isEmpty 23 = .ok (.invokevirtual 87, 3) := by decide +kernel
theorem dX3_isEmpty_26 : decode cX3_isEmpty 26 = .ok (.laload, 1) := by decide +kernel
theorem dX3_isEmpty_27 : decode cX3_isEmpty 27 = .ok (.lconst 0, 1) := by decide +kernel
theorem dX3_isEmpty_28 : decode cX3_isEmpty 28 = .ok (.lcmp, 1) := by decide +kernel
theorem dX3_isEmpty_29 : decode cX3_isEmpty 29 = .ok (.ifCond .ne 7, 3) := by decide +kernel
theorem dX3_isEmpty_32 : decode cX3_isEmpty 32 = .ok (.iconst 1, 1) := by decide +kernel
theorem dX3_isEmpty_33 : decode cX3_isEmpty 33 = .ok (.goto 4, 3) := by decide +kernel
theorem dX3_isEmpty_36 : decode cX3_isEmpty 36 = .ok (.iconst 0, 1) := by decide +kernel
theorem dX3_isEmpty_37 : decode cX3_isEmpty 37 = .ok (.ireturn, 1) := by decide +kernel
theorem dX3_fits_0 : decode cX3_fits 0 = .ok (.iload_n 0, 1) := by decide +kernel
theorem dX3_fits_1 : decode cX3_fits 1 = .ok (.ifCond .lt 8, 3) := by decide +kernel
theorem dX3_fits_4 : decode cX3_fits 4 = .ok (.iload_n 0, 1) := by decide +kernel
theorem dX3_fits_5 : decode cX3_fits 5 = .ok (.iload_n 1, 1) := by decide +kernel
theorem dX3_fits_6 : decode cX3_fits 6 = .ok (.if_icmp .ne 20, 3) := by decide +kernel
theorem dX3_fits_9 : decode cX3_fits 9 = .ok (.iload_n 0, 1) := by decide +kernel
theorem dX3_fits_10 : decode cX3_fits 10 = .ok (.iload_n 1, 1) := by decide +kernel
theorem dX3_fits_11 : decode cX3_fits 11 = .ok (.if_icmp .eq 9, 3) := by decide +kernel
theorem dX3_fits_14 : decode cX3_fits 14 = .ok (.iload_n 1, 1) := by decide +kernel
theorem dX3_fits_15 : decode cX3_fits 15 = .ok (.bipush 6, 2) := by decide +kernel
theorem dX3_fits_17 : decode cX3_fits 17 = .ok (.if_icmp .ne 7, 3) := by decide +kernel
theorem dX3_fits_20 : decode cX3_fits 20 = .ok (.iconst 1, 1) := by decide +kernel
theorem dX3_fits_21 : decode cX3_fits 21 = .ok (.goto 4, 3) := by decide +kernel
theorem dX3_fits_24 : decode cX3_fits 24 = .ok (.iconst 0, 1) := by decide +kernel
theorem dX3_fits_25 : decode cX3_fits 25 = .ok (.ireturn, 1) := by decide +kernel
theorem dX3_fits_26 : decode cX3_fits 26 = .ok (.iload_n 0, 1) := by decide +kernel
theorem dX3_fits_27 : decode cX3_fits 27 = .ok (.tableswitch 77 0 3 #[29, 50, 50, 66], 29) := by decide +kernel
theorem dX3_fits_56 : decode cX3_fits 56 = .ok (.iload_n 1, 1) := by decide +kernel
theorem dX3_fits_57 : decode cX3_fits 57 = .ok (.iconst 1, 1) := by decide +kernel
theorem dX3_fits_58 : decode cX3_fits 58 = .ok (.if_icmp .eq 13, 3) := by decide +kernel
theorem dX3_fits_61 : decode cX3_fits 61 = .ok (.iload_n 1, 1) := by decide +kernel
theorem dX3_fits_62 : decode cX3_fits 62 = .ok (.iconst 3, 1) := by decide +kernel
theorem dX3_fits_63 : decode cX3_fits 63 = .ok (.if_icmp .eq 8, 3) := by decide +kernel
theorem dX3_fits_66 : decode cX3_fits 66 = .ok (.iload_n 1, 1) := by decide +kernel
theorem dX3_fits_67 : decode cX3_fits 67 = .ok (.iconst 4, 1) := by decide +kernel
theorem dX3_fits_68 : decode cX3_fits 68 = .ok (.if_icmp .ne 7, 3) := by decide +kernel
theorem dX3_fits_71 : decode cX3_fits 71 = .ok (.iconst 1, 1) := by decide +kernel
theorem dX3_fits_72 : decode cX3_fits 72 = .ok (.goto 4, 3) := by decide +kernel
theorem dX3_fits_75 : decode cX3_fits 75 = .ok (.iconst 0, 1) := by decide +kernel
theorem dX3_fits_76 : decode cX3_fits 76 = .ok (.ireturn, 1) := by decide +kernel
theorem dX3_fits_77 : decode cX3_fits 77 = .ok (.iload_n 1, 1) := by decide +kernel
theorem dX3_fits_78 : decode cX3_fits 78 = .ok (.iconst 3, 1) := by decide +kernel
theorem dX3_fits_79 : decode cX3_fits 79 = .ok (.if_icmp .eq 8, 3) := by decide +kernel
theorem dX3_fits_82 : decode cX3_fits 82 = .ok (.iload_n 1, 1) := by decide +kernel
theorem dX3_fits_83 : decode cX3_fits 83 = .ok (.iconst 4, 1) := by decide +kernel
theorem dX3_fits_84 : decode cX3_fits 84 = .ok (.if_icmp .ne 7, 3) := by decide +kernel
theorem dX3_fits_87 : decode cX3_fits 87 = .ok (.iconst 1, 1) := by decide +kernel
theorem dX3_fits_88 : decode cX3_fits 88 = .ok (.goto 4, 3) := by decide +kernel
theorem dX3_fits_91 : decode cX3_fits 91 = .ok (.iconst 0, 1) := by decide +kernel
theorem dX3_fits_92 : decode cX3_fits 92 = .ok (.ireturn, 1) := by decide +kernel
theorem dX3_fits_93 : decode cX3_fits 93 = .ok (.iload_n 1, 1) := by decide +kernel
theorem dX3_fits_94 : decode cX3_fits 94 = .ok (.iconst 4, 1) := by decide +kernel
theorem dX3_fits_95 : decode cX3_fits 95 = .ok (.if_icmp .ne 7, 3) := by decide +kernel
theorem dX3_fits_98 : decode cX3_fits 98 = .ok (.iconst 1, 1) := by decide +kernel
theorem dX3_fits_99 : decode cX3_fits 99 = .ok (.goto 4, 3) := by decide +kernel
theorem dX3_fits_102 : decode cX3_fits 102 = .ok (.iconst 0, 1) := by decide +kernel
theorem dX3_fits_103 : decode cX3_fits 103 = .ok (.ireturn, 1) := by decide +kernel
theorem dX3_fits_104 : decode cX3_fits 104 = .ok (.iconst 0, 1) := by decide +kernel
theorem dX3_fits_105 : decode cX3_fits 105 = .ok (.ireturn, 1) := by decide +kernel
set_option maxRecDepth 20000 in
theorem ggX3_laying_X3_come : GoodIn wsX3_laying wsX3_come := goodIn_r _ [7, 8, 2, 9, 10, 11, 6, 12, 13, 14, 15, 16, 20, 21, 22, 23, 24, 25, 26, 27, 28, 29, 30, 31, 32, 33, 34, 35, 36, 37] (by decide +kernel) (by decide +kernel)
set_option maxRecDepth 20000 in
theorem gX3_laying_X3_come : GoodIn wsX3_laying (wsV RX3 91 RX3 yX3_come wsX3_come) := goodIn_app (goodIn_of _ (by decide +kernel)) ggX3_laying_X3_come
set_option maxRecDepth 20000 in
theorem ggX3_laying_X3_fits : GoodIn wsX3_laying wsX3_fits := goodIn_r _ [19] (by decide +kernel) (by decide +kernel)
set_option maxRecDepth 20000 in
theorem gX3_laying_X3_fits : GoodIn wsX3_laying (va_wsS RX3 94 yX3_fits wsX3_fits) := goodIn_app (goodIn_of _ (by decide +kernel)) ggX3_laying_X3_fits
theorem dX3_laying_0 : decode cX3_laying 0 = .ok (.aload_n 0, 1) := by decide +kernel
theorem dX3_laying_1 : decode cX3_laying 1 = .ok (.iload_n 1, 1) := by decide +kernel
theorem dX3_laying_2 : decode cX3_laying 2 = .ok (.iload_n 2, 1) := by decide +kernel
theorem dX3_laying_3 : decode cX3_laying 3 = .ok (.invokevirtual 91, 3) := by decide +kernel
theorem dX3_laying_6 : decode cX3_laying 6 = .ok (.istore 4, 2) := by decide +kernel
theorem dX3_laying_8 : decode cX3_laying 8 = .ok (.iload 4, 2) := by decide +kernel
theorem dX3_laying_10 : decode cX3_laying 10 = .ok (.ifCond .le 8, 3) := by decide +kernel
theorem dX3_laying_13 : decode cX3_laying 13 = .ok (.iload 4, 2) := by decide +kernel
theorem dX3_laying_15 : decode cX3_laying 15 = .ok (.goto 26, 3) := by decide +kernel
theorem dX3_laying_18 : decode cX3_laying 18 = .ok (.iload_n 3, 1) := by decide +kernel
theorem dX3_laying_19 : decode cX3_laying 19 = .ok (.aload_n 0, 1) := by decide +kernel
theorem dX3_laying_20 : decode cX3_laying 20 = .ok (.getfield 19, 3) := by decide +kernel
theorem dX3_laying_23 : decode cX3_laying 23 = .ok (.aload_n 0, 1) := by decide +kernel
theorem dX3_laying_24 : decode cX3_laying 24 = .ok (.getfield 16, 3) := by decide +kernel
theorem dX3_laying_27 : decode cX3_laying 27 = .ok (.iload_n 1, 1) := by decide +kernel
theorem dX3_laying_28 : decode cX3_laying 28 = .ok (.iaload, 1) := by decide +kernel
theorem dX3_laying_29 : decode cX3_laying 29 = .ok (.iaload, 1) := by decide +kernel
theorem dX3_laying_30 : decode cX3_laying 30 = .ok (.invokestatic 94, 3) := by decide +kernel
theorem dX3_laying_33 : decode cX3_laying 33 = .ok (.ifCond .eq 7, 3) := by decide +kernel
theorem dX3_laying_36 : decode cX3_laying 36 = .ok (.iconst 0, 1) := by decide +kernel
theorem dX3_laying_37 : decode cX3_laying 37 = .ok (.goto 4, 3) := by decide +kernel
theorem dX3_laying_40 : decode cX3_laying 40 = .ok (.iconst 4, 1) := by decide +kernel
theorem dX3_laying_41 : decode cX3_laying 41 = .ok (.ireturn, 1) := by decide +kernel
set_option maxRecDepth 20000 in
theorem ggX3_kindAt_X3_isEmpty : GoodIn wsX3_kindAt wsX3_isEmpty := goodIn_r _ [7, 1, 2, 8, 9, 10, 11, 6, 12, 13, 14, 15, 16, 17, 18, 19, 20, 21, 22, 23, 24, 25, 26, 27, 28, 29, 30] (by decide +kernel) (by decide +kernel)
set_option maxRecDepth 20000 in
theorem gX3_kindAt_X3_isEmpty : GoodIn wsX3_kindAt (wsV RX3 98 RX3 yX3_isEmpty wsX3_isEmpty) := goodIn_app (goodIn_of _ (by decide +kernel)) ggX3_kindAt_X3_isEmpty
theorem dX3_kindAt_0 : decode cX3_kindAt 0 = .ok (.aload_n 0, 1) := by decide +kernel
theorem dX3_kindAt_1 : decode cX3_kindAt 1 = .ok (.iload_n 1, 1) := by decide +kernel
theorem dX3_kindAt_2 : decode cX3_kindAt 2 = .ok (.iload_n 2, 1) := by decide +kernel
theorem dX3_kindAt_3 : decode cX3_kindAt 3 = .ok (.invokevirtual 98, 3) := by decide +kernel
theorem dX3_kindAt_6 : decode cX3_kindAt 6 = .ok (.ifCond .eq 7, 3) := by decide +kernel
theorem dX3_kindAt_9 : decode cX3_kindAt 9 = .ok (.iconst (-1), 1) := by decide +kernel
theorem dX3_kindAt_10 : decode cX3_kindAt 10 = .ok (.goto 14, 3) := by decide +kernel
theorem dX3_kindAt_13 : decode cX3_kindAt 13 = .ok (.aload_n 0, 1) := by decide +kernel
theorem dX3_kindAt_14 : decode cX3_kindAt 14 = .ok (.getfield 19, 3) := by decide +kernel
theorem dX3_kindAt_17 : decode cX3_kindAt 17 = .ok (.aload_n 0, 1) := by decide +kernel
theorem dX3_kindAt_18 : decode cX3_kindAt 18 = .ok (.getfield 16, 3) := by decide +kernel
theorem dX3_kindAt_21 : decode cX3_kindAt 21 = .ok (.iload_n 1, 1) := by decide +kernel
theorem dX3_kindAt_22 : decode cX3_kindAt 22 = .ok (.iaload, 1) := by decide +kernel
theorem dX3_kindAt_23 : decode cX3_kindAt 23 = .ok (.iaload, 1) := by decide +kernel
theorem dX3_kindAt_24 : decode cX3_kindAt 24 = .ok (.ireturn, 1) := by decide +kernel
set_option maxRecDepth 20000 in
theorem ggX3_taking_X3_come : GoodIn wsX3_taking wsX3_come := goodIn_r _ [11, 12, 3, 13, 14, 15, 10, 16, 17, 18, 19, 20, 29, 30, 31, 32, 33, 34, 35, 36, 37, 38, 39, 40, 41, 42, 43, 44, 45, 46] (by decide +kernel) (by decide +kernel)
set_option maxRecDepth 20000 in
theorem gX3_taking_X3_come : GoodIn wsX3_taking (wsV RX3 91 RX3 yX3_come wsX3_come) := goodIn_app (goodIn_of _ (by decide +kernel)) ggX3_taking_X3_come
set_option maxRecDepth 20000 in
theorem ggX3_taking_X3_isEmpty : GoodIn wsX3_taking wsX3_isEmpty := goodIn_r _ [24, 2, 3, 5, 25, 26, 27, 10, 28, 29, 30, 31, 32, 33, 34, 35, 36, 37, 38, 39, 40, 41, 42, 43, 44, 45, 46] (by decide +kernel) (by decide +kernel)
set_option maxRecDepth 20000 in
theorem gX3_taking_X3_isEmpty : GoodIn wsX3_taking (wsV RX3 98 RX3 yX3_isEmpty wsX3_isEmpty) := goodIn_app (goodIn_of _ (by decide +kernel)) ggX3_taking_X3_isEmpty
set_option maxRecDepth 20000 in
theorem ggX3_taking_X3_at : GoodIn wsX3_taking wsX3_at := goodIn_r _ [28, 3, 29, 30, 31, 32, 33, 34, 35, 36, 37, 38, 39, 40, 41, 42, 43, 44, 45, 46] (by decide +kernel) (by decide +kernel)
set_option maxRecDepth 20000 in
theorem gX3_taking_X3_at : GoodIn wsX3_taking (wsV RX3 87 RX3 yX3_at wsX3_at) := goodIn_app (goodIn_of _ (by decide +kernel)) ggX3_taking_X3_at
theorem dX3_taking_0 : decode cX3_taking 0 = .ok (.aload_n 0, 1) := by decide +kernel
theorem dX3_taking_1 : decode cX3_taking 1 = .ok (.iload_n 1, 1) := by decide +kernel
theorem dX3_taking_2 : decode cX3_taking 2 = .ok (.iload_n 2, 1) := by decide +kernel
theorem dX3_taking_3 : decode cX3_taking 3 = .ok (.invokevirtual 91, 3) := by decide +kernel
theorem dX3_taking_6 : decode cX3_taking 6 = .ok (.istore_n 3, 1) := by decide +kernel
theorem dX3_taking_7 : decode cX3_taking 7 = .ok (.iload_n 3, 1) := by decide +kernel
theorem dX3_taking_8 : decode cX3_taking 8 = .ok (.ifCond .ne 51, 3) := by decide +kernel
theorem dX3_taking_11 : decode cX3_taking 11 = .ok (.aload_n 0, 1) := by decide +kernel
theorem dX3_taking_12 : decode cX3_taking 12 = .ok (.aload_n 0, 1) := by decide +kernel
theorem dX3_taking_13 : decode cX3_taking 13 = .ok (.iload_n 1, 1) := by decide +kernel
theorem dX3_taking_14 : decode cX3_taking 14 = .ok (.iload_n 2, 1) := by decide +kernel
theorem dX3_taking_15 : decode cX3_taking 15 = .ok (.invokevirtual 98, 3) := by decide +kernel
theorem dX3_taking_18 : decode cX3_taking 18 = .ok (.ifCond .ne 7, 3) := by decide +kernel
theorem dX3_taking_21 : decode cX3_taking 21 = .ok (.iconst 1, 1) := by decide +kernel
theorem dX3_taking_22 : decode cX3_taking 22 = .ok (.goto 4, 3) := by decide +kernel
theorem dX3_taking_25 : decode cX3_taking 25 = .ok (.iconst 0, 1) := by decide +kernel
theorem dX3_taking_26 : decode cX3_taking 26 = .ok (.putfield 66, 3) := by decide +kernel
theorem dX3_taking_29 : decode cX3_taking 29 = .ok (.aload_n 0, 1) := by decide +kernel
theorem dX3_taking_30 : decode cX3_taking 30 = .ok (.aload_n 0, 1) := by decide +kernel
theorem dX3_taking_31 : decode cX3_taking 31 = .ok (.getfield 19, 3) := by decide +kernel
theorem dX3_taking_34 : decode cX3_taking 34 = .ok (.aload_n 0, 1) := by decide +kernel
theorem dX3_taking_35 : decode cX3_taking 35 = .ok (.getfield 16, 3) := by decide +kernel
theorem dX3_taking_38 : decode cX3_taking 38 = .ok (.iload_n 1, 1) := by decide +kernel
theorem dX3_taking_39 : decode cX3_taking 39 = .ok (.iaload, 1) := by decide +kernel
theorem dX3_taking_40 : decode cX3_taking 40 = .ok (.iaload, 1) := by decide +kernel
theorem dX3_taking_41 : decode cX3_taking 41 = .ok (.putfield 70, 3) := by decide +kernel
theorem dX3_taking_44 : decode cX3_taking 44 = .ok (.aload_n 0, 1) := by decide +kernel
theorem dX3_taking_45 : decode cX3_taking 45 = .ok (.aload_n 0, 1) := by decide +kernel
theorem dX3_taking_46 : decode cX3_taking 46 = .ok (.getfield 26, 3) := by decide +kernel
theorem dX3_taking_49 : decode cX3_taking 49 = .ok (.aload_n 0, 1) := by decide +kernel
theorem dX3_taking_50 : decode cX3_taking 50 = .ok (.iload_n 1, 1) := by decide +kernel
theorem dX3_taking_51 : decode cX3_taking 51 = .ok (.iload_n 2, 1) := by decide +kernel
theorem dX3_taking_52 : decode cX3_taking 52 = .ok (.invokevirtual 87, 3) := by decide +kernel
theorem dX3_taking_55 : decode cX3_taking 55 = .ok (.laload, 1) := by decide +kernel
theorem dX3_taking_56 : decode cX3_taking 56 = .ok (.putfield 73, 3) := by decide +kernel
theorem dX3_taking_59 : decode cX3_taking 59 = .ok (.iload_n 3, 1) := by decide +kernel
theorem dX3_taking_60 : decode cX3_taking 60 = .ok (.ireturn, 1) := by decide +kernel
set_option maxRecDepth 20000 in
theorem ggX3_take_X3_no : GoodIn wsX3_take wsX3_no := goodIn_r _ [4, 5, 6, 7, 3, 8] (by decide +kernel) (by decide +kernel)
set_option maxRecDepth 20000 in
theorem gX3_take_X3_no : GoodIn wsX3_take (va_wsS RX3 53 yX3_no wsX3_no) := goodIn_app (goodIn_of _ (by decide +kernel)) ggX3_take_X3_no
set_option maxRecDepth 20000 in
theorem ggX3_take_X3_taking : GoodIn wsX3_take wsX3_taking := goodIn_r _ [12, 13, 14, 15, 16, 17, 18, 19, 20, 21, 3, 22, 23, 24, 25, 26, 27, 28, 6, 7, 8, 29, 30, 31, 32, 33, 34, 35, 36, 51, 52, 53, 54, 55, 56, 57, 58, 59, 60, 61, 62, 63, 64, 65, 66, 67, 68] (by decide +kernel) (by decide +kernel)
set_option maxRecDepth 20000 in
theorem gX3_take_X3_taking : GoodIn wsX3_take (wsV RX3 101 RX3 yX3_taking wsX3_taking) := goodIn_app (goodIn_of _ (by decide +kernel)) ggX3_take_X3_taking
set_option maxRecDepth 20000 in
theorem ggX3_take_X3_hand : GoodIn wsX3_take wsX3_hand := goodIn_r _ [40, 13, 16, 51, 52, 53, 54, 55, 56, 57, 58, 59, 60, 61, 62, 63, 64, 65, 66, 67, 68] (by decide +kernel) (by decide +kernel)
set_option maxRecDepth 20000 in
theorem gX3_take_X3_hand : GoodIn wsX3_take (wsV RX3 80 RX3 yX3_hand wsX3_hand) := goodIn_app (goodIn_of _ (by decide +kernel)) ggX3_take_X3_hand
set_option maxRecDepth 20000 in
theorem ggX3_take_X3_answer : GoodIn wsX3_take wsX3_answer := goodIn_r _ [44, 45, 46, 47, 3, 48, 49, 50, 51, 52, 53, 54, 55, 56, 57, 58, 59, 60, 61, 62, 63, 64, 65, 66, 67, 68] (by decide +kernel) (by decide +kernel)
set_option maxRecDepth 20000 in
theorem gX3_take_X3_answer : GoodIn wsX3_take (wsV RX3 104 RX3 yX3_answer wsX3_answer) := goodIn_app (goodIn_of _ (by decide +kernel)) ggX3_take_X3_answer
theorem dX3_take_0 : decode cX3_take 0 = .ok (.iload_n 1, 1) := by decide +kernel
theorem dX3_take_1 : decode cX3_take 1 = .ok (.invokestatic 53, 3) := by decide +kernel
theorem dX3_take_4 : decode cX3_take 4 = .ok (.ifCond .eq 5, 3) := by decide +kernel
theorem dX3_take_7 : decode cX3_take 7 = .ok (.iconst (-1), 1) := by decide +kernel
theorem dX3_take_8 : decode cX3_take 8 = .ok (.ireturn, 1) := by decide +kernel
theorem dX3_take_9 : decode cX3_take 9 = .ok (.aload_n 0, 1) := by decide +kernel
theorem dX3_take_10 : decode cX3_take 10 = .ok (.iload_n 1, 1) := by decide +kernel
theorem dX3_take_11 : decode cX3_take 11 = .ok (.iload_n 2, 1) := by decide +kernel
theorem dX3_take_12 : decode cX3_take 12 = .ok (.invokevirtual 101, 3) := by decide +kernel
theorem dX3_take_15 : decode cX3_take 15 = .ok (.istore_n 3, 1) := by decide +kernel
theorem dX3_take_16 : decode cX3_take 16 = .ok (.aload_n 0, 1) := by decide +kernel
theorem dX3_take_17 : decode cX3_take 17 = .ok (.iload_n 3, 1) := by decide +kernel
theorem dX3_take_18 : decode cX3_take 18 = .ok (.aload_n 0, 1) := by decide +kernel
theorem dX3_take_19 : decode cX3_take 19 = .ok (.invokevirtual 80, 3) := by decide +kernel
theorem dX3_take_22 : decode cX3_take 22 = .ok (.invokevirtual 104, 3) := by decide +kernel
theorem dX3_take_25 : decode cX3_take 25 = .ok (.ireturn, 1) := by decide +kernel
set_option maxRecDepth 20000 in
theorem ggX3_puts_X3_laying : GoodIn wsX3_puts wsX3_laying := goodIn_r _ [8, 9, 10, 11, 12, 13, 7, 14, 15, 16, 17, 18, 19, 20, 21, 22, 23, 24, 25, 26, 31, 32, 33, 34, 35, 36, 37, 38, 39, 40, 41, 42, 43, 44, 45, 46, 47, 48] (by decide +kernel) (by decide +kernel)
set_option maxRecDepth 20000 in
theorem gX3_puts_X3_laying : GoodIn wsX3_puts (wsV RX3 107 RX3 yX3_laying wsX3_laying) := goodIn_app (goodIn_of _ (by decide +kernel)) ggX3_puts_X3_laying
set_option maxRecDepth 20000 in
theorem ggX3_puts_X3_at : GoodIn wsX3_puts wsX3_at := goodIn_r _ [30, 10, 31, 32, 33, 34, 35, 36, 37, 38, 39, 40, 41, 42, 43, 44, 45, 46, 47, 48] (by decide +kernel) (by decide +kernel)
set_option maxRecDepth 20000 in
theorem gX3_puts_X3_at : GoodIn wsX3_puts (wsV RX3 87 RX3 yX3_at wsX3_at) := goodIn_app (goodIn_of _ (by decide +kernel)) ggX3_puts_X3_at
theorem dX3_puts_0 : decode cX3_puts 0 = .ok (.aload_n 0, 1) := by decide +kernel
theorem dX3_puts_1 : decode cX3_puts 1 = .ok (.iload_n 1, 1) := by decide +kernel
theorem dX3_puts_2 : decode cX3_puts 2 = .ok (.iload_n 2, 1) := by decide +kernel
theorem dX3_puts_3 : decode cX3_puts 3 = .ok (.aload_n 0, 1) := by decide +kernel
theorem dX3_puts_4 : decode cX3_puts 4 = .ok (.getfield 70, 3) := by decide +kernel
theorem dX3_puts_7 : decode cX3_puts 7 = .ok (.invokevirtual 107, 3) := by decide +kernel
theorem dX3_puts_10 : decode cX3_puts 10 = .ok (.istore_n 3, 1) := by decide +kernel
theorem dX3_puts_11 : decode cX3_puts 11 = .ok (.iload_n 3, 1) := by decide +kernel
theorem dX3_puts_12 : decode cX3_puts 12 = .ok (.ifCond .ne 18, 3) := by decide +kernel
theorem dX3_puts_15 : decode cX3_puts 15 = .ok (.aload_n 0, 1) := by decide +kernel
theorem dX3_puts_16 : decode cX3_puts 16 = .ok (.getfield 26, 3) := by decide +kernel
theorem dX3_puts_19 : decode cX3_puts 19 = .ok (.aload_n 0, 1) := by decide +kernel
theorem dX3_puts_20 : decode cX3_puts 20 = .ok (.iload_n 1, 1) := by decide +kernel
theorem dX3_puts_21 : decode cX3_puts 21 = .ok (.iload_n 2, 1) := by decide +kernel
theorem dX3_puts_22 : decode cX3_puts 22 = .ok (.invokevirtual 87, 3) := by decide +kernel
theorem dX3_puts_25 : decode cX3_puts 25 = .ok (.aload_n 0, 1) := by decide +kernel
theorem dX3_puts_26 : decode cX3_puts 26 = .ok (.getfield 73, 3) := by decide +kernel
theorem dX3_puts_29 : decode cX3_puts 29 = .ok (.lastore, 1) := by decide +kernel
theorem dX3_puts_30 : decode cX3_puts 30 = .ok (.iload_n 3, 1) := by decide +kernel
theorem dX3_puts_31 : decode cX3_puts 31 = .ok (.ireturn, 1) := by decide +kernel
set_option maxRecDepth 20000 in
theorem ggX3_lay_X3_no : GoodIn wsX3_lay wsX3_no := goodIn_r _ [5, 6, 7, 8, 4, 9] (by decide +kernel) (by decide +kernel)
set_option maxRecDepth 20000 in
theorem gX3_lay_X3_no : GoodIn wsX3_lay (va_wsS RX3 53 yX3_no wsX3_no) := goodIn_app (goodIn_of _ (by decide +kernel)) ggX3_lay_X3_no
set_option maxRecDepth 20000 in
theorem ggX3_lay_X3_puts : GoodIn wsX3_lay wsX3_puts := goodIn_r _ [13, 14, 15, 16, 17, 18, 19, 4, 20, 21, 22, 23, 24, 25, 26, 27, 28, 29, 30, 31, 32, 7, 8, 9, 33, 34, 35, 36, 37, 38, 39, 50, 51, 52, 53, 54, 55, 56, 57, 58, 59, 60, 61, 62, 63, 64, 65, 66, 67] (by decide +kernel) (by decide +kernel)
set_option maxRecDepth 20000 in
theorem gX3_lay_X3_puts : GoodIn wsX3_lay (wsV RX3 111 RX3 yX3_puts wsX3_puts) := goodIn_app (goodIn_of _ (by decide +kernel)) ggX3_lay_X3_puts
set_option maxRecDepth 20000 in
theorem ggX3_lay_X3_answer : GoodIn wsX3_lay wsX3_answer := goodIn_r _ [43, 44, 45, 46, 4, 47, 48, 49, 50, 51, 52, 53, 54, 55, 56, 57, 58, 59, 60, 61, 62, 63, 64, 65, 66, 67] (by decide +kernel) (by decide +kernel)
set_option maxRecDepth 20000 in
theorem gX3_lay_X3_answer : GoodIn wsX3_lay (wsV RX3 104 RX3 yX3_answer wsX3_answer) := goodIn_app (goodIn_of _ (by decide +kernel)) ggX3_lay_X3_answer
theorem dX3_lay_0 : decode cX3_lay 0 = .ok (.iload_n 1, 1) := by decide +kernel
theorem dX3_lay_1 : decode cX3_lay 1 = .ok (.invokestatic 53, 3) := by decide +kernel
theorem dX3_lay_4 : decode cX3_lay 4 = .ok (.ifCond .eq 5, 3) := by decide +kernel
theorem dX3_lay_7 : decode cX3_lay 7 = .ok (.iconst (-1), 1) := by decide +kernel
theorem dX3_lay_8 : decode cX3_lay 8 = .ok (.ireturn, 1) := by decide +kernel
theorem dX3_lay_9 : decode cX3_lay 9 = .ok (.aload_n 0, 1) := by decide +kernel
theorem dX3_lay_10 : decode cX3_lay 10 = .ok (.getfield 66, 3) := by decide +kernel
theorem dX3_lay_13 : decode cX3_lay 13 = .ok (.ifCond .eq 17, 3) := by decide +kernel
theorem dX3_lay_16 : decode cX3_lay 16 = .ok (.aload_n 0, 1) := by decide +kernel
theorem dX3_lay_17 : decode cX3_lay 17 = .ok (.aload_n 0, 1) := by decide +kernel
theorem dX3_lay_18 : decode cX3_lay 18 = .ok (.iload_n 1, 1) := by decide +kernel
theorem dX3_lay_19 : decode cX3_lay 19 = .ok (.iload_n 2, 1) := by decide +kernel
theorem dX3_lay_20 : decode cX3_lay 20 = .ok (.invokevirtual 111, 3) := by decide +kernel
theorem dX3_lay_23 : decode cX3_lay 23 = .ok (.iconst 1, 1) := by decide +kernel
theorem dX3_lay_24 : decode cX3_lay 24 = .ok (.invokevirtual 104, 3) := by decide +kernel
theorem dX3_lay_27 : decode cX3_lay 27 = .ok (.goto 5, 3) := by decide +kernel
theorem dX3_lay_30 : decode cX3_lay 30 = .ok (.bipush (-3), 2) := by decide +kernel
theorem dX3_lay_32 : decode cX3_lay 32 = .ok (.ireturn, 1) := by decide +kernel
set_option maxRecDepth 20000 in
theorem ggX3_size_X3_no : GoodIn wsX3_size wsX3_no := goodIn_r _ [6, 7, 8, 9, 5, 10] (by decide +kernel) (by decide +kernel)
set_option maxRecDepth 20000 in
theorem gX3_size_X3_no : GoodIn wsX3_size (va_wsS RX3 53 yX3_no wsX3_no) := goodIn_app (goodIn_of _ (by decide +kernel)) ggX3_size_X3_no
set_option maxRecDepth 20000 in
theorem ggX3_size_X3_rowFault : GoodIn wsX3_size wsX3_rowFault := goodIn_r _ [14, 15, 26, 27, 28, 29, 30, 31, 32, 33, 34, 35, 36, 37, 38, 39, 40, 41, 42, 43] (by decide +kernel) (by decide +kernel)
set_option maxRecDepth 20000 in
theorem gX3_size_X3_rowFault : GoodIn wsX3_size (wsV RX3 84 RX3 yX3_rowFault wsX3_rowFault) := goodIn_app (goodIn_of _ (by decide +kernel)) ggX3_size_X3_rowFault
set_option maxRecDepth 20000 in
theorem ggX3_size_X3_answer : GoodIn wsX3_size wsX3_answer := goodIn_r _ [19, 20, 21, 22, 5, 23, 24, 25, 26, 27, 28, 29, 30, 31, 32, 33, 34, 35, 36, 37, 38, 39, 40, 41, 42, 43] (by decide +kernel) (by decide +kernel)
set_option maxRecDepth 20000 in
theorem gX3_size_X3_answer : GoodIn wsX3_size (wsV RX3 104 RX3 yX3_answer wsX3_answer) := goodIn_app (goodIn_of _ (by decide +kernel)) ggX3_size_X3_answer
theorem dX3_size_0 : decode cX3_size 0 = .ok (.iload_n 1, 1) := by decide +kernel
theorem dX3_size_1 : decode cX3_size 1 = .ok (.invokestatic 53, 3) := by decide +kernel
theorem dX3_size_4 : decode cX3_size 4 = .ok (.ifCond .eq 5, 3) := by decide +kernel
theorem dX3_size_7 : decode cX3_size 7 = .ok (.iconst (-1), 1) := by decide +kernel
theorem dX3_size_8 : decode cX3_size 8 = .ok (.ireturn, 1) := by decide +kernel
theorem dX3_size_9 : decode cX3_size 9 = .ok (.aload_n 0, 1) := by decide +kernel
theorem dX3_size_10 : decode cX3_size 10 = .ok (.iload_n 1, 1) := by decide +kernel
theorem dX3_size_11 : decode cX3_size 11 = .ok (.invokevirtual 84, 3) := by decide +kernel
theorem dX3_size_14 : decode cX3_size 14 = .ok (.istore_n 2, 1) := by decide +kernel
theorem dX3_size_15 : decode cX3_size 15 = .ok (.aload_n 0, 1) := by decide +kernel
theorem dX3_size_16 : decode cX3_size 16 = .ok (.iload_n 2, 1) := by decide +kernel
theorem dX3_size_17 : decode cX3_size 17 = .ok (.iload_n 2, 1) := by decide +kernel
theorem dX3_size_18 : decode cX3_size 18 = .ok (.ifCond .le 7, 3) := by decide +kernel
theorem dX3_size_21 : decode cX3_size 21 = .ok (.iconst 0, 1) := by decide +kernel
theorem dX3_size_22 : decode cX3_size 22 = .ok (.goto 14, 3) := by decide +kernel
theorem dX3_size_25 : decode cX3_size 25 = .ok (.aload_n 0, 1) := by decide +kernel
theorem dX3_size_26 : decode cX3_size 26 = .ok (.getfield 22, 3) := by decide +kernel
theorem dX3_size_29 : decode cX3_size 29 = .ok (.aload_n 0, 1) := by decide +kernel
theorem dX3_size_30 : decode cX3_size 30 = .ok (.getfield 16, 3) := by decide +kernel
theorem dX3_size_33 : decode cX3_size 33 = .ok (.iload_n 1, 1) := by decide +kernel
theorem dX3_size_34 : decode cX3_size 34 = .ok (.iaload, 1) := by decide +kernel
theorem dX3_size_35 : decode cX3_size 35 = .ok (.iaload, 1) := by decide +kernel
theorem dX3_size_36 : decode cX3_size 36 = .ok (.invokevirtual 104, 3) := by decide +kernel
theorem dX3_size_39 : decode cX3_size 39 = .ok (.ireturn, 1) := by decide +kernel
set_option maxRecDepth 20000 in
theorem ggX3_pours_X3_come : GoodIn wsX3_pours wsX3_come := goodIn_r _ [7, 8, 9, 10, 11, 12, 6, 13, 14, 15, 16, 17, 38, 39, 40, 41, 42, 43, 44, 45, 46, 47, 48, 49, 50, 51, 52, 53, 54, 55] (by decide +kernel) (by decide +kernel)
set_option maxRecDepth 20000 in
theorem gX3_pours_X3_come : GoodIn wsX3_pours (wsV RX3 91 RX3 yX3_come wsX3_come) := goodIn_app (goodIn_of _ (by decide +kernel)) ggX3_pours_X3_come
set_option maxRecDepth 20000 in
theorem ggX3_pours_X3_kindAt : GoodIn wsX3_pours wsX3_kindAt := goodIn_r _ [21, 22, 9, 23, 24, 25, 6, 26, 2, 27, 28, 29, 30, 38, 39, 40, 41, 42, 43, 44, 45, 46, 47, 48, 49, 50, 51, 52, 53, 54, 55] (by decide +kernel) (by decide +kernel)
set_option maxRecDepth 20000 in
theorem gX3_pours_X3_kindAt : GoodIn wsX3_pours (wsV RX3 117 RX3 yX3_kindAt wsX3_kindAt) := goodIn_app (goodIn_of _ (by decide +kernel)) ggX3_pours_X3_kindAt
set_option maxRecDepth 20000 in
theorem ggX3_pours_X3_laying : GoodIn wsX3_pours wsX3_laying := goodIn_r _ [34, 22, 9, 3, 4, 5, 6, 7, 8, 10, 11, 12, 13, 14, 15, 16, 17, 35, 36, 37, 38, 39, 40, 41, 42, 43, 44, 45, 46, 47, 48, 49, 50, 51, 52, 53, 54, 55] (by decide +kernel) (by decide +kernel)
set_option maxRecDepth 20000 in
theorem gX3_pours_X3_laying : GoodIn wsX3_pours (wsV RX3 107 RX3 yX3_laying wsX3_laying) := goodIn_app (goodIn_of _ (by decide +kernel)) ggX3_pours_X3_laying
set_option maxRecDepth 20000 in
theorem ggX3_pours_X3_at : GoodIn wsX3_pours wsX3_at := goodIn_r _ [30, 9, 38, 39, 40, 41, 42, 43, 44, 45, 46, 47, 48, 49, 50, 51, 52, 53, 54, 55] (by decide +kernel) (by decide +kernel)
set_option maxRecDepth 20000 in
theorem gX3_pours_X3_at : GoodIn wsX3_pours (wsV RX3 87 RX3 yX3_at wsX3_at) := goodIn_app (goodIn_of _ (by decide +kernel)) ggX3_pours_X3_at
theorem dX3_pours_0 : decode cX3_pours 0 = .ok (.aload_n 0, 1) := by decide +kernel
theorem dX3_pours_1 : decode cX3_pours 1 = .ok (.iconst 0, 1) := by decide +kernel
theorem dX3_pours_2 : decode cX3_pours 2 = .ok (.putfield 114, 3) := by decide +kernel
theorem dX3_pours_5 : decode cX3_pours 5 = .ok (.iconst 0, 1) := by decide +kernel
theorem dX3_pours_6 : decode cX3_pours 6 = .ok (.istore 6, 2) := by decide +kernel
theorem dX3_pours_8 : decode cX3_pours 8 = .ok (.iload 6, 2) := by decide +kernel
theorem dX3_pours_10 : decode cX3_pours 10 = .ok (.iload 5, 2) := by decide +kernel
theorem dX3_pours_12 : decode cX3_pours 12 = .ok (.if_icmp .ge 98, 3) := by decide +kernel
theorem dX3_pours_15 : decode cX3_pours 15 = .ok (.aload_n 0, 1) := by decide +kernel
theorem dX3_pours_16 : decode cX3_pours 16 = .ok (.iload_n 1, 1) := by decide +kernel
theorem dX3_pours_17 : decode cX3_pours 17 = .ok (.iload_n 2, 1) := by decide +kernel
theorem dX3_pours_18 : decode cX3_pours 18 = .ok (.iload 6, 2) := by decide +kernel
theorem dX3_pours_20 : decode cX3_pours 20 = .ok (.iadd, 1) := by decide +kernel
theorem dX3_pours_21 : decode cX3_pours 21 = .ok (.invokevirtual 91, 3) := by decide +kernel
theorem dX3_pours_24 : decode cX3_pours 24 = .ok (.istore 7, 2) := by decide +kernel
theorem dX3_pours_26 : decode cX3_pours 26 = .ok (.iload 7, 2) := by decide +kernel
theorem dX3_pours_28 : decode cX3_pours 28 = .ok (.ifCond .le 8, 3) := by decide +kernel
theorem dX3_pours_31 : decode cX3_pours 31 = .ok (.iload 7, 2) := by decide +kernel
theorem dX3_pours_33 : decode cX3_pours 33 = .ok (.goto 22, 3) := by decide +kernel
theorem dX3_pours_36 : decode cX3_pours 36 = .ok (.aload_n 0, 1) := by decide +kernel
theorem dX3_pours_37 : decode cX3_pours 37 = .ok (.iload_n 3, 1) := by decide +kernel
theorem dX3_pours_38 : decode cX3_pours 38 = .ok (.iload 4, 2) := by decide +kernel
theorem dX3_pours_40 : decode cX3_pours 40 = .ok (.iload 6, 2) := by decide +kernel
theorem dX3_pours_42 : decode cX3_pours 42 = .ok (.iadd, 1) := by decide +kernel
theorem dX3_pours_43 : decode cX3_pours 43 = .ok (.aload_n 0, 1) := by decide +kernel
theorem dX3_pours_44 : decode cX3_pours 44 = .ok (.iload_n 1, 1) := by decide +kernel
theorem dX3_pours_45 : decode cX3_pours 45 = .ok (.iload_n 2, 1) := by decide +kernel
theorem dX3_pours_46 : decode cX3_pours 46 = .ok (.iload 6, 2) := by decide +kernel
theorem dX3_pours_48 : decode cX3_pours 48 = .ok (.iadd, 1) := by decide +kernel
theorem dX3_pours_49 : decode cX3_pours 49 = .ok (.invokevirtual 117, 3) := by decide +kernel
theorem dX3_pours_52 : decode cX3_pours 52 = .ok (.invokevirtual 107, 3) := by decide +kernel
theorem dX3_pours_55 : decode cX3_pours 55 = .ok (.istore 7, 2) := by decide +kernel
theorem dX3_pours_57 : decode cX3_pours 57 = .ok (.iload 7, 2) := by decide +kernel
theorem dX3_pours_59 : decode cX3_pours 59 = .ok (.ifCond .le 6, 3) := by decide +kernel
theorem dX3_pours_62 : decode cX3_pours 62 = .ok (.iload 7, 2) := by decide +kernel
theorem dX3_pours_64 : decode cX3_pours 64 = .ok (.ireturn, 1) := by decide +kernel
theorem dX3_pours_65 : decode cX3_pours 65 = .ok (.aload_n 0, 1) := by decide +kernel
theorem dX3_pours_66 : decode cX3_pours 66 = .ok (.getfield 26, 3) := by decide +kernel
theorem dX3_pours_69 : decode cX3_pours 69 = .ok (.aload_n 0, 1) := by decide +kernel
theorem dX3_pours_70 : decode cX3_pours 70 = .ok (.iload_n 3, 1) := by decide +kernel
theorem dX3_pours_71 : decode cX3_pours 71 = .ok (.iload 4, 2) := by decide +kernel
theorem dX3_pours_73 : decode cX3_pours 73 = .ok (.iload 6, 2) := by decide +kernel
theorem dX3_pours_75 : decode cX3_pours 75 = .ok (.iadd, 1) := by decide +kernel
theorem dX3_pours_76 : decode cX3_pours 76 = .ok (.invokevirtual 87, 3) := by decide +kernel
theorem dX3_pours_79 : decode cX3_pours 79 = .ok (.aload_n 0, 1) := by decide +kernel
theorem dX3_pours_80 : decode cX3_pours 80 = .ok (.getfield 26, 3) := by decide +kernel
theorem dX3_pours_83 : decode cX3_pours 83 = .ok (.aload_n 0, 1) := by decide +kernel
theorem dX3_pours_84 : decode cX3_pours 84 = .ok (.iload_n 1, 1) := by decide +kernel
theorem dX3_pours_85 : decode cX3_pours 85 = .ok (.iload_n 2, 1) := by decide +kernel
theorem dX3_pours_86 : decode cX3_pours 86 = .ok (.iload 6, 2) := by decide +kernel
theorem dX3_pours_88 : decode cX3_pours 88 = .ok (.iadd, 1) := by decide +kernel
theorem dX3_pours_89 : decode cX3_pours 89 = .ok (.invokevirtual 87, 3) := by decide +kernel
theorem dX3_pours_92 : decode cX3_pours 92 = .ok (.laload, 1) := by decide +kernel
theorem dX3_pours_93 : decode cX3_pours 93 = .ok (.lastore, 1) := by decide +kernel
theorem dX3_pours_94 : decode cX3_pours 94 = .ok (.aload_n 0, 1) := by decide +kernel
theorem dX3_pours_95 : decode cX3_pours 95 = .ok (.dup, 1) := by decide +kernel
theorem dX3_pours_96 : decode cX3_pours 96 = .ok (.getfield 114, 3) := by decide +kernel
theorem dX3_pours_99 : decode cX3_pours 99 = .ok (.iconst 1, 1) := by decide +kernel
theorem dX3_pours_100 : decode cX3_pours 100 = .ok (.iadd, 1) := by decide +kernel
theorem dX3_pours_101 : decode cX3_pours 101 = .ok (.putfield 114, 3) := by decide +kernel
theorem dX3_pours_104 : decode cX3_pours 104 = .ok (.iinc 6 1, 3) := by decide +kernel
theorem dX3_pours_107 : decode cX3_pours 107 = .ok (.goto (-99), 3) := by decide +kernel
theorem dX3_pours_110 : decode cX3_pours 110 = .ok (.iconst 0, 1) := by decide +kernel
theorem dX3_pours_111 : decode cX3_pours 111 = .ok (.ireturn, 1) := by decide +kernel
set_option maxRecDepth 20000 in
theorem ggX3_pour_X3_no : GoodIn wsX3_pour wsX3_no := goodIn_r _ [7, 8, 9, 10, 6, 11] (by decide +kernel) (by decide +kernel)
set_option maxRecDepth 20000 in
theorem gX3_pour_X3_no : GoodIn wsX3_pour (va_wsS RX3 53 yX3_no wsX3_no) := goodIn_app (goodIn_of _ (by decide +kernel)) ggX3_pour_X3_no
set_option maxRecDepth 20000 in
theorem ggX3_pour_X3_beyond : GoodIn wsX3_pour wsX3_beyond := goodIn_r _ [11] (by decide +kernel) (by decide +kernel)
set_option maxRecDepth 20000 in
theorem gX3_pour_X3_beyond : GoodIn wsX3_pour (va_wsS RX3 41 yX3_beyond wsX3_beyond) := goodIn_app (goodIn_of _ (by decide +kernel)) ggX3_pour_X3_beyond
set_option maxRecDepth 20000 in
theorem ggX3_pour_X3_pours : GoodIn wsX3_pour wsX3_pours := goodIn_r _ [15, 3, 16, 17, 18, 19, 6, 20, 21, 22, 23, 24, 25, 26, 27, 9, 10, 11, 28, 29, 30, 31, 32, 33, 34, 35, 36, 37, 38, 39, 40, 41, 42, 43, 44, 45, 46, 47, 54, 55, 56, 57, 58, 59, 60, 61, 62, 63, 64, 65, 66, 67, 68, 69, 70, 71] (by decide +kernel) (by decide +kernel)
set_option maxRecDepth 20000 in
theorem gX3_pour_X3_pours : GoodIn wsX3_pour (wsV RX3 122 RX3 yX3_pours wsX3_pours) := goodIn_app (goodIn_of _ (by decide +kernel)) ggX3_pour_X3_pours
set_option maxRecDepth 20000 in
theorem ggX3_pour_X3_met1 : GoodIn wsX3_pour wsX3_met1 := goodIn_r _ [51, 52, 53, 54, 55, 56, 57, 58, 59, 60, 61, 62, 63, 64, 65, 66, 67, 68, 69, 70, 71] (by decide +kernel) (by decide +kernel)
set_option maxRecDepth 20000 in
theorem gX3_pour_X3_met1 : GoodIn wsX3_pour (wsV RX3 49 RX3 yX3_met1 wsX3_met1) := goodIn_app (goodIn_of _ (by decide +kernel)) ggX3_pour_X3_met1
theorem dX3_pour_0 : decode cX3_pour 0 = .ok (.iload_n 1, 1) := by decide +kernel
theorem dX3_pour_1 : decode cX3_pour 1 = .ok (.invokestatic 53, 3) := by decide +kernel
theorem dX3_pour_4 : decode cX3_pour 4 = .ok (.ifCond .ne 10, 3) := by decide +kernel
theorem dX3_pour_7 : decode cX3_pour 7 = .ok (.iload_n 3, 1) := by decide +kernel
theorem dX3_pour_8 : decode cX3_pour 8 = .ok (.invokestatic 53, 3) := by decide +kernel
theorem dX3_pour_11 : decode cX3_pour 11 = .ok (.ifCond .eq 5, 3) := by decide +kernel
theorem dX3_pour_14 : decode cX3_pour 14 = .ok (.iconst (-1), 1) := by decide +kernel
theorem dX3_pour_15 : decode cX3_pour 15 = .ok (.ireturn, 1) := by decide +kernel
theorem dX3_pour_16 : decode cX3_pour 16 = .ok (.iload_n 2, 1) := by decide +kernel
theorem dX3_pour_17 : decode cX3_pour 17 = .ok (.i2l, 1) := by decide +kernel
theorem dX3_pour_18 : decode cX3_pour 18 = .ok (.lconst 0, 1) := by decide +kernel
theorem dX3_pour_19 : decode cX3_pour 19 = .ok (.ldc2_w 120, 3) := by decide +kernel
theorem dX3_pour_22 : decode cX3_pour 22 = .ok (.invokestatic 41, 3) := by decide +kernel
theorem dX3_pour_25 : decode cX3_pour 25 = .ok (.ifCond .ne 29, 3) := by decide +kernel
theorem dX3_pour_28 : decode cX3_pour 28 = .ok (.iload 4, 2) := by decide +kernel
theorem dX3_pour_30 : decode cX3_pour 30 = .ok (.i2l, 1) := by decide +kernel
theorem dX3_pour_31 : decode cX3_pour 31 = .ok (.lconst 0, 1) := by decide +kernel
theorem dX3_pour_32 : decode cX3_pour 32 = .ok (.ldc2_w 120, 3) := by decide +kernel
theorem dX3_pour_35 : decode cX3_pour 35 = .ok (.invokestatic 41, 3) := by decide +kernel
theorem dX3_pour_38 : decode cX3_pour 38 = .ok (.ifCond .ne 16, 3) := by decide +kernel
theorem dX3_pour_41 : decode cX3_pour 41 = .ok (.iload 5, 2) := by decide +kernel
theorem dX3_pour_43 : decode cX3_pour 43 = .ok (.i2l, 1) := by decide +kernel
theorem dX3_pour_44 : decode cX3_pour 44 = .ok (.lconst 0, 1) := by decide +kernel
theorem dX3_pour_45 : decode cX3_pour 45 = .ok (.ldc2_w 59, 3) := by decide +kernel
theorem dX3_pour_48 : decode cX3_pour 48 = .ok (.invokestatic 41, 3) := by decide +kernel
theorem dX3_pour_51 : decode cX3_pour 51 = .ok (.ifCond .eq 6, 3) := by decide +kernel
theorem dX3_pour_54 : decode cX3_pour 54 = .ok (.bipush (-2), 2) := by decide +kernel
theorem dX3_pour_56 : decode cX3_pour 56 = .ok (.ireturn, 1) := by decide +kernel
theorem dX3_pour_57 : decode cX3_pour 57 = .ok (.aload_n 0, 1) := by decide +kernel
theorem dX3_pour_58 : decode cX3_pour 58 = .ok (.iload_n 1, 1) := by decide +kernel
theorem dX3_pour_59 : decode cX3_pour 59 = .ok (.iload_n 2, 1) := by decide +kernel
theorem dX3_pour_60 : decode cX3_pour 60 = .ok (.iload_n 3, 1) := by decide +kernel
theorem dX3_pour_61 : decode cX3_pour 61 = .ok (.iload 4, 2) := by decide +kernel
theorem dX3_pour_63 : decode cX3_pour 63 = .ok (.iload 5, 2) := by decide +kernel
theorem dX3_pour_65 : decode cX3_pour 65 = .ok (.invokevirtual 122, 3) := by decide +kernel
theorem dX3_pour_68 : decode cX3_pour 68 = .ok (.istore 6, 2) := by decide +kernel
theorem dX3_pour_70 : decode cX3_pour 70 = .ok (.iload 6, 2) := by decide +kernel
theorem dX3_pour_72 : decode cX3_pour 72 = .ok (.ifCond .le 19, 3) := by decide +kernel
theorem dX3_pour_75 : decode cX3_pour 75 = .ok (.aload_n 0, 1) := by decide +kernel
theorem dX3_pour_76 : decode cX3_pour 76 = .ok (.iload 6, 2) := by decide +kernel
theorem dX3_pour_78 : decode cX3_pour 78 = .ok (.invokevirtual 49, 3) := by decide +kernel
theorem dX3_pour_81 : decode cX3_pour 81 = .ok (.istore 6, 2) := by decide +kernel
theorem dX3_pour_83 : decode cX3_pour 83 = .ok (.aload_n 0, 1) := by decide +kernel
theorem dX3_pour_84 : decode cX3_pour 84 = .ok (.getfield 114, 3) := by decide +kernel
theorem dX3_pour_87 : decode cX3_pour 87 = .ok (.bipush 100, 2) := by decide +kernel
theorem dX3_pour_89 : decode cX3_pour 89 = .ok (.isub, 1) := by decide +kernel
theorem dX3_pour_90 : decode cX3_pour 90 = .ok (.ireturn, 1) := by decide +kernel
theorem dX3_pour_91 : decode cX3_pour 91 = .ok (.iload 5, 2) := by decide +kernel
theorem dX3_pour_93 : decode cX3_pour 93 = .ok (.ireturn, 1) := by decide +kernel
set_option maxRecDepth 20000 in
theorem ggX3_swaps_X3_come : GoodIn wsX3_swaps wsX3_come := goodIn_r _ [6, 7, 8, 9, 10, 11, 5, 12, 13, 14, 15, 16, 37, 38, 39, 40, 41, 42, 43, 44, 45, 46, 47, 48, 49, 50, 51, 52, 53, 54] (by decide +kernel) (by decide +kernel)
set_option maxRecDepth 20000 in
theorem gX3_swaps_X3_come : GoodIn wsX3_swaps (wsV RX3 91 RX3 yX3_come wsX3_come) := goodIn_app (goodIn_of _ (by decide +kernel)) ggX3_swaps_X3_come
set_option maxRecDepth 20000 in
theorem ggX3_swaps_X3_kindAt : GoodIn wsX3_swaps wsX3_kindAt := goodIn_r _ [20, 21, 8, 22, 23, 24, 5, 25, 1, 26, 27, 28, 29, 37, 38, 39, 40, 41, 42, 43, 44, 45, 46, 47, 48, 49, 50, 51, 52, 53, 54] (by decide +kernel) (by decide +kernel)
set_option maxRecDepth 20000 in
theorem gX3_swaps_X3_kindAt : GoodIn wsX3_swaps (wsV RX3 117 RX3 yX3_kindAt wsX3_kindAt) := goodIn_app (goodIn_of _ (by decide +kernel)) ggX3_swaps_X3_kindAt
set_option maxRecDepth 20000 in
theorem ggX3_swaps_X3_laying : GoodIn wsX3_swaps wsX3_laying := goodIn_r _ [33, 21, 8, 2, 3, 4, 5, 6, 7, 9, 10, 11, 12, 13, 14, 15, 16, 34, 35, 36, 37, 38, 39, 40, 41, 42, 43, 44, 45, 46, 47, 48, 49, 50, 51, 52, 53, 54] (by decide +kernel) (by decide +kernel)
set_option maxRecDepth 20000 in
theorem gX3_swaps_X3_laying : GoodIn wsX3_swaps (wsV RX3 107 RX3 yX3_laying wsX3_laying) := goodIn_app (goodIn_of _ (by decide +kernel)) ggX3_swaps_X3_laying
set_option maxRecDepth 20000 in
theorem ggX3_swaps_X3_at : GoodIn wsX3_swaps wsX3_at := goodIn_r _ [29, 8, 37, 38, 39, 40, 41, 42, 43, 44, 45, 46, 47, 48, 49, 50, 51, 52, 53, 54] (by decide +kernel) (by decide +kernel)
set_option maxRecDepth 20000 in
theorem gX3_swaps_X3_at : GoodIn wsX3_swaps (wsV RX3 87 RX3 yX3_at wsX3_at) := goodIn_app (goodIn_of _ (by decide +kernel)) ggX3_swaps_X3_at
theorem dX3_swaps_0 : decode cX3_swaps 0 = .ok (.aload_n 0, 1) := by decide +kernel
theorem dX3_swaps_1 : decode cX3_swaps 1 = .ok (.iload_n 1, 1) := by decide +kernel
theorem dX3_swaps_2 : decode cX3_swaps 2 = .ok (.iload_n 2, 1) := by decide +kernel
theorem dX3_swaps_3 : decode cX3_swaps 3 = .ok (.invokevirtual 91, 3) := by decide +kernel
theorem dX3_swaps_6 : decode cX3_swaps 6 = .ok (.istore 5, 2) := by decide +kernel
theorem dX3_swaps_8 : decode cX3_swaps 8 = .ok (.iload 5, 2) := by decide +kernel
theorem dX3_swaps_10 : decode cX3_swaps 10 = .ok (.ifCond .le 8, 3) := by decide +kernel
theorem dX3_swaps_13 : decode cX3_swaps 13 = .ok (.iload 5, 2) := by decide +kernel
theorem dX3_swaps_15 : decode cX3_swaps 15 = .ok (.goto 10, 3) := by decide +kernel
theorem dX3_swaps_18 : decode cX3_swaps 18 = .ok (.aload_n 0, 1) := by decide +kernel
theorem dX3_swaps_19 : decode cX3_swaps 19 = .ok (.iload_n 3, 1) := by decide +kernel
theorem dX3_swaps_20 : decode cX3_swaps 20 = .ok (.iload 4, 2) := by decide +kernel
theorem dX3_swaps_22 : decode cX3_swaps 22 = .ok (.invokevirtual 91, 3) := by decide +kernel
theorem dX3_swaps_25 : decode cX3_swaps 25 = .ok (.istore 5, 2) := by decide +kernel
theorem dX3_swaps_27 : decode cX3_swaps 27 = .ok (.iload 5, 2) := by decide +kernel
theorem dX3_swaps_29 : decode cX3_swaps 29 = .ok (.ifCond .le 8, 3) := by decide +kernel
theorem dX3_swaps_32 : decode cX3_swaps 32 = .ok (.iload 5, 2) := by decide +kernel
theorem dX3_swaps_34 : decode cX3_swaps 34 = .ok (.goto 16, 3) := by decide +kernel
theorem dX3_swaps_37 : decode cX3_swaps 37 = .ok (.aload_n 0, 1) := by decide +kernel
theorem dX3_swaps_38 : decode cX3_swaps 38 = .ok (.iload_n 1, 1) := by decide +kernel
theorem dX3_swaps_39 : decode cX3_swaps 39 = .ok (.iload_n 2, 1) := by decide +kernel
theorem dX3_swaps_40 : decode cX3_swaps 40 = .ok (.aload_n 0, 1) := by decide +kernel
theorem dX3_swaps_41 : decode cX3_swaps 41 = .ok (.iload_n 3, 1) := by decide +kernel
theorem dX3_swaps_42 : decode cX3_swaps 42 = .ok (.iload 4, 2) := by decide +kernel
theorem dX3_swaps_44 : decode cX3_swaps 44 = .ok (.invokevirtual 117, 3) := by decide +kernel
theorem dX3_swaps_47 : decode cX3_swaps 47 = .ok (.invokevirtual 107, 3) := by decide +kernel
theorem dX3_swaps_50 : decode cX3_swaps 50 = .ok (.istore 5, 2) := by decide +kernel
theorem dX3_swaps_52 : decode cX3_swaps 52 = .ok (.iload 5, 2) := by decide +kernel
theorem dX3_swaps_54 : decode cX3_swaps 54 = .ok (.ifCond .le 8, 3) := by decide +kernel
theorem dX3_swaps_57 : decode cX3_swaps 57 = .ok (.iload 5, 2) := by decide +kernel
theorem dX3_swaps_59 : decode cX3_swaps 59 = .ok (.goto 16, 3) := by decide +kernel
theorem dX3_swaps_62 : decode cX3_swaps 62 = .ok (.aload_n 0, 1) := by decide +kernel
theorem dX3_swaps_63 : decode cX3_swaps 63 = .ok (.iload_n 3, 1) := by decide +kernel
theorem dX3_swaps_64 : decode cX3_swaps 64 = .ok (.iload 4, 2) := by decide +kernel
theorem dX3_swaps_66 : decode cX3_swaps 66 = .ok (.aload_n 0, 1) := by decide +kernel
theorem dX3_swaps_67 : decode cX3_swaps 67 = .ok (.iload_n 1, 1) := by decide +kernel
theorem dX3_swaps_68 : decode cX3_swaps 68 = .ok (.iload_n 2, 1) := by decide +kernel
theorem dX3_swaps_69 : decode cX3_swaps 69 = .ok (.invokevirtual 117, 3) := by decide +kernel
theorem dX3_swaps_72 : decode cX3_swaps 72 = .ok (.invokevirtual 107, 3) := by decide +kernel
theorem dX3_swaps_75 : decode cX3_swaps 75 = .ok (.istore 5, 2) := by decide +kernel
theorem dX3_swaps_77 : decode cX3_swaps 77 = .ok (.iload 5, 2) := by decide +kernel
theorem dX3_swaps_79 : decode cX3_swaps 79 = .ok (.ifCond .ne 53, 3) := by decide +kernel
theorem dX3_swaps_82 : decode cX3_swaps 82 = .ok (.aload_n 0, 1) := by decide +kernel
theorem dX3_swaps_83 : decode cX3_swaps 83 = .ok (.getfield 26, 3) := by decide +kernel
theorem dX3_swaps_86 : decode cX3_swaps 86 = .ok (.aload_n 0, 1) := by decide +kernel
theorem dX3_swaps_87 : decode cX3_swaps 87 = .ok (.iload_n 1, 1) := by decide +kernel
theorem dX3_swaps_88 : decode cX3_swaps 88 = .ok (.iload_n 2, 1) := by decide +kernel
theorem dX3_swaps_89 : decode cX3_swaps 89 = .ok (.invokevirtual 87, 3) := by decide +kernel
theorem dX3_swaps_92 : decode cX3_swaps 92 = .ok (.laload, 1) := by decide +kernel
theorem dX3_swaps_93 : decode cX3_swaps 93 = .ok (.lstore 6, 2) := by decide +kernel
theorem dX3_swaps_95 : decode cX3_swaps 95 = .ok (.aload_n 0, 1) := by decide +kernel
theorem dX3_swaps_96 : decode cX3_swaps 96 = .ok (.getfield 26, 3) := by decide +kernel
theorem dX3_swaps_99 : decode cX3_swaps 99 = .ok (.aload_n 0, 1) := by decide +kernel
theorem dX3_swaps_100 : decode cX3_swaps 100 = .ok (.iload_n 1, 1) := by decide +kernel
theorem dX3_swaps_101 : decode cX3_swaps 101 = .ok (.iload_n 2, 1) := by decide +kernel
theorem dX3_swaps_102 : decode cX3_swaps 102 = .ok (.invokevirtual 87, 3) := by decide +kernel
theorem dX3_swaps_105 : decode cX3_swaps 105 = .ok (.aload_n 0, 1) := by decide +kernel
theorem dX3_swaps_106 : decode cX3_swaps 106 = .ok (.getfield 26, 3) := by decide +kernel
theorem dX3_swaps_109 : decode cX3_swaps 109 = .ok (.aload_n 0, 1) := by decide +kernel
theorem dX3_swaps_110 : decode cX3_swaps 110 = .ok (.iload_n 3, 1) := by decide +kernel
theorem dX3_swaps_111 : decode cX3_swaps 111 = .ok (.iload 4, 2) := by decide +kernel
theorem dX3_swaps_113 : decode cX3_swaps 113 = .ok (.invokevirtual 87, 3) := by decide +kernel
theorem dX3_swaps_116 : decode cX3_swaps 116 = .ok (.laload, 1) := by decide +kernel
theorem dX3_swaps_117 : decode cX3_swaps 117 = .ok (.lastore, 1) := by decide +kernel
theorem dX3_swaps_118 : decode cX3_swaps 118 = .ok (.aload_n 0, 1) := by decide +kernel
theorem dX3_swaps_119 : decode cX3_swaps 119 = .ok (.getfield 26, 3) := by decide +kernel
theorem dX3_swaps_122 : decode cX3_swaps 122 = .ok (.aload_n 0, 1) := by decide +kernel
theorem dX3_swaps_123 : decode cX3_swaps 123 = .ok (.iload_n 3, 1) := by decide +kernel
theorem dX3_swaps_124 : decode cX3_swaps 124 = .ok (.iload 4, 2) := by decide +kernel
theorem dX3_swaps_126 : decode cX3_swaps 126 = .ok (.invokevirtual 87, 3) := by decide +kernel
theorem dX3_swaps_129 : decode cX3_swaps 129 = .ok (.lload 6, 2) := by decide +kernel
theorem dX3_swaps_131 : decode cX3_swaps 131 = .ok (.lastore, 1) := by decide +kernel
theorem dX3_swaps_132 : decode cX3_swaps 132 = .ok (.iload 5, 2) := by decide +kernel
theorem dX3_swaps_134 : decode cX3_swaps 134 = .ok (.ireturn, 1) := by decide +kernel
set_option maxRecDepth 20000 in
theorem ggX3_swap_X3_no : GoodIn wsX3_swap wsX3_no := goodIn_r _ [4, 5, 6, 7, 3, 8] (by decide +kernel) (by decide +kernel)
set_option maxRecDepth 20000 in
theorem gX3_swap_X3_no : GoodIn wsX3_swap (va_wsS RX3 53 yX3_no wsX3_no) := goodIn_app (goodIn_of _ (by decide +kernel)) ggX3_swap_X3_no
set_option maxRecDepth 20000 in
theorem ggX3_swap_X3_swaps : GoodIn wsX3_swap wsX3_swaps := goodIn_r _ [12, 13, 14, 15, 16, 3, 17, 18, 19, 20, 21, 22, 23, 24, 6, 7, 8, 25, 26, 27, 28, 29, 30, 31, 32, 33, 34, 35, 36, 37, 38, 39, 40, 41, 42, 43, 44, 55, 56, 57, 58, 59, 60, 61, 62, 63, 64, 65, 66, 67, 68, 69, 70, 71, 72] (by decide +kernel) (by decide +kernel)
set_option maxRecDepth 20000 in
theorem gX3_swap_X3_swaps : GoodIn wsX3_swap (wsV RX3 126 RX3 yX3_swaps wsX3_swaps) := goodIn_app (goodIn_of _ (by decide +kernel)) ggX3_swap_X3_swaps
set_option maxRecDepth 20000 in
theorem ggX3_swap_X3_answer : GoodIn wsX3_swap wsX3_answer := goodIn_r _ [48, 49, 50, 51, 3, 52, 53, 54, 55, 56, 57, 58, 59, 60, 61, 62, 63, 64, 65, 66, 67, 68, 69, 70, 71, 72] (by decide +kernel) (by decide +kernel)
set_option maxRecDepth 20000 in
theorem gX3_swap_X3_answer : GoodIn wsX3_swap (wsV RX3 104 RX3 yX3_answer wsX3_answer) := goodIn_app (goodIn_of _ (by decide +kernel)) ggX3_swap_X3_answer
theorem dX3_swap_0 : decode cX3_swap 0 = .ok (.iload_n 1, 1) := by decide +kernel
theorem dX3_swap_1 : decode cX3_swap 1 = .ok (.invokestatic 53, 3) := by decide +kernel
theorem dX3_swap_4 : decode cX3_swap 4 = .ok (.ifCond .ne 10, 3) := by decide +kernel
theorem dX3_swap_7 : decode cX3_swap 7 = .ok (.iload_n 3, 1) := by decide +kernel
theorem dX3_swap_8 : decode cX3_swap 8 = .ok (.invokestatic 53, 3) := by decide +kernel
theorem dX3_swap_11 : decode cX3_swap 11 = .ok (.ifCond .eq 5, 3) := by decide +kernel
theorem dX3_swap_14 : decode cX3_swap 14 = .ok (.iconst (-1), 1) := by decide +kernel
theorem dX3_swap_15 : decode cX3_swap 15 = .ok (.ireturn, 1) := by decide +kernel
theorem dX3_swap_16 : decode cX3_swap 16 = .ok (.aload_n 0, 1) := by decide +kernel
theorem dX3_swap_17 : decode cX3_swap 17 = .ok (.aload_n 0, 1) := by decide +kernel
theorem dX3_swap_18 : decode cX3_swap 18 = .ok (.iload_n 1, 1) := by decide +kernel
theorem dX3_swap_19 : decode cX3_swap 19 = .ok (.iload_n 2, 1) := by decide +kernel
theorem dX3_swap_20 : decode cX3_swap 20 = .ok (.iload_n 3, 1) := by decide +kernel
theorem dX3_swap_21 : decode cX3_swap 21 = .ok (.iload 4, 2) := by decide +kernel
theorem dX3_swap_23 : decode cX3_swap 23 = .ok (.invokevirtual 126, 3) := by decide +kernel
theorem dX3_swap_26 : decode cX3_swap 26 = .ok (.iconst 1, 1) := by decide +kernel
theorem dX3_swap_27 : decode cX3_swap 27 = .ok (.invokevirtual 104, 3) := by decide +kernel
theorem dX3_swap_30 : decode cX3_swap 30 = .ok (.ireturn, 1) := by decide +kernel
set_option maxRecDepth 20000 in
theorem ggX3_turns_X3_rowFault : GoodIn wsX3_turns wsX3_rowFault := goodIn_r _ [8, 9, 14, 15, 16, 17, 18, 19, 20, 21, 22, 23, 24, 25, 26, 27, 28, 29, 30, 31] (by decide +kernel) (by decide +kernel)
set_option maxRecDepth 20000 in
theorem gX3_turns_X3_rowFault : GoodIn wsX3_turns (wsV RX3 84 RX3 yX3_rowFault wsX3_rowFault) := goodIn_app (goodIn_of _ (by decide +kernel)) ggX3_turns_X3_rowFault
set_option maxRecDepth 20000 in
theorem ggX3_turns_X3_at : GoodIn wsX3_turns wsX3_at := goodIn_r _ [13, 2, 14, 15, 16, 17, 18, 19, 20, 21, 22, 23, 24, 25, 26, 27, 28, 29, 30, 31] (by decide +kernel) (by decide +kernel)
set_option maxRecDepth 20000 in
theorem gX3_turns_X3_at : GoodIn wsX3_turns (wsV RX3 87 RX3 yX3_at wsX3_at) := goodIn_app (goodIn_of _ (by decide +kernel)) ggX3_turns_X3_at
theorem dX3_turns_0 : decode cX3_turns 0 = .ok (.aload_n 0, 1) := by decide +kernel
theorem dX3_turns_1 : decode cX3_turns 1 = .ok (.iload_n 1, 1) := by decide +kernel
theorem dX3_turns_2 : decode cX3_turns 2 = .ok (.invokevirtual 84, 3) := by decide +kernel
theorem dX3_turns_5 : decode cX3_turns 5 = .ok (.istore_n 2, 1) := by decide +kernel
theorem dX3_turns_6 : decode cX3_turns 6 = .ok (.iload_n 2, 1) := by decide +kernel
theorem dX3_turns_7 : decode cX3_turns 7 = .ok (.ifCond .ne 92, 3) := by decide +kernel
theorem dX3_turns_10 : decode cX3_turns 10 = .ok (.aload_n 0, 1) := by decide +kernel
theorem dX3_turns_11 : decode cX3_turns 11 = .ok (.getfield 22, 3) := by decide +kernel
theorem dX3_turns_14 : decode cX3_turns 14 = .ok (.aload_n 0, 1) := by decide +kernel
theorem dX3_turns_15 : decode cX3_turns 15 = .ok (.getfield 16, 3) := by decide +kernel
theorem dX3_turns_18 : decode cX3_turns 18 = .ok (.iload_n 1, 1) := by decide +kernel
theorem dX3_turns_19 : decode cX3_turns 19 = .ok (.iaload, 1) := by decide +kernel
theorem dX3_turns_20 : decode cX3_turns 20 = .ok (.iaload, 1) := by decide +kernel
theorem dX3_turns_21 : decode cX3_turns 21 = .ok (.istore_n 3, 1) := by decide +kernel
theorem dX3_turns_22 : decode cX3_turns 22 = .ok (.iconst 0, 1) := by decide +kernel
theorem dX3_turns_23 : decode cX3_turns 23 = .ok (.istore 4, 2) := by decide +kernel
theorem dX3_turns_25 : decode cX3_turns 25 = .ok (.iload 4, 2) := by decide +kernel
theorem dX3_turns_27 : decode cX3_turns 27 = .ok (.iload_n 3, 1) := by decide +kernel
theorem dX3_turns_28 : decode cX3_turns 28 = .ok (.iconst 2, 1) := by decide +kernel
theorem dX3_turns_29 : decode cX3_turns 29 = .ok (.idiv, 1) := by decide +kernel
theorem dX3_turns_30 : decode cX3_turns 30 = .ok (.if_icmp .ge 69, 3) := by decide +kernel
theorem dX3_turns_33 : decode cX3_turns 33 = .ok (.aload_n 0, 1) := by decide +kernel
theorem dX3_turns_34 : decode cX3_turns 34 = .ok (.getfield 26, 3) := by decide +kernel
theorem dX3_turns_37 : decode cX3_turns 37 = .ok (.aload_n 0, 1) := by decide +kernel
theorem dX3_turns_38 : decode cX3_turns 38 = .ok (.iload_n 1, 1) := by decide +kernel
theorem dX3_turns_39 : decode cX3_turns 39 = .ok (.iload 4, 2) := by decide +kernel
theorem dX3_turns_41 : decode cX3_turns 41 = .ok (.invokevirtual 87, 3) := by decide +kernel
theorem dX3_turns_44 : decode cX3_turns 44 = .ok (.laload, 1) := by decide +kernel
theorem dX3_turns_45 : decode cX3_turns 45 = .ok (.lstore 5, 2) := by decide +kernel
theorem dX3_turns_47 : decode cX3_turns 47 = .ok (.aload_n 0, 1) := by decide +kernel
theorem dX3_turns_48 : decode cX3_turns 48 = .ok (.getfield 26, 3) := by decide +kernel
theorem dX3_turns_51 : decode cX3_turns 51 = .ok (.aload_n 0, 1) := by decide +kernel
theorem dX3_turns_52 : decode cX3_turns 52 = .ok (.iload_n 1, 1) := by decide +kernel
theorem dX3_turns_53 : decode cX3_turns 53 = .ok (.iload 4, 2) := by decide +kernel
theorem dX3_turns_55 : decode cX3_turns 55 = .ok (.invokevirtual 87, 3) := by decide +kernel
theorem dX3_turns_58 : decode cX3_turns 58 = .ok (.aload_n 0, 1) := by decide +kernel
theorem dX3_turns_59 : decode cX3_turns 59 = .ok (.getfield 26, 3) := by decide +kernel
theorem dX3_turns_62 : decode cX3_turns 62 = .ok (.aload_n 0, 1) := by decide +kernel
theorem dX3_turns_63 : decode cX3_turns 63 = .ok (.iload_n 1, 1) := by decide +kernel
theorem dX3_turns_64 : decode cX3_turns 64 = .ok (.iload_n 3, 1) := by decide +kernel
theorem dX3_turns_65 : decode cX3_turns 65 = .ok (.iconst 1, 1) := by decide +kernel
theorem dX3_turns_66 : decode cX3_turns 66 = .ok (.isub, 1) := by decide +kernel
theorem dX3_turns_67 : decode cX3_turns 67 = .ok (.iload 4, 2) := by decide +kernel
theorem dX3_turns_69 : decode cX3_turns 69 = .ok (.isub, 1) := by decide +kernel
theorem dX3_turns_70 : decode cX3_turns 70 = .ok (.invokevirtual 87, 3) := by decide +kernel
theorem dX3_turns_73 : decode cX3_turns 73 = .ok (.laload, 1) := by decide +kernel
theorem dX3_turns_74 : decode cX3_turns 74 = .ok (.lastore, 1) := by decide +kernel
theorem dX3_turns_75 : decode cX3_turns 75 = .ok (.aload_n 0, 1) := by decide +kernel
theorem dX3_turns_76 : decode cX3_turns 76 = .ok (.getfield 26, 3) := by decide +kernel
theorem dX3_turns_79 : decode cX3_turns 79 = .ok (.aload_n 0, 1) := by decide +kernel
theorem dX3_turns_80 : decode cX3_turns 80 = .ok (.iload_n 1, 1) := by decide +kernel
theorem dX3_turns_81 : decode cX3_turns 81 = .ok (.iload_n 3, 1) := by decide +kernel
theorem dX3_turns_82 : decode cX3_turns 82 = .ok (.iconst 1, 1) := by decide +kernel
theorem dX3_turns_83 : decode cX3_turns 83 = .ok (.isub, 1) := by decide +kernel
theorem dX3_turns_84 : decode cX3_turns 84 = .ok (.iload 4, 2) := by decide +kernel
theorem dX3_turns_86 : decode cX3_turns 86 = .ok (.isub, 1) := by decide +kernel
theorem dX3_turns_87 : decode cX3_turns 87 = .ok (.invokevirtual 87, 3) := by decide +kernel
theorem dX3_turns_90 : decode cX3_turns 90 = .ok (.lload 5, 2) := by decide +kernel
theorem dX3_turns_92 : decode cX3_turns 92 = .ok (.lastore, 1) := by decide +kernel
theorem dX3_turns_93 : decode cX3_turns 93 = .ok (.iinc 4 1, 3) := by decide +kernel
theorem dX3_turns_96 : decode cX3_turns 96 = .ok (.goto (-71), 3) := by decide +kernel
theorem dX3_turns_99 : decode cX3_turns 99 = .ok (.iload_n 2, 1) := by decide +kernel
theorem dX3_turns_100 : decode cX3_turns 100 = .ok (.ireturn, 1) := by decide +kernel
set_option maxRecDepth 20000 in
theorem ggX3_turn_X3_no : GoodIn wsX3_turn wsX3_no := goodIn_r _ [6, 7, 8, 9, 5, 10] (by decide +kernel) (by decide +kernel)
set_option maxRecDepth 20000 in
theorem gX3_turn_X3_no : GoodIn wsX3_turn (va_wsS RX3 53 yX3_no wsX3_no) := goodIn_app (goodIn_of _ (by decide +kernel)) ggX3_turn_X3_no
set_option maxRecDepth 20000 in
theorem ggX3_turn_X3_turns : GoodIn wsX3_turn wsX3_turns := goodIn_r _ [14, 1, 2, 15, 16, 17, 18, 5, 19, 20, 21, 22, 23, 24, 35, 36, 37, 38, 39, 40, 41, 42, 43, 44, 45, 46, 47, 48, 49, 50, 51, 52] (by decide +kernel) (by decide +kernel)
set_option maxRecDepth 20000 in
theorem gX3_turn_X3_turns : GoodIn wsX3_turn (wsV RX3 130 RX3 yX3_turns wsX3_turns) := goodIn_app (goodIn_of _ (by decide +kernel)) ggX3_turn_X3_turns
set_option maxRecDepth 20000 in
theorem ggX3_turn_X3_answer : GoodIn wsX3_turn wsX3_answer := goodIn_r _ [28, 29, 30, 31, 5, 32, 33, 34, 35, 36, 37, 38, 39, 40, 41, 42, 43, 44, 45, 46, 47, 48, 49, 50, 51, 52] (by decide +kernel) (by decide +kernel)
set_option maxRecDepth 20000 in
theorem gX3_turn_X3_answer : GoodIn wsX3_turn (wsV RX3 104 RX3 yX3_answer wsX3_answer) := goodIn_app (goodIn_of _ (by decide +kernel)) ggX3_turn_X3_answer
theorem dX3_turn_0 : decode cX3_turn 0 = .ok (.iload_n 1, 1) := by decide +kernel
theorem dX3_turn_1 : decode cX3_turn 1 = .ok (.invokestatic 53, 3) := by decide +kernel
theorem dX3_turn_4 : decode cX3_turn 4 = .ok (.ifCond .eq 5, 3) := by decide +kernel
theorem dX3_turn_7 : decode cX3_turn 7 = .ok (.iconst (-1), 1) := by decide +kernel
theorem dX3_turn_8 : decode cX3_turn 8 = .ok (.ireturn, 1) := by decide +kernel
theorem dX3_turn_9 : decode cX3_turn 9 = .ok (.aload_n 0, 1) := by decide +kernel
theorem dX3_turn_10 : decode cX3_turn 10 = .ok (.iload_n 1, 1) := by decide +kernel
theorem dX3_turn_11 : decode cX3_turn 11 = .ok (.invokevirtual 130, 3) := by decide +kernel
theorem dX3_turn_14 : decode cX3_turn 14 = .ok (.istore_n 2, 1) := by decide +kernel
theorem dX3_turn_15 : decode cX3_turn 15 = .ok (.aload_n 0, 1) := by decide +kernel
theorem dX3_turn_16 : decode cX3_turn 16 = .ok (.iload_n 2, 1) := by decide +kernel
theorem dX3_turn_17 : decode cX3_turn 17 = .ok (.iload_n 2, 1) := by decide +kernel
theorem dX3_turn_18 : decode cX3_turn 18 = .ok (.ifCond .le 7, 3) := by decide +kernel
theorem dX3_turn_21 : decode cX3_turn 21 = .ok (.iconst 0, 1) := by decide +kernel
theorem dX3_turn_22 : decode cX3_turn 22 = .ok (.goto 16, 3) := by decide +kernel
theorem dX3_turn_25 : decode cX3_turn 25 = .ok (.aload_n 0, 1) := by decide +kernel
theorem dX3_turn_26 : decode cX3_turn 26 = .ok (.getfield 22, 3) := by decide +kernel
theorem dX3_turn_29 : decode cX3_turn 29 = .ok (.aload_n 0, 1) := by decide +kernel
theorem dX3_turn_30 : decode cX3_turn 30 = .ok (.getfield 16, 3) := by decide +kernel
theorem dX3_turn_33 : decode cX3_turn 33 = .ok (.iload_n 1, 1) := by decide +kernel
theorem dX3_turn_34 : decode cX3_turn 34 = .ok (.iaload, 1) := by decide +kernel
theorem dX3_turn_35 : decode cX3_turn 35 = .ok (.iaload, 1) := by decide +kernel
theorem dX3_turn_36 : decode cX3_turn 36 = .ok (.iconst 2, 1) := by decide +kernel
theorem dX3_turn_37 : decode cX3_turn 37 = .ok (.idiv, 1) := by decide +kernel
theorem dX3_turn_38 : decode cX3_turn 38 = .ok (.invokevirtual 104, 3) := by decide +kernel
theorem dX3_turn_41 : decode cX3_turn 41 = .ok (.ireturn, 1) := by decide +kernel
set_option maxRecDepth 20000 in
theorem ggX3_sum_X3_no : GoodIn wsX3_sum wsX3_no := goodIn_r _ [7, 8, 9, 10, 6, 11] (by decide +kernel) (by decide +kernel)
set_option maxRecDepth 20000 in
theorem gX3_sum_X3_no : GoodIn wsX3_sum (va_wsS RX3 53 yX3_no wsX3_no) := goodIn_app (goodIn_of _ (by decide +kernel)) ggX3_sum_X3_no
set_option maxRecDepth 20000 in
theorem ggX3_sum_X3_rowFault : GoodIn wsX3_sum wsX3_rowFault := goodIn_r _ [15, 16, 27, 28, 29, 30, 31, 32, 33, 34, 35, 36, 37, 38, 39, 40, 41, 42, 43, 44] (by decide +kernel) (by decide +kernel)
set_option maxRecDepth 20000 in
theorem gX3_sum_X3_rowFault : GoodIn wsX3_sum (wsV RX3 84 RX3 yX3_rowFault wsX3_rowFault) := goodIn_app (goodIn_of _ (by decide +kernel)) ggX3_sum_X3_rowFault
set_option maxRecDepth 20000 in
theorem ggX3_sum_X3_met1 : GoodIn wsX3_sum wsX3_met1 := goodIn_r _ [20, 21, 22, 27, 28, 29, 30, 31, 32, 33, 34, 35, 36, 37, 38, 39, 40, 41, 42, 43, 44] (by decide +kernel) (by decide +kernel)
set_option maxRecDepth 20000 in
theorem gX3_sum_X3_met1 : GoodIn wsX3_sum (wsV RX3 49 RX3 yX3_met1 wsX3_met1) := goodIn_app (goodIn_of _ (by decide +kernel)) ggX3_sum_X3_met1
set_option maxRecDepth 20000 in
theorem ggX3_sum_X3_at : GoodIn wsX3_sum wsX3_at := goodIn_r _ [26, 2, 27, 28, 29, 30, 31, 32, 33, 34, 35, 36, 37, 38, 39, 40, 41, 42, 43, 44] (by decide +kernel) (by decide +kernel)
set_option maxRecDepth 20000 in
theorem gX3_sum_X3_at : GoodIn wsX3_sum (wsV RX3 87 RX3 yX3_at wsX3_at) := goodIn_app (goodIn_of _ (by decide +kernel)) ggX3_sum_X3_at
theorem dX3_sum_0 : decode cX3_sum 0 = .ok (.iload_n 1, 1) := by decide +kernel
theorem dX3_sum_1 : decode cX3_sum 1 = .ok (.invokestatic 53, 3) := by decide +kernel
theorem dX3_sum_4 : decode cX3_sum 4 = .ok (.ifCond .eq 5, 3) := by decide +kernel
theorem dX3_sum_7 : decode cX3_sum 7 = .ok (.lconst 0, 1) := by decide +kernel
theorem dX3_sum_8 : decode cX3_sum 8 = .ok (.lreturn, 1) := by decide +kernel
theorem dX3_sum_9 : decode cX3_sum 9 = .ok (.aload_n 0, 1) := by decide +kernel
theorem dX3_sum_10 : decode cX3_sum 10 = .ok (.iload_n 1, 1) := by decide +kernel
theorem dX3_sum_11 : decode cX3_sum 11 = .ok (.invokevirtual 84, 3) := by decide +kernel
theorem dX3_sum_14 : decode cX3_sum 14 = .ok (.istore_n 2, 1) := by decide +kernel
theorem dX3_sum_15 : decode cX3_sum 15 = .ok (.iload_n 2, 1) := by decide +kernel
theorem dX3_sum_16 : decode cX3_sum 16 = .ok (.ifCond .le 11, 3) := by decide +kernel
theorem dX3_sum_19 : decode cX3_sum 19 = .ok (.aload_n 0, 1) := by decide +kernel
theorem dX3_sum_20 : decode cX3_sum 20 = .ok (.iload_n 2, 1) := by decide +kernel
theorem dX3_sum_21 : decode cX3_sum 21 = .ok (.invokevirtual 49, 3) := by decide +kernel
theorem dX3_sum_24 : decode cX3_sum 24 = .ok (.istore_n 2, 1) := by decide +kernel
theorem dX3_sum_25 : decode cX3_sum 25 = .ok (.lconst 0, 1) := by decide +kernel
theorem dX3_sum_26 : decode cX3_sum 26 = .ok (.lreturn, 1) := by decide +kernel
theorem dX3_sum_27 : decode cX3_sum 27 = .ok (.lconst 0, 1) := by decide +kernel
theorem dX3_sum_28 : decode cX3_sum 28 = .ok (.lstore_n 3, 1) := by decide +kernel
theorem dX3_sum_29 : decode cX3_sum 29 = .ok (.iconst 0, 1) := by decide +kernel
theorem dX3_sum_30 : decode cX3_sum 30 = .ok (.istore 5, 2) := by decide +kernel
theorem dX3_sum_32 : decode cX3_sum 32 = .ok (.iload 5, 2) := by decide +kernel
theorem dX3_sum_34 : decode cX3_sum 34 = .ok (.aload_n 0, 1) := by decide +kernel
theorem dX3_sum_35 : decode cX3_sum 35 = .ok (.getfield 22, 3) := by decide +kernel
theorem dX3_sum_38 : decode cX3_sum 38 = .ok (.aload_n 0, 1) := by decide +kernel
theorem dX3_sum_39 : decode cX3_sum 39 = .ok (.getfield 16, 3) := by decide +kernel
theorem dX3_sum_42 : decode cX3_sum 42 = .ok (.iload_n 1, 1) := by decide +kernel
theorem dX3_sum_43 : decode cX3_sum 43 = .ok (.iaload, 1) := by decide +kernel
theorem dX3_sum_44 : decode cX3_sum 44 = .ok (.iaload, 1) := by decide +kernel
theorem dX3_sum_45 : decode cX3_sum 45 = .ok (.if_icmp .ge 24, 3) := by decide +kernel
theorem dX3_sum_48 : decode cX3_sum 48 = .ok (.lload_n 3, 1) := by decide +kernel
theorem dX3_sum_49 : decode cX3_sum 49 = .ok (.aload_n 0, 1) := by decide +kernel
theorem dX3_sum_50 : decode cX3_sum 50 = .ok (.getfield 26, 3) := by decide +kernel
theorem dX3_sum_53 : decode cX3_sum 53 = .ok (.aload_n 0, 1) := by decide +kernel
theorem dX3_sum_54 : decode cX3_sum 54 = .ok (.iload_n 1, 1) := by decide +kernel
theorem dX3_sum_55 : decode cX3_sum 55 = .ok (.iload 5, 2) := by decide +kernel
theorem dX3_sum_57 : decode cX3_sum 57 = .ok (.invokevirtual 87, 3) := by decide +kernel
theorem dX3_sum_60 : decode cX3_sum 60 = .ok (.laload, 1) := by decide +kernel
theorem dX3_sum_61 : decode cX3_sum 61 = .ok (.ladd, 1) := by decide +kernel
theorem dX3_sum_62 : decode cX3_sum 62 = .ok (.lstore_n 3, 1) := by decide +kernel
theorem dX3_sum_63 : decode cX3_sum 63 = .ok (.iinc 5 1, 3) := by decide +kernel
theorem dX3_sum_66 : decode cX3_sum 66 = .ok (.goto (-34), 3) := by decide +kernel
theorem dX3_sum_69 : decode cX3_sum 69 = .ok (.lload_n 3, 1) := by decide +kernel
theorem dX3_sum_70 : decode cX3_sum 70 = .ok (.lreturn, 1) := by decide +kernel
set_option maxRecDepth 20000 in
theorem ggX3_find_X3_no : GoodIn wsX3_find wsX3_no := goodIn_r _ [11, 12, 13, 14, 10, 15] (by decide +kernel) (by decide +kernel)
set_option maxRecDepth 20000 in
theorem gX3_find_X3_no : GoodIn wsX3_find (va_wsS RX3 53 yX3_no wsX3_no) := goodIn_app (goodIn_of _ (by decide +kernel)) ggX3_find_X3_no
set_option maxRecDepth 20000 in
theorem ggX3_find_X3_rowFault : GoodIn wsX3_find wsX3_rowFault := goodIn_r _ [19, 20, 39, 40, 41, 42, 43, 44, 45, 46, 47, 48, 49, 50, 51, 52, 53, 54, 55, 56] (by decide +kernel) (by decide +kernel)
set_option maxRecDepth 20000 in
theorem gX3_find_X3_rowFault : GoodIn wsX3_find (wsV RX3 84 RX3 yX3_rowFault wsX3_rowFault) := goodIn_app (goodIn_of _ (by decide +kernel)) ggX3_find_X3_rowFault
set_option maxRecDepth 20000 in
theorem ggX3_find_X3_answer : GoodIn wsX3_find wsX3_answer := goodIn_r _ [24, 25, 26, 27, 10, 28, 29, 30, 39, 40, 41, 42, 43, 44, 45, 46, 47, 48, 49, 50, 51, 52, 53, 54, 55, 56] (by decide +kernel) (by decide +kernel)
set_option maxRecDepth 20000 in
theorem gX3_find_X3_answer : GoodIn wsX3_find (wsV RX3 104 RX3 yX3_answer wsX3_answer) := goodIn_app (goodIn_of _ (by decide +kernel)) ggX3_find_X3_answer
set_option maxRecDepth 20000 in
theorem ggX3_find_X3_at : GoodIn wsX3_find wsX3_at := goodIn_r _ [34, 2, 39, 40, 41, 42, 43, 44, 45, 46, 47, 48, 49, 50, 51, 52, 53, 54, 55, 56] (by decide +kernel) (by decide +kernel)
set_option maxRecDepth 20000 in
theorem gX3_find_X3_at : GoodIn wsX3_find (wsV RX3 87 RX3 yX3_at wsX3_at) := goodIn_app (goodIn_of _ (by decide +kernel)) ggX3_find_X3_at
set_option maxRecDepth 20000 in
theorem ggX3_find_X3_isEmpty : GoodIn wsX3_find wsX3_isEmpty := goodIn_r _ [38, 1, 2, 6, 31, 32, 33, 10, 34, 39, 40, 41, 42, 43, 44, 45, 46, 47, 48, 49, 50, 51, 52, 53, 54, 55, 56] (by decide +kernel) (by decide +kernel)
set_option maxRecDepth 20000 in
theorem gX3_find_X3_isEmpty : GoodIn wsX3_find (wsV RX3 98 RX3 yX3_isEmpty wsX3_isEmpty) := goodIn_app (goodIn_of _ (by decide +kernel)) ggX3_find_X3_isEmpty
theorem dX3_find_0 : decode cX3_find 0 = .ok (.iload_n 1, 1) := by decide +kernel
theorem dX3_find_1 : decode cX3_find 1 = .ok (.invokestatic 53, 3) := by decide +kernel
theorem dX3_find_4 : decode cX3_find 4 = .ok (.ifCond .eq 5, 3) := by decide +kernel
theorem dX3_find_7 : decode cX3_find 7 = .ok (.iconst (-1), 1) := by decide +kernel
theorem dX3_find_8 : decode cX3_find 8 = .ok (.ireturn, 1) := by decide +kernel
theorem dX3_find_9 : decode cX3_find 9 = .ok (.aload_n 0, 1) := by decide +kernel
theorem dX3_find_10 : decode cX3_find 10 = .ok (.iload_n 1, 1) := by decide +kernel
theorem dX3_find_11 : decode cX3_find 11 = .ok (.invokevirtual 84, 3) := by decide +kernel
theorem dX3_find_14 : decode cX3_find 14 = .ok (.istore_n 2, 1) := by decide +kernel
theorem dX3_find_15 : decode cX3_find 15 = .ok (.iload_n 2, 1) := by decide +kernel
theorem dX3_find_16 : decode cX3_find 16 = .ok (.ifCond .le 10, 3) := by decide +kernel
theorem dX3_find_19 : decode cX3_find 19 = .ok (.aload_n 0, 1) := by decide +kernel
theorem dX3_find_20 : decode cX3_find 20 = .ok (.iload_n 2, 1) := by decide +kernel
theorem dX3_find_21 : decode cX3_find 21 = .ok (.iconst 0, 1) := by decide +kernel
theorem dX3_find_22 : decode cX3_find 22 = .ok (.invokevirtual 104, 3) := by decide +kernel
theorem dX3_find_25 : decode cX3_find 25 = .ok (.ireturn, 1) := by decide +kernel
theorem dX3_find_26 : decode cX3_find 26 = .ok (.aload_n 0, 1) := by decide +kernel
theorem dX3_find_27 : decode cX3_find 27 = .ok (.getfield 19, 3) := by decide +kernel
theorem dX3_find_30 : decode cX3_find 30 = .ok (.aload_n 0, 1) := by decide +kernel
theorem dX3_find_31 : decode cX3_find 31 = .ok (.getfield 16, 3) := by decide +kernel
theorem dX3_find_34 : decode cX3_find 34 = .ok (.iload_n 1, 1) := by decide +kernel
theorem dX3_find_35 : decode cX3_find 35 = .ok (.iaload, 1) := by decide +kernel
theorem dX3_find_36 : decode cX3_find 36 = .ok (.iaload, 1) := by decide +kernel
theorem dX3_find_37 : decode cX3_find 37 = .ok (.istore_n 3, 1) := by decide +kernel
theorem dX3_find_38 : decode cX3_find 38 = .ok (.iconst 0, 1) := by decide +kernel
theorem dX3_find_39 : decode cX3_find 39 = .ok (.istore 4, 2) := by decide +kernel
theorem dX3_find_41 : decode cX3_find 41 = .ok (.iload 4, 2) := by decide +kernel
theorem dX3_find_43 : decode cX3_find 43 = .ok (.aload_n 0, 1) := by decide +kernel
theorem dX3_find_44 : decode cX3_find 44 = .ok (.getfield 22, 3) := by decide +kernel
theorem dX3_find_47 : decode cX3_find 47 = .ok (.aload_n 0, 1) := by decide +kernel
theorem dX3_find_48 : decode cX3_find 48 = .ok (.getfield 16, 3) := by decide +kernel
theorem dX3_find_51 : decode cX3_find 51 = .ok (.iload_n 1, 1) := by decide +kernel
theorem dX3_find_52 : decode cX3_find 52 = .ok (.iaload, 1) := by decide +kernel
theorem dX3_find_53 : decode cX3_find 53 = .ok (.iaload, 1) := by decide +kernel
theorem dX3_find_54 : decode cX3_find 54 = .ok (.if_icmp .ge 69, 3) := by decide +kernel
theorem dX3_find_57 : decode cX3_find 57 = .ok (.aload_n 0, 1) := by decide +kernel
theorem dX3_find_58 : decode cX3_find 58 = .ok (.getfield 66, 3) := by decide +kernel
theorem dX3_find_61 : decode cX3_find 61 = .ok (.ifCond .eq 39, 3) := by decide +kernel
theorem dX3_find_64 : decode cX3_find 64 = .ok (.iload_n 3, 1) := by decide +kernel
theorem dX3_find_65 : decode cX3_find 65 = .ok (.aload_n 0, 1) := by decide +kernel
theorem dX3_find_66 : decode cX3_find 66 = .ok (.getfield 70, 3) := by decide +kernel
theorem dX3_find_69 : decode cX3_find 69 = .ok (.if_icmp .ne 27, 3) := by decide +kernel
theorem dX3_find_72 : decode cX3_find 72 = .ok (.aload_n 0, 1) := by decide +kernel
theorem dX3_find_73 : decode cX3_find 73 = .ok (.getfield 26, 3) := by decide +kernel
theorem dX3_find_76 : decode cX3_find 76 = .ok (.aload_n 0, 1) := by decide +kernel
theorem dX3_find_77 : decode cX3_find 77 = .ok (.iload_n 1, 1) := by decide +kernel
theorem dX3_find_78 : decode cX3_find 78 = .ok (.iload 4, 2) := by decide +kernel
theorem dX3_find_80 : decode cX3_find 80 = .ok (.invokevirtual 87, 3) := by decide +kernel
theorem dX3_find_83 : decode cX3_find 83 = .ok (.laload, 1) := by decide +kernel
theorem dX3_find_84 : decode cX3_find 84 = .ok (.aload_n 0, 1) := by decide +kernel
theorem dX3_find_85 : decode cX3_find 85 = .ok (.getfield 73, 3) := by decide +kernel
theorem dX3_find_88 : decode cX3_find 88 = .ok (.lcmp, 1) := by decide +kernel
theorem dX3_find_89 : decode cX3_find 89 = .ok (.ifCond .ne 7, 3) := by decide +kernel
theorem dX3_find_92 : decode cX3_find 92 = .ok (.iconst 1, 1) := by decide +kernel
theorem dX3_find_93 : decode cX3_find 93 = .ok (.goto 14, 3) := by decide +kernel
theorem dX3_find_96 : decode cX3_find 96 = .ok (.iconst 0, 1) := by decide +kernel
theorem dX3_find_97 : decode cX3_find 97 = .ok (.goto 10, 3) := by decide +kernel
theorem dX3_find_100 : decode cX3_find 100 = .ok (.aload_n 0, 1) := by decide +kernel
theorem dX3_find_101 : decode cX3_find 101 = .ok (.iload_n 1, 1) := by decide +kernel
theorem dX3_find_102 : decode cX3_find 102 = .ok (.iload 4, 2) := by decide +kernel
theorem dX3_find_104 : decode cX3_find 104 = .ok (.invokevirtual 98, 3) := by decide +kernel
theorem dX3_find_107 : decode cX3_find 107 = .ok (.istore 5, 2) := by decide +kernel
theorem dX3_find_109 : decode cX3_find 109 = .ok (.iload 5, 2) := by decide +kernel
theorem dX3_find_111 : decode cX3_find 111 = .ok (.ifCond .eq 6, 3) := by decide +kernel
theorem dX3_find_114 : decode cX3_find 114 = .ok (.iload 4, 2) := by decide +kernel
theorem dX3_find_116 : decode cX3_find 116 = .ok (.ireturn, 1) := by decide +kernel
theorem dX3_find_117 : decode cX3_find 117 = .ok (.iinc 4 1, 3) := by decide +kernel
theorem dX3_find_120 : decode cX3_find 120 = .ok (.goto (-79), 3) := by decide +kernel
theorem dX3_find_123 : decode cX3_find 123 = .ok (.bipush (-9), 2) := by decide +kernel
theorem dX3_find_125 : decode cX3_find 125 = .ok (.ireturn, 1) := by decide +kernel
set_option maxRecDepth 20000 in
theorem ggX3_order_X3_no : GoodIn wsX3_order wsX3_no := goodIn_r _ [8, 9, 10, 11, 7, 12] (by decide +kernel) (by decide +kernel)
set_option maxRecDepth 20000 in
theorem gX3_order_X3_no : GoodIn wsX3_order (va_wsS RX3 53 yX3_no wsX3_no) := goodIn_app (goodIn_of _ (by decide +kernel)) ggX3_order_X3_no
set_option maxRecDepth 20000 in
theorem ggX3_order_X3_beyond : GoodIn wsX3_order wsX3_beyond := goodIn_r _ [12] (by decide +kernel) (by decide +kernel)
set_option maxRecDepth 20000 in
theorem gX3_order_X3_beyond : GoodIn wsX3_order (va_wsS RX3 41 yX3_beyond wsX3_beyond) := goodIn_app (goodIn_of _ (by decide +kernel)) ggX3_order_X3_beyond
theorem dX3_order_0 : decode cX3_order 0 = .ok (.iload_n 2, 1) := by decide +kernel
theorem dX3_order_1 : decode cX3_order 1 = .ok (.invokestatic 53, 3) := by decide +kernel
theorem dX3_order_4 : decode cX3_order 4 = .ok (.ifCond .ne 11, 3) := by decide +kernel
theorem dX3_order_7 : decode cX3_order 7 = .ok (.iload 4, 2) := by decide +kernel
theorem dX3_order_9 : decode cX3_order 9 = .ok (.invokestatic 53, 3) := by decide +kernel
theorem dX3_order_12 : decode cX3_order 12 = .ok (.ifCond .eq 5, 3) := by decide +kernel
theorem dX3_order_15 : decode cX3_order 15 = .ok (.iconst (-1), 1) := by decide +kernel
theorem dX3_order_16 : decode cX3_order 16 = .ok (.ireturn, 1) := by decide +kernel
theorem dX3_order_17 : decode cX3_order 17 = .ok (.iload_n 1, 1) := by decide +kernel
theorem dX3_order_18 : decode cX3_order 18 = .ok (.i2l, 1) := by decide +kernel
theorem dX3_order_19 : decode cX3_order 19 = .ok (.lconst 0, 1) := by decide +kernel
theorem dX3_order_20 : decode cX3_order 20 = .ok (.ldc2_w 133, 3) := by decide +kernel
theorem dX3_order_23 : decode cX3_order 23 = .ok (.invokestatic 41, 3) := by decide +kernel
theorem dX3_order_26 : decode cX3_order 26 = .ok (.ifCond .ne 28, 3) := by decide +kernel
theorem dX3_order_29 : decode cX3_order 29 = .ok (.iload_n 3, 1) := by decide +kernel
theorem dX3_order_30 : decode cX3_order 30 = .ok (.i2l, 1) := by decide +kernel
theorem dX3_order_31 : decode cX3_order 31 = .ok (.lconst 0, 1) := by decide +kernel
theorem dX3_order_32 : decode cX3_order 32 = .ok (.ldc2_w 120, 3) := by decide +kernel
theorem dX3_order_35 : decode cX3_order 35 = .ok (.invokestatic 41, 3) := by decide +kernel
theorem dX3_order_38 : decode cX3_order 38 = .ok (.ifCond .ne 16, 3) := by decide +kernel
theorem dX3_order_41 : decode cX3_order 41 = .ok (.iload 5, 2) := by decide +kernel
theorem dX3_order_43 : decode cX3_order 43 = .ok (.i2l, 1) := by decide +kernel
theorem dX3_order_44 : decode cX3_order 44 = .ok (.lconst 0, 1) := by decide +kernel
theorem dX3_order_45 : decode cX3_order 45 = .ok (.ldc2_w 120, 3) := by decide +kernel
theorem dX3_order_48 : decode cX3_order 48 = .ok (.invokestatic 41, 3) := by decide +kernel
theorem dX3_order_51 : decode cX3_order 51 = .ok (.ifCond .eq 6, 3) := by decide +kernel
theorem dX3_order_54 : decode cX3_order 54 = .ok (.bipush (-2), 2) := by decide +kernel
theorem dX3_order_56 : decode cX3_order 56 = .ok (.ireturn, 1) := by decide +kernel
theorem dX3_order_57 : decode cX3_order 57 = .ok (.aload_n 0, 1) := by decide +kernel
theorem dX3_order_58 : decode cX3_order 58 = .ok (.getfield 135, 3) := by decide +kernel
theorem dX3_order_61 : decode cX3_order 61 = .ok (.bipush 8, 2) := by decide +kernel
theorem dX3_order_63 : decode cX3_order 63 = .ok (.if_icmp .ne 6, 3) := by decide +kernel
theorem dX3_order_66 : decode cX3_order 66 = .ok (.bipush (-3), 2) := by decide +kernel
theorem dX3_order_68 : decode cX3_order 68 = .ok (.ireturn, 1) := by decide +kernel
theorem dX3_order_69 : decode cX3_order 69 = .ok (.iconst 5, 1) := by decide +kernel
theorem dX3_order_70 : decode cX3_order 70 = .ok (.aload_n 0, 1) := by decide +kernel
theorem dX3_order_71 : decode cX3_order 71 = .ok (.getfield 135, 3) := by decide +kernel
theorem dX3_order_74 : decode cX3_order 74 = .ok (.imul, 1) := by decide +kernel
theorem dX3_order_75 : decode cX3_order 75 = .ok (.istore 6, 2) := by decide +kernel
theorem dX3_order_77 : decode cX3_order 77 = .ok (.aload_n 0, 1) := by decide +kernel
theorem dX3_order_78 : decode cX3_order 78 = .ok (.getfield 33, 3) := by decide +kernel
theorem dX3_order_81 : decode cX3_order 81 = .ok (.iload 6, 2) := by decide +kernel
theorem dX3_order_83 : decode cX3_order 83 = .ok (.iload_n 1, 1) := by decide +kernel
theorem dX3_order_84 : decode cX3_order 84 = .ok (.iastore, 1) := by decide +kernel
theorem dX3_order_85 : decode cX3_order 85 = .ok (.aload_n 0, 1) := by decide +kernel
theorem dX3_order_86 : decode cX3_order 86 = .ok (.getfield 33, 3) := by decide +kernel
theorem dX3_order_89 : decode cX3_order 89 = .ok (.iload 6, 2) := by decide +kernel
theorem dX3_order_91 : decode cX3_order 91 = .ok (.iconst 1, 1) := by decide +kernel
theorem dX3_order_92 : decode cX3_order 92 = .ok (.iadd, 1) := by decide +kernel
theorem dX3_order_93 : decode cX3_order 93 = .ok (.iload_n 2, 1) := by decide +kernel
theorem dX3_order_94 : decode cX3_order 94 = .ok (.iastore, 1) := by decide +kernel
theorem dX3_order_95 : decode cX3_order 95 = .ok (.aload_n 0, 1) := by decide +kernel
theorem dX3_order_96 : decode cX3_order 96 = .ok (.getfield 33, 3) := by decide +kernel
theorem dX3_order_99 : decode cX3_order 99 = .ok (.iload 6, 2) := by decide +kernel
theorem dX3_order_101 : decode cX3_order 101 = .ok (.iconst 2, 1) := by decide +kernel
theorem dX3_order_102 : decode cX3_order 102 = .ok (.iadd, 1) := by decide +kernel
theorem dX3_order_103 : decode cX3_order 103 = .ok (.iload_n 3, 1) := by decide +kernel
theorem dX3_order_104 : decode cX3_order 104 = .ok (.iastore, 1) := by decide +kernel
theorem dX3_order_105 : decode cX3_order 105 = .ok (.aload_n 0, 1) := by decide +kernel
theorem dX3_order_106 : decode cX3_order 106 = .ok (.getfield 33, 3) := by decide +kernel
theorem dX3_order_109 : decode cX3_order 109 = .ok (.iload 6, 2) := by decide +kernel
theorem dX3_order_111 : decode cX3_order 111 = .ok (.iconst 3, 1) := by decide +kernel
theorem dX3_order_112 : decode cX3_order 112 = .ok (.iadd, 1) := by decide +kernel
theorem dX3_order_113 : decode cX3_order 113 = .ok (.iload 4, 2) := by decide +kernel
theorem dX3_order_115 : decode cX3_order 115 = .ok (.iastore, 1) := by decide +kernel
theorem dX3_order_116 : decode cX3_order 116 = .ok (.aload_n 0, 1) := by decide +kernel
theorem dX3_order_117 : decode cX3_order 117 = .ok (.getfield 33, 3) := by decide +kernel
theorem dX3_order_120 : decode cX3_order 120 = .ok (.iload 6, 2) := by decide +kernel
theorem dX3_order_122 : decode cX3_order 122 = .ok (.iconst 4, 1) := by decide +kernel
theorem dX3_order_123 : decode cX3_order 123 = .ok (.iadd, 1) := by decide +kernel
theorem dX3_order_124 : decode cX3_order 124 = .ok (.iload 5, 2) := by decide +kernel
theorem dX3_order_126 : decode cX3_order 126 = .ok (.iastore, 1) := by decide +kernel
theorem dX3_order_127 : decode cX3_order 127 = .ok (.aload_n 0, 1) := by decide +kernel
theorem dX3_order_128 : decode cX3_order 128 = .ok (.dup, 1) := by decide +kernel
theorem dX3_order_129 : decode cX3_order 129 = .ok (.getfield 135, 3) := by decide +kernel
theorem dX3_order_132 : decode cX3_order 132 = .ok (.iconst 1, 1) := by decide +kernel
theorem dX3_order_133 : decode cX3_order 133 = .ok (.iadd, 1) := by decide +kernel
theorem dX3_order_134 : decode cX3_order 134 = .ok (.putfield 135, 3) := by decide +kernel
theorem dX3_order_137 : decode cX3_order 137 = .ok (.aload_n 0, 1) := by decide +kernel
theorem dX3_order_138 : decode cX3_order 138 = .ok (.getfield 135, 3) := by decide +kernel
theorem dX3_order_141 : decode cX3_order 141 = .ok (.ireturn, 1) := by decide +kernel
set_option maxRecDepth 20000 in
theorem ggX3_does_X3_taking : GoodIn wsX3_does wsX3_taking := goodIn_r _ [7, 2, 8, 9, 10, 11, 12, 13, 14, 15, 6, 16, 17, 18, 19, 20, 21, 22, 23, 24, 25, 26, 27, 28, 29, 30, 31, 32, 33, 62, 63, 64, 65, 66, 67, 68, 69, 70, 71, 72, 73, 74, 75, 76, 77, 78, 79] (by decide +kernel) (by decide +kernel)
set_option maxRecDepth 20000 in
theorem gX3_does_X3_taking : GoodIn wsX3_does (wsV RX3 101 RX3 yX3_taking wsX3_taking) := goodIn_app (goodIn_of _ (by decide +kernel)) ggX3_does_X3_taking
set_option maxRecDepth 20000 in
theorem ggX3_does_X3_puts : GoodIn wsX3_does wsX3_puts := goodIn_r _ [37, 10, 11, 12, 38, 39, 40, 6, 41, 8, 9, 13, 14, 15, 16, 17, 18, 19, 20, 21, 22, 23, 24, 25, 42, 43, 44, 30, 31, 32, 33, 62, 63, 64, 65, 66, 67, 68, 69, 70, 71, 72, 73, 74, 75, 76, 77, 78, 79] (by decide +kernel) (by decide +kernel)
set_option maxRecDepth 20000 in
theorem gX3_does_X3_puts : GoodIn wsX3_does (wsV RX3 111 RX3 yX3_puts wsX3_puts) := goodIn_app (goodIn_of _ (by decide +kernel)) ggX3_does_X3_puts
set_option maxRecDepth 20000 in
theorem ggX3_does_X3_swaps : GoodIn wsX3_does wsX3_swaps := goodIn_r _ [48, 11, 13, 14, 15, 6, 16, 17, 9, 18, 19, 20, 21, 22, 23, 24, 25, 49, 50, 51, 52, 8, 26, 27, 28, 29, 30, 31, 32, 33, 38, 39, 40, 41, 42, 43, 44, 62, 63, 64, 65, 66, 67, 68, 69, 70, 71, 72, 73, 74, 75, 76, 77, 78, 79] (by decide +kernel) (by decide +kernel)
set_option maxRecDepth 20000 in
theorem gX3_does_X3_swaps : GoodIn wsX3_does (wsV RX3 126 RX3 yX3_swaps wsX3_swaps) := goodIn_app (goodIn_of _ (by decide +kernel)) ggX3_does_X3_swaps
set_option maxRecDepth 20000 in
theorem ggX3_does_X3_turns : GoodIn wsX3_does wsX3_turns := goodIn_r _ [56, 17, 9, 11, 18, 19, 20, 6, 21, 22, 30, 31, 32, 33, 62, 63, 64, 65, 66, 67, 68, 69, 70, 71, 72, 73, 74, 75, 76, 77, 78, 79] (by decide +kernel) (by decide +kernel)
set_option maxRecDepth 20000 in
theorem gX3_does_X3_turns : GoodIn wsX3_does (wsV RX3 130 RX3 yX3_turns wsX3_turns) := goodIn_app (goodIn_of _ (by decide +kernel)) ggX3_does_X3_turns
set_option maxRecDepth 20000 in
theorem ggX3_does_X3_pours : GoodIn wsX3_does wsX3_pours := goodIn_r _ [60, 61, 11, 13, 14, 15, 6, 16, 17, 9, 18, 19, 20, 21, 22, 23, 24, 25, 49, 50, 51, 52, 8, 26, 27, 28, 29, 30, 31, 32, 33, 38, 39, 40, 41, 42, 43, 44, 62, 63, 64, 65, 66, 67, 68, 69, 70, 71, 72, 73, 74, 75, 76, 77, 78, 79] (by decide +kernel) (by decide +kernel)
set_option maxRecDepth 20000 in
theorem gX3_does_X3_pours : GoodIn wsX3_does (wsV RX3 122 RX3 yX3_pours wsX3_pours) := goodIn_app (goodIn_of _ (by decide +kernel)) ggX3_does_X3_pours
theorem dX3_does_0 : decode cX3_does 0 = .ok (.aload_n 0, 1) := by decide +kernel
theorem dX3_does_1 : decode cX3_does 1 = .ok (.getfield 33, 3) := by decide +kernel
theorem dX3_does_4 : decode cX3_does 4 = .ok (.iload_n 1, 1) := by decide +kernel
theorem dX3_does_5 : decode cX3_does 5 = .ok (.iconst 1, 1) := by decide +kernel
theorem dX3_does_6 : decode cX3_does 6 = .ok (.iadd, 1) := by decide +kernel
theorem dX3_does_7 : decode cX3_does 7 = .ok (.iaload, 1) := by decide +kernel
theorem dX3_does_8 : decode cX3_does 8 = .ok (.istore_n 2, 1) := by decide +kernel
theorem dX3_does_9 : decode cX3_does 9 = .ok (.aload_n 0, 1) := by decide +kernel
theorem dX3_does_10 : decode cX3_does 10 = .ok (.getfield 33, 3) := by decide +kernel
theorem dX3_does_13 : decode cX3_does 13 = .ok (.iload_n 1, 1) := by decide +kernel
theorem dX3_does_14 : decode cX3_does 14 = .ok (.iconst 2, 1) := by decide +kernel
theorem dX3_does_15 : decode cX3_does 15 = .ok (.iadd, 1) := by decide +kernel
theorem dX3_does_16 : decode cX3_does 16 = .ok (.iaload, 1) := by decide +kernel
theorem dX3_does_17 : decode cX3_does 17 = .ok (.istore_n 3, 1) := by decide +kernel
theorem dX3_does_18 : decode cX3_does 18 = .ok (.aload_n 0, 1) := by decide +kernel
theorem dX3_does_19 : decode cX3_does 19 = .ok (.getfield 33, 3) := by decide +kernel
theorem dX3_does_22 : decode cX3_does 22 = .ok (.iload_n 1, 1) := by decide +kernel
theorem dX3_does_23 : decode cX3_does 23 = .ok (.iconst 3, 1) := by decide +kernel
theorem dX3_does_24 : decode cX3_does 24 = .ok (.iadd, 1) := by decide +kernel
theorem dX3_does_25 : decode cX3_does 25 = .ok (.iaload, 1) := by decide +kernel
theorem dX3_does_26 : decode cX3_does 26 = .ok (.istore 4, 2) := by decide +kernel
theorem dX3_does_28 : decode cX3_does 28 = .ok (.aload_n 0, 1) := by decide +kernel
theorem dX3_does_29 : decode cX3_does 29 = .ok (.getfield 33, 3) := by decide +kernel
theorem dX3_does_32 : decode cX3_does 32 = .ok (.iload_n 1, 1) := by decide +kernel
theorem dX3_does_33 : decode cX3_does 33 = .ok (.iconst 4, 1) := by decide +kernel
theorem dX3_does_34 : decode cX3_does 34 = .ok (.iadd, 1) := by decide +kernel
theorem dX3_does_35 : decode cX3_does 35 = .ok (.iaload, 1) := by decide +kernel
theorem dX3_does_36 : decode cX3_does 36 = .ok (.istore 5, 2) := by decide +kernel
theorem dX3_does_38 : decode cX3_does 38 = .ok (.aload_n 0, 1) := by decide +kernel
theorem dX3_does_39 : decode cX3_does 39 = .ok (.getfield 33, 3) := by decide +kernel
theorem dX3_does_42 : decode cX3_does 42 = .ok (.iload_n 1, 1) := by decide +kernel
theorem dX3_does_43 : decode cX3_does 43 = .ok (.iaload, 1) := by decide +kernel
theorem dX3_does_44 : decode cX3_does 44 = .ok (.tableswitch 76 0 3 #[32, 39, 59, 70], 32) := by decide +kernel
theorem dX3_does_76 : decode cX3_does 76 = .ok (.aload_n 0, 1) := by decide +kernel
theorem dX3_does_77 : decode cX3_does 77 = .ok (.iload_n 2, 1) := by decide +kernel
theorem dX3_does_78 : decode cX3_does 78 = .ok (.iload_n 3, 1) := by decide +kernel
theorem dX3_does_79 : decode cX3_does 79 = .ok (.invokevirtual 101, 3) := by decide +kernel
theorem dX3_does_82 : decode cX3_does 82 = .ok (.ireturn, 1) := by decide +kernel
theorem dX3_does_83 : decode cX3_does 83 = .ok (.aload_n 0, 1) := by decide +kernel
theorem dX3_does_84 : decode cX3_does 84 = .ok (.getfield 66, 3) := by decide +kernel
theorem dX3_does_87 : decode cX3_does 87 = .ok (.ifCond .eq 14, 3) := by decide +kernel
theorem dX3_does_90 : decode cX3_does 90 = .ok (.aload_n 0, 1) := by decide +kernel
theorem dX3_does_91 : decode cX3_does 91 = .ok (.iload 4, 2) := by decide +kernel
theorem dX3_does_93 : decode cX3_does 93 = .ok (.iload 5, 2) := by decide +kernel
theorem dX3_does_95 : decode cX3_does 95 = .ok (.invokevirtual 111, 3) := by decide +kernel
theorem dX3_does_98 : decode cX3_does 98 = .ok (.goto 4, 3) := by decide +kernel
theorem dX3_does_101 : decode cX3_does 101 = .ok (.iconst 0, 1) := by decide +kernel
theorem dX3_does_102 : decode cX3_does 102 = .ok (.ireturn, 1) := by decide +kernel
theorem dX3_does_103 : decode cX3_does 103 = .ok (.aload_n 0, 1) := by decide +kernel
theorem dX3_does_104 : decode cX3_does 104 = .ok (.iload_n 2, 1) := by decide +kernel
theorem dX3_does_105 : decode cX3_does 105 = .ok (.iload_n 3, 1) := by decide +kernel
theorem dX3_does_106 : decode cX3_does 106 = .ok (.iload 4, 2) := by decide +kernel
theorem dX3_does_108 : decode cX3_does 108 = .ok (.iload 5, 2) := by decide +kernel
theorem dX3_does_110 : decode cX3_does 110 = .ok (.invokevirtual 126, 3) := by decide +kernel
theorem dX3_does_113 : decode cX3_does 113 = .ok (.ireturn, 1) := by decide +kernel
theorem dX3_does_114 : decode cX3_does 114 = .ok (.aload_n 0, 1) := by decide +kernel
theorem dX3_does_115 : decode cX3_does 115 = .ok (.iload_n 2, 1) := by decide +kernel
theorem dX3_does_116 : decode cX3_does 116 = .ok (.invokevirtual 130, 3) := by decide +kernel
theorem dX3_does_119 : decode cX3_does 119 = .ok (.ireturn, 1) := by decide +kernel
theorem dX3_does_120 : decode cX3_does 120 = .ok (.aload_n 0, 1) := by decide +kernel
theorem dX3_does_121 : decode cX3_does 121 = .ok (.iload_n 2, 1) := by decide +kernel
theorem dX3_does_122 : decode cX3_does 122 = .ok (.iload_n 3, 1) := by decide +kernel
theorem dX3_does_123 : decode cX3_does 123 = .ok (.iload 4, 2) := by decide +kernel
theorem dX3_does_125 : decode cX3_does 125 = .ok (.iload 5, 2) := by decide +kernel
theorem dX3_does_127 : decode cX3_does 127 = .ok (.iconst 3, 1) := by decide +kernel
theorem dX3_does_128 : decode cX3_does 128 = .ok (.invokevirtual 122, 3) := by decide +kernel
theorem dX3_does_131 : decode cX3_does 131 = .ok (.ireturn, 1) := by decide +kernel
set_option maxRecDepth 20000 in
theorem ggX3_run_X3_does : GoodIn wsX3_run wsX3_does := goodIn_r _ [8, 9, 10, 11, 12, 13, 7, 14, 15, 16, 17, 18, 19, 20, 21, 22, 23, 24, 25, 26, 27, 28, 29, 30, 31, 32, 33, 34, 35, 36, 37, 38, 39, 40, 41, 42, 43, 44, 45, 46, 47, 48, 49, 50, 51, 52, 53, 54, 55, 56, 57, 58, 59, 60, 61, 62, 63, 64, 65, 66, 67, 68, 75, 76, 77, 78, 79, 80, 81, 82, 83, 84, 85, 86, 87, 88, 89, 90, 91, 92] (by decide +kernel) (by decide +kernel)
set_option maxRecDepth 20000 in
theorem gX3_run_X3_does : GoodIn wsX3_run (wsV RX3 141 RX3 yX3_does wsX3_does) := goodIn_app (goodIn_of _ (by decide +kernel)) ggX3_run_X3_does
set_option maxRecDepth 20000 in
theorem ggX3_run_X3_met1 : GoodIn wsX3_run wsX3_met1 := goodIn_r _ [72, 73, 74, 75, 76, 77, 78, 79, 80, 81, 82, 83, 84, 85, 86, 87, 88, 89, 90, 91, 92] (by decide +kernel) (by decide +kernel)
set_option maxRecDepth 20000 in
theorem gX3_run_X3_met1 : GoodIn wsX3_run (wsV RX3 49 RX3 yX3_met1 wsX3_met1) := goodIn_app (goodIn_of _ (by decide +kernel)) ggX3_run_X3_met1
theorem dX3_run_0 : decode cX3_run 0 = .ok (.iconst 0, 1) := by decide +kernel
theorem dX3_run_1 : decode cX3_run 1 = .ok (.istore_n 1, 1) := by decide +kernel
theorem dX3_run_2 : decode cX3_run 2 = .ok (.aload_n 0, 1) := by decide +kernel
theorem dX3_run_3 : decode cX3_run 3 = .ok (.aload_n 0, 1) := by decide +kernel
theorem dX3_run_4 : decode cX3_run 4 = .ok (.getfield 135, 3) := by decide +kernel
theorem dX3_run_7 : decode cX3_run 7 = .ok (.putfield 138, 3) := by decide +kernel
theorem dX3_run_10 : decode cX3_run 10 = .ok (.iconst 0, 1) := by decide +kernel
theorem dX3_run_11 : decode cX3_run 11 = .ok (.istore_n 2, 1) := by decide +kernel
theorem dX3_run_12 : decode cX3_run 12 = .ok (.iload_n 2, 1) := by decide +kernel
theorem dX3_run_13 : decode cX3_run 13 = .ok (.aload_n 0, 1) := by decide +kernel
theorem dX3_run_14 : decode cX3_run 14 = .ok (.getfield 135, 3) := by decide +kernel
theorem dX3_run_17 : decode cX3_run 17 = .ok (.if_icmp .ge 40, 3) := by decide +kernel
theorem dX3_run_20 : decode cX3_run 20 = .ok (.aload_n 0, 1) := by decide +kernel
theorem dX3_run_21 : decode cX3_run 21 = .ok (.iconst 5, 1) := by decide +kernel
theorem dX3_run_22 : decode cX3_run 22 = .ok (.iload_n 2, 1) := by decide +kernel
theorem dX3_run_23 : decode cX3_run 23 = .ok (.imul, 1) := by decide +kernel
theorem dX3_run_24 : decode cX3_run 24 = .ok (.invokevirtual 141, 3) := by decide +kernel
theorem dX3_run_27 : decode cX3_run 27 = .ok (.istore_n 3, 1) := by decide +kernel
theorem dX3_run_28 : decode cX3_run 28 = .ok (.aload_n 0, 1) := by decide +kernel
theorem dX3_run_29 : decode cX3_run 29 = .ok (.getfield 36, 3) := by decide +kernel
theorem dX3_run_32 : decode cX3_run 32 = .ok (.iload_n 2, 1) := by decide +kernel
theorem dX3_run_33 : decode cX3_run 33 = .ok (.iload_n 3, 1) := by decide +kernel
theorem dX3_run_34 : decode cX3_run 34 = .ok (.iastore, 1) := by decide +kernel
theorem dX3_run_35 : decode cX3_run 35 = .ok (.iload_n 3, 1) := by decide +kernel
theorem dX3_run_36 : decode cX3_run 36 = .ok (.ifCond .le 12, 3) := by decide +kernel
theorem dX3_run_39 : decode cX3_run 39 = .ok (.aload_n 0, 1) := by decide +kernel
theorem dX3_run_40 : decode cX3_run 40 = .ok (.iload_n 3, 1) := by decide +kernel
theorem dX3_run_41 : decode cX3_run 41 = .ok (.invokevirtual 49, 3) := by decide +kernel
theorem dX3_run_44 : decode cX3_run 44 = .ok (.istore_n 3, 1) := by decide +kernel
theorem dX3_run_45 : decode cX3_run 45 = .ok (.goto 6, 3) := by decide +kernel
theorem dX3_run_48 : decode cX3_run 48 = .ok (.iinc 1 1, 3) := by decide +kernel
theorem dX3_run_51 : decode cX3_run 51 = .ok (.iinc 2 1, 3) := by decide +kernel
theorem dX3_run_54 : decode cX3_run 54 = .ok (.goto (-42), 3) := by decide +kernel
theorem dX3_run_57 : decode cX3_run 57 = .ok (.aload_n 0, 1) := by decide +kernel
theorem dX3_run_58 : decode cX3_run 58 = .ok (.iconst 0, 1) := by decide +kernel
theorem dX3_run_59 : decode cX3_run 59 = .ok (.putfield 135, 3) := by decide +kernel
theorem dX3_run_62 : decode cX3_run 62 = .ok (.iload_n 1, 1) := by decide +kernel
theorem dX3_run_63 : decode cX3_run 63 = .ok (.ireturn, 1) := by decide +kernel
set_option maxRecDepth 20000 in
theorem ggX3_met_X3_beyond : GoodIn wsX3_met wsX3_beyond := goodIn_r _ [6] (by decide +kernel) (by decide +kernel)
set_option maxRecDepth 20000 in
theorem gX3_met_X3_beyond : GoodIn wsX3_met (va_wsS RX3 41 yX3_beyond wsX3_beyond) := goodIn_app (goodIn_of _ (by decide +kernel)) ggX3_met_X3_beyond
theorem dX3_met_0 : decode cX3_met 0 = .ok (.iload_n 1, 1) := by decide +kernel
theorem dX3_met_1 : decode cX3_met 1 = .ok (.i2l, 1) := by decide +kernel
theorem dX3_met_2 : decode cX3_met 2 = .ok (.lconst 0, 1) := by decide +kernel
theorem dX3_met_3 : decode cX3_met 3 = .ok (.aload_n 0, 1) := by decide +kernel
theorem dX3_met_4 : decode cX3_met 4 = .ok (.getfield 138, 3) := by decide +kernel
theorem dX3_met_7 : decode cX3_met 7 = .ok (.iconst 1, 1) := by decide +kernel
theorem dX3_met_8 : decode cX3_met 8 = .ok (.isub, 1) := by decide +kernel
theorem dX3_met_9 : decode cX3_met 9 = .ok (.i2l, 1) := by decide +kernel
theorem dX3_met_10 : decode cX3_met 10 = .ok (.invokestatic 41, 3) := by decide +kernel
theorem dX3_met_13 : decode cX3_met 13 = .ok (.ifCond .eq 8, 3) := by decide +kernel
theorem dX3_met_16 : decode cX3_met 16 = .ok (.bipush (-9), 2) := by decide +kernel
theorem dX3_met_18 : decode cX3_met 18 = .ok (.goto 9, 3) := by decide +kernel
theorem dX3_met_21 : decode cX3_met 21 = .ok (.aload_n 0, 1) := by decide +kernel
theorem dX3_met_22 : decode cX3_met 22 = .ok (.getfield 36, 3) := by decide +kernel
theorem dX3_met_25 : decode cX3_met 25 = .ok (.iload_n 1, 1) := by decide +kernel
theorem dX3_met_26 : decode cX3_met 26 = .ok (.iaload, 1) := by decide +kernel
theorem dX3_met_27 : decode cX3_met 27 = .ok (.ireturn, 1) := by decide +kernel
theorem dX3_fault_0 : decode cX3_fault 0 = .ok (.aload_n 0, 1) := by decide +kernel
theorem dX3_fault_1 : decode cX3_fault 1 = .ok (.getfield 45, 3) := by decide +kernel
theorem dX3_fault_4 : decode cX3_fault 4 = .ok (.ireturn, 1) := by decide +kernel
set_option maxRecDepth 20000 in
theorem ggX3_faults_X3_beyond : GoodIn wsX3_faults wsX3_beyond := goodIn_r _ [6] (by decide +kernel) (by decide +kernel)
set_option maxRecDepth 20000 in
theorem gX3_faults_X3_beyond : GoodIn wsX3_faults (va_wsS RX3 41 yX3_beyond wsX3_beyond) := goodIn_app (goodIn_of _ (by decide +kernel)) ggX3_faults_X3_beyond
theorem dX3_faults_0 : decode cX3_faults 0 = .ok (.iload_n 1, 1) := by decide +kernel
theorem dX3_faults_1 : decode cX3_faults 1 = .ok (.i2l, 1) := by decide +kernel
theorem dX3_faults_2 : decode cX3_faults 2 = .ok (.lconst 0, 1) := by decide +kernel
theorem dX3_faults_3 : decode cX3_faults 3 = .ok (.ldc2_w 133, 3) := by decide +kernel
theorem dX3_faults_6 : decode cX3_faults 6 = .ok (.invokestatic 41, 3) := by decide +kernel
theorem dX3_faults_9 : decode cX3_faults 9 = .ok (.ifCond .eq 8, 3) := by decide +kernel
theorem dX3_faults_12 : decode cX3_faults 12 = .ok (.bipush (-9), 2) := by decide +kernel
theorem dX3_faults_14 : decode cX3_faults 14 = .ok (.goto 9, 3) := by decide +kernel
theorem dX3_faults_17 : decode cX3_faults 17 = .ok (.aload_n 0, 1) := by decide +kernel
theorem dX3_faults_18 : decode cX3_faults 18 = .ok (.getfield 30, 3) := by decide +kernel
theorem dX3_faults_21 : decode cX3_faults 21 = .ok (.iload_n 1, 1) := by decide +kernel
theorem dX3_faults_22 : decode cX3_faults 22 = .ok (.iaload, 1) := by decide +kernel
theorem dX3_faults_23 : decode cX3_faults 23 = .ok (.ireturn, 1) := by decide +kernel
set_option maxRecDepth 20000 in
theorem ggX3_told_X3_no : GoodIn wsX3_told wsX3_no := goodIn_r _ [8, 9, 10, 11, 7, 12] (by decide +kernel) (by decide +kernel)
set_option maxRecDepth 20000 in
theorem gX3_told_X3_no : GoodIn wsX3_told (va_wsS RX3 53 yX3_no wsX3_no) := goodIn_app (goodIn_of _ (by decide +kernel)) ggX3_told_X3_no
theorem dX3_told_0 : decode cX3_told 0 = .ok (.iload_n 1, 1) := by decide +kernel
theorem dX3_told_1 : decode cX3_told 1 = .ok (.invokestatic 53, 3) := by decide +kernel
theorem dX3_told_4 : decode cX3_told 4 = .ok (.ifCond .eq 5, 3) := by decide +kernel
theorem dX3_told_7 : decode cX3_told 7 = .ok (.iconst (-1), 1) := by decide +kernel
theorem dX3_told_8 : decode cX3_told 8 = .ok (.ireturn, 1) := by decide +kernel
theorem dX3_told_9 : decode cX3_told 9 = .ok (.iload_n 2, 1) := by decide +kernel
theorem dX3_told_10 : decode cX3_told 10 = .ok (.tableswitch 145 0 2 #[26, 59, 124], 26) := by decide +kernel
theorem dX3_told_36 : decode cX3_told 36 = .ok (.aload_n 0, 1) := by decide +kernel
theorem dX3_told_37 : decode cX3_told 37 = .ok (.getfield 7, 3) := by decide +kernel
theorem dX3_told_40 : decode cX3_told 40 = .ok (.iload_n 1, 1) := by decide +kernel
theorem dX3_told_41 : decode cX3_told 41 = .ok (.iaload, 1) := by decide +kernel
theorem dX3_told_42 : decode cX3_told 42 = .ok (.iconst 2, 1) := by decide +kernel
theorem dX3_told_43 : decode cX3_told 43 = .ok (.if_icmp .ge 12, 3) := by decide +kernel
theorem dX3_told_46 : decode cX3_told 46 = .ok (.aload_n 0, 1) := by decide +kernel
theorem dX3_told_47 : decode cX3_told 47 = .ok (.getfield 7, 3) := by decide +kernel
theorem dX3_told_50 : decode cX3_told 50 = .ok (.iload_n 1, 1) := by decide +kernel
theorem dX3_told_51 : decode cX3_told 51 = .ok (.iaload, 1) := by decide +kernel
theorem dX3_told_52 : decode cX3_told 52 = .ok (.goto 16, 3) := by decide +kernel
theorem dX3_told_55 : decode cX3_told 55 = .ok (.iconst 2, 1) := by decide +kernel
theorem dX3_told_56 : decode cX3_told 56 = .ok (.aload_n 0, 1) := by decide +kernel
theorem dX3_told_57 : decode cX3_told 57 = .ok (.getfield 19, 3) := by decide +kernel
theorem dX3_told_60 : decode cX3_told 60 = .ok (.aload_n 0, 1) := by decide +kernel
theorem dX3_told_61 : decode cX3_told 61 = .ok (.getfield 16, 3) := by decide +kernel
theorem dX3_told_64 : decode cX3_told 64 = .ok (.iload_n 1, 1) := by decide +kernel
theorem dX3_told_65 : decode cX3_told 65 = .ok (.iaload, 1) := by decide +kernel
theorem dX3_told_66 : decode cX3_told 66 = .ok (.iaload, 1) := by decide +kernel
theorem dX3_told_67 : decode cX3_told 67 = .ok (.iadd, 1) := by decide +kernel
theorem dX3_told_68 : decode cX3_told 68 = .ok (.ireturn, 1) := by decide +kernel
theorem dX3_told_69 : decode cX3_told 69 = .ok (.iconst 0, 1) := by decide +kernel
theorem dX3_told_70 : decode cX3_told 70 = .ok (.istore_n 3, 1) := by decide +kernel
theorem dX3_told_71 : decode cX3_told 71 = .ok (.iconst 0, 1) := by decide +kernel
theorem dX3_told_72 : decode cX3_told 72 = .ok (.istore 4, 2) := by decide +kernel
theorem dX3_told_74 : decode cX3_told 74 = .ok (.iload 4, 2) := by decide +kernel
theorem dX3_told_76 : decode cX3_told 76 = .ok (.bipush 8, 2) := by decide +kernel
theorem dX3_told_78 : decode cX3_told 78 = .ok (.if_icmp .ge 54, 3) := by decide +kernel
theorem dX3_told_81 : decode cX3_told 81 = .ok (.iload_n 3, 1) := by decide +kernel
theorem dX3_told_82 : decode cX3_told 82 = .ok (.aload_n 0, 1) := by decide +kernel
theorem dX3_told_83 : decode cX3_told 83 = .ok (.getfield 7, 3) := by decide +kernel
theorem dX3_told_86 : decode cX3_told 86 = .ok (.iload_n 1, 1) := by decide +kernel
theorem dX3_told_87 : decode cX3_told 87 = .ok (.iaload, 1) := by decide +kernel
theorem dX3_told_88 : decode cX3_told 88 = .ok (.iconst 2, 1) := by decide +kernel
theorem dX3_told_89 : decode cX3_told 89 = .ok (.if_icmp .ne 34, 3) := by decide +kernel
theorem dX3_told_92 : decode cX3_told 92 = .ok (.aload_n 0, 1) := by decide +kernel
theorem dX3_told_93 : decode cX3_told 93 = .ok (.getfield 7, 3) := by decide +kernel
theorem dX3_told_96 : decode cX3_told 96 = .ok (.iload 4, 2) := by decide +kernel
theorem dX3_told_98 : decode cX3_told 98 = .ok (.iaload, 1) := by decide +kernel
theorem dX3_told_99 : decode cX3_told 99 = .ok (.iconst 2, 1) := by decide +kernel
theorem dX3_told_100 : decode cX3_told 100 = .ok (.if_icmp .ne 23, 3) := by decide +kernel
theorem dX3_told_103 : decode cX3_told 103 = .ok (.aload_n 0, 1) := by decide +kernel
theorem dX3_told_104 : decode cX3_told 104 = .ok (.getfield 16, 3) := by decide +kernel
theorem dX3_told_107 : decode cX3_told 107 = .ok (.iload 4, 2) := by decide +kernel
theorem dX3_told_109 : decode cX3_told 109 = .ok (.iaload, 1) := by decide +kernel
theorem dX3_told_110 : decode cX3_told 110 = .ok (.aload_n 0, 1) := by decide +kernel
theorem dX3_told_111 : decode cX3_told 111 = .ok (.getfield 16, 3) := by decide +kernel
theorem dX3_told_114 : decode cX3_told 114 = .ok (.iload_n 1, 1) := by decide +kernel
theorem dX3_told_115 : decode cX3_told 115 = .ok (.iaload, 1) := by decide +kernel
theorem dX3_told_116 : decode cX3_told 116 = .ok (.if_icmp .ne 7, 3) := by decide +kernel
theorem dX3_told_119 : decode cX3_told 119 = .ok (.iconst 1, 1) := by decide +kernel
theorem dX3_told_120 : decode cX3_told 120 = .ok (.goto 4, 3) := by decide +kernel
theorem dX3_told_123 : decode cX3_told 123 = .ok (.iconst 0, 1) := by decide +kernel
theorem dX3_told_124 : decode cX3_told 124 = .ok (.iadd, 1) := by decide +kernel
theorem dX3_told_125 : decode cX3_told 125 = .ok (.istore_n 3, 1) := by decide +kernel
theorem dX3_told_126 : decode cX3_told 126 = .ok (.iinc 4 1, 3) := by decide +kernel
theorem dX3_told_129 : decode cX3_told 129 = .ok (.goto (-55), 3) := by decide +kernel
theorem dX3_told_132 : decode cX3_told 132 = .ok (.iload_n 3, 1) := by decide +kernel
theorem dX3_told_133 : decode cX3_told 133 = .ok (.ireturn, 1) := by decide +kernel
theorem dX3_told_134 : decode cX3_told 134 = .ok (.aload_n 0, 1) := by decide +kernel
theorem dX3_told_135 : decode cX3_told 135 = .ok (.getfield 7, 3) := by decide +kernel
theorem dX3_told_138 : decode cX3_told 138 = .ok (.iload_n 1, 1) := by decide +kernel
theorem dX3_told_139 : decode cX3_told 139 = .ok (.iaload, 1) := by decide +kernel
theorem dX3_told_140 : decode cX3_told 140 = .ok (.iconst 1, 1) := by decide +kernel
theorem dX3_told_141 : decode cX3_told 141 = .ok (.if_icmp .ne 12, 3) := by decide +kernel
theorem dX3_told_144 : decode cX3_told 144 = .ok (.aload_n 0, 1) := by decide +kernel
theorem dX3_told_145 : decode cX3_told 145 = .ok (.getfield 13, 3) := by decide +kernel
theorem dX3_told_148 : decode cX3_told 148 = .ok (.iload_n 1, 1) := by decide +kernel
theorem dX3_told_149 : decode cX3_told 149 = .ok (.iaload, 1) := by decide +kernel
theorem dX3_told_150 : decode cX3_told 150 = .ok (.goto 4, 3) := by decide +kernel
theorem dX3_told_153 : decode cX3_told 153 = .ok (.iconst 0, 1) := by decide +kernel
theorem dX3_told_154 : decode cX3_told 154 = .ok (.ireturn, 1) := by decide +kernel
theorem dX3_told_155 : decode cX3_told 155 = .ok (.bipush (-2), 2) := by decide +kernel
theorem dX3_told_157 : decode cX3_told 157 = .ok (.ireturn, 1) := by decide +kernel
theorem dX3_hand_0 : decode cX3_hand 0 = .ok (.aload_n 0, 1) := by decide +kernel
theorem dX3_hand_1 : decode cX3_hand 1 = .ok (.getfield 66, 3) := by decide +kernel
theorem dX3_hand_4 : decode cX3_hand 4 = .ok (.ifCond .eq 10, 3) := by decide +kernel
theorem dX3_hand_7 : decode cX3_hand 7 = .ok (.aload_n 0, 1) := by decide +kernel
theorem dX3_hand_8 : decode cX3_hand 8 = .ok (.getfield 70, 3) := by decide +kernel
theorem dX3_hand_11 : decode cX3_hand 11 = .ok (.goto 5, 3) := by decide +kernel
theorem dX3_hand_14 : decode cX3_hand 14 = .ok (.bipush (-9), 2) := by decide +kernel
theorem dX3_hand_16 : decode cX3_hand 16 = .ok (.ireturn, 1) := by decide +kernel
theorem dX3_value_0 : decode cX3_value 0 = .ok (.aload_n 0, 1) := by decide +kernel
theorem dX3_value_1 : decode cX3_value 1 = .ok (.getfield 66, 3) := by decide +kernel
theorem dX3_value_4 : decode cX3_value 4 = .ok (.ifCond .eq 10, 3) := by decide +kernel
theorem dX3_value_7 : decode cX3_value 7 = .ok (.aload_n 0, 1) := by decide +kernel
theorem dX3_value_8 : decode cX3_value 8 = .ok (.getfield 73, 3) := by decide +kernel
theorem dX3_value_11 : decode cX3_value 11 = .ok (.goto 4, 3) := by decide +kernel
theorem dX3_value_14 : decode cX3_value 14 = .ok (.lconst 0, 1) := by decide +kernel
theorem dX3_value_15 : decode cX3_value 15 = .ok (.lreturn, 1) := by decide +kernel
set_option maxRecDepth 20000 in
theorem ggL_law_X2_init : GoodIn wsL_law wsX2_init := goodIn_r _ [9, 10, 11, 12, 13, 14, 15, 16, 17, 18, 19, 20, 21, 22, 23, 24, 25, 26, 27, 28, 29, 30, 31, 32, 33, 34, 455, 456, 457, 458, 425, 426, 427, 428, 429, 430, 431, 432, 433, 434, 435, 436, 459, 460, 461, 462, 463] (by decide +kernel) (by decide +kernel)
set_option maxRecDepth 20000 in
theorem gL_law_X2_init : GoodIn wsL_law (wsX2_init) := ggL_law_X2_init
set_option maxRecDepth 20000 in
theorem ggL_law_X3_init : GoodIn wsL_law wsX3_init := goodIn_r _ [37, 38, 11, 12, 24, 39, 40, 41, 42, 43, 44, 30, 45, 46, 47, 48, 437, 438, 439, 440, 441, 442, 443, 444, 445, 446, 447, 448, 449, 450, 451, 452, 453, 454] (by decide +kernel) (by decide +kernel)
set_option maxRecDepth 20000 in
theorem gL_law_X3_init : GoodIn wsL_law (wsX3_init) := ggL_law_X3_init
set_option maxRecDepth 20000 in
theorem ggL_law_X2_row : GoodIn wsL_law wsX2_row := goodIn_r _ [52, 53, 54, 2, 55, 56, 57, 58, 59, 17, 16, 18, 60, 61, 62, 63, 64, 65, 66, 15, 67, 68, 69, 70, 31, 425, 426, 427, 428, 429, 430, 431, 432, 433, 434, 435, 436, 455, 456, 457, 458] (by decide +kernel) (by decide +kernel)
set_option maxRecDepth 20000 in
theorem gL_law_X2_row : GoodIn wsL_law (wsV RL 13 RX2 yX2_row wsX2_row) := goodIn_app (goodIn_of _ (by decide +kernel)) ggL_law_X2_row
set_option maxRecDepth 20000 in
theorem ggL_law_X3_row : GoodIn wsL_law wsX3_row := goodIn_r _ [74, 75, 76, 39, 41, 77, 42, 43, 45, 78, 79, 5, 80, 81, 82, 83, 84, 437, 438, 439, 440, 441, 442, 443, 444, 445, 446, 447, 448, 449, 450, 451, 452, 453, 454] (by decide +kernel) (by decide +kernel)
set_option maxRecDepth 20000 in
theorem gL_law_X3_row : GoodIn wsL_law (wsV RL 17 RX3 yX3_row wsX3_row) := goodIn_app (goodIn_of _ (by decide +kernel)) ggL_law_X3_row
set_option maxRecDepth 20000 in
theorem ggL_law_X2_note : GoodIn wsL_law wsX2_note := goodIn_r _ [88, 53, 54, 2, 55, 56, 57, 58, 59, 17, 16, 18, 60, 61, 62, 63, 89, 90, 91, 15, 92, 68, 69, 425, 426, 427, 428, 429, 430, 431, 432, 433, 434, 435, 436, 455, 456, 457, 458] (by decide +kernel) (by decide +kernel)
set_option maxRecDepth 20000 in
theorem gL_law_X2_note : GoodIn wsL_law (wsV RL 18 RX2 yX2_note wsX2_note) := goodIn_app (goodIn_of _ (by decide +kernel)) ggL_law_X2_note
set_option maxRecDepth 20000 in
theorem ggL_law_X3_note : GoodIn wsL_law wsX3_note := goodIn_r _ [96, 39, 40, 78, 79, 5, 80, 81, 82, 83, 84, 437, 438, 439, 440, 441, 442, 443, 444, 445, 446, 447, 448, 449, 450, 451, 452, 453, 454] (by decide +kernel) (by decide +kernel)
set_option maxRecDepth 20000 in
theorem gL_law_X3_note : GoodIn wsL_law (wsV RL 22 RX3 yX3_note wsX3_note) := goodIn_app (goodIn_of _ (by decide +kernel)) ggL_law_X3_note
set_option maxRecDepth 20000 in
theorem ggL_law_X2_share : GoodIn wsL_law wsX2_share := goodIn_r _ [100, 17, 53, 54, 2, 55, 425, 426, 427, 428, 429, 430, 431, 432, 433, 434, 435, 436] (by decide +kernel) (by decide +kernel)
set_option maxRecDepth 20000 in
theorem gL_law_X2_share : GoodIn wsL_law (wsV RL 23 RX2 yX2_share wsX2_share) := goodIn_app (goodIn_of _ (by decide +kernel)) ggL_law_X2_share
set_option maxRecDepth 20000 in
theorem ggL_law_X3_share : GoodIn wsL_law wsX3_share := goodIn_r _ [104, 39, 40, 41, 78, 79, 5, 80, 81, 82, 83, 84, 437, 438, 439, 440, 441, 442, 443, 444, 445, 446, 447, 448, 449, 450, 451, 452, 453, 454] (by decide +kernel) (by decide +kernel)
set_option maxRecDepth 20000 in
theorem gL_law_X3_share : GoodIn wsL_law (wsV RL 26 RX3 yX3_share wsX3_share) := goodIn_app (goodIn_of _ (by decide +kernel)) ggL_law_X3_share
set_option maxRecDepth 20000 in
theorem ggL_law_X2_clear : GoodIn wsL_law wsX2_clear := goodIn_r _ [108, 17, 16, 53, 54, 2, 55, 425, 426, 427, 428, 429, 430, 431, 432, 433, 434, 435, 436] (by decide +kernel) (by decide +kernel)
set_option maxRecDepth 20000 in
theorem gL_law_X2_clear : GoodIn wsL_law (wsV RL 27 RX2 yX2_clear wsX2_clear) := goodIn_app (goodIn_of _ (by decide +kernel)) ggL_law_X2_clear
set_option maxRecDepth 20000 in
theorem ggL_law_X3_clear : GoodIn wsL_law wsX3_clear := goodIn_r _ [112, 39, 78, 79, 5, 80, 81, 82, 83, 84, 437, 438, 439, 440, 441, 442, 443, 444, 445, 446, 447, 448, 449, 450, 451, 452, 453, 454] (by decide +kernel) (by decide +kernel)
set_option maxRecDepth 20000 in
theorem gL_law_X3_clear : GoodIn wsL_law (wsV RL 31 RX3 yX3_clear wsX3_clear) := goodIn_app (goodIn_of _ (by decide +kernel)) ggL_law_X3_clear
set_option maxRecDepth 20000 in
theorem ggL_law_X2_think : GoodIn wsL_law wsX2_think := goodIn_r _ [116, 117, 118, 2, 119, 120, 121, 122, 123, 19, 124, 425, 426, 427, 428, 429, 430, 431, 432, 433, 434, 435, 436] (by decide +kernel) (by decide +kernel)
set_option maxRecDepth 20000 in
theorem gL_law_X2_think : GoodIn wsL_law (wsV RL 34 RX2 yX2_think wsX2_think) := goodIn_app (goodIn_of _ (by decide +kernel)) ggL_law_X2_think
set_option maxRecDepth 20000 in
theorem ggL_law_X3_think : GoodIn wsL_law wsX3_think := goodIn_r _ [128, 129, 130, 131, 132, 82, 83, 5, 84, 437, 438, 439, 440, 441, 442, 443, 444, 445, 446, 447, 448, 449, 450, 451, 452, 453, 454] (by decide +kernel) (by decide +kernel)
set_option maxRecDepth 20000 in
theorem gL_law_X3_think : GoodIn wsL_law (wsV RL 38 RX3 yX3_think wsX3_think) := goodIn_app (goodIn_of _ (by decide +kernel)) ggL_law_X3_think
set_option maxRecDepth 20000 in
theorem ggL_law_X2_card : GoodIn wsL_law wsX2_card := goodIn_r _ [136, 137, 120, 121, 122, 2, 123, 19, 124, 425, 426, 427, 428, 429, 430, 431, 432, 433, 434, 435, 436] (by decide +kernel) (by decide +kernel)
set_option maxRecDepth 20000 in
theorem gL_law_X2_card : GoodIn wsL_law (wsV RL 39 RX2 yX2_card wsX2_card) := goodIn_app (goodIn_of _ (by decide +kernel)) ggL_law_X2_card
set_option maxRecDepth 20000 in
theorem ggL_law_X3_card : GoodIn wsL_law wsX3_card := goodIn_r _ [141, 142, 130, 131, 132, 437, 438, 439, 440, 441, 442, 443, 444, 445, 446, 447, 448, 449, 450, 451, 452, 453, 454] (by decide +kernel) (by decide +kernel)
set_option maxRecDepth 20000 in
theorem gL_law_X3_card : GoodIn wsL_law (wsV RL 43 RX3 yX3_card wsX3_card) := goodIn_app (goodIn_of _ (by decide +kernel)) ggL_law_X3_card
set_option maxRecDepth 20000 in
theorem ggL_law_X2_drop : GoodIn wsL_law wsX2_drop := goodIn_r _ [146, 19, 120, 121, 122, 2, 123, 124, 425, 426, 427, 428, 429, 430, 431, 432, 433, 434, 435, 436] (by decide +kernel) (by decide +kernel)
set_option maxRecDepth 20000 in
theorem gL_law_X2_drop : GoodIn wsL_law (wsV RL 44 RX2 yX2_drop wsX2_drop) := goodIn_app (goodIn_of _ (by decide +kernel)) ggL_law_X2_drop
set_option maxRecDepth 20000 in
theorem ggL_law_X3_drop : GoodIn wsL_law wsX3_drop := goodIn_r _ [150, 130, 151, 152, 153, 5, 154, 131, 437, 438, 439, 440, 441, 442, 443, 444, 445, 446, 447, 448, 449, 450, 451, 452, 453, 454] (by decide +kernel) (by decide +kernel)
set_option maxRecDepth 20000 in
theorem gL_law_X3_drop : GoodIn wsL_law (wsV RL 47 RX3 yX3_drop wsX3_drop) := goodIn_app (goodIn_of _ (by decide +kernel)) ggL_law_X3_drop
set_option maxRecDepth 20000 in
theorem ggL_law_X2_take : GoodIn wsL_law wsX2_take := goodIn_r _ [158, 17, 159, 19, 53, 54, 2, 55, 160, 161, 162, 15, 163, 70, 164, 165, 166, 167, 68, 168, 169, 170, 171, 172, 26, 173, 174, 175, 176, 31, 120, 121, 122, 123, 124, 425, 426, 427, 428, 429, 430, 431, 432, 433, 434, 435, 436, 455, 456, 457, 458] (by decide +kernel) (by decide +kernel)
set_option maxRecDepth 20000 in
theorem gL_law_X2_take : GoodIn wsL_law (wsV RL 48 RX2 yX2_take wsX2_take) := goodIn_app (goodIn_of _ (by decide +kernel)) ggL_law_X2_take
set_option maxRecDepth 20000 in
theorem ggL_law_X3_take : GoodIn wsL_law wsX3_take := goodIn_r _ [180, 78, 79, 5, 80, 81, 82, 83, 84, 181, 182, 183, 184, 130, 42, 41, 131, 45, 132, 185, 186, 187, 188, 43, 189, 190, 191, 192, 39, 193, 194, 195, 196, 197, 198, 199, 200, 151, 152, 153, 154, 201, 202, 203, 204, 205, 206, 207, 208, 209, 46, 437, 438, 439, 440, 441, 442, 443, 444, 445, 446, 447, 448, 449, 450, 451, 452, 453, 454] (by decide +kernel) (by decide +kernel)
set_option maxRecDepth 20000 in
theorem gL_law_X3_take : GoodIn wsL_law (wsV RL 51 RX3 yX3_take wsX3_take) := goodIn_app (goodIn_of _ (by decide +kernel)) ggL_law_X3_take
set_option maxRecDepth 20000 in
theorem ggL_law_X2_lay : GoodIn wsL_law wsX2_lay := goodIn_r _ [213, 19, 17, 159, 124, 53, 54, 2, 55, 214, 215, 216, 15, 217, 68, 218, 161, 162, 163, 70, 164, 165, 166, 167, 219, 220, 168, 169, 170, 171, 172, 26, 425, 426, 427, 428, 429, 430, 431, 432, 433, 434, 435, 436, 455, 456, 457, 458] (by decide +kernel) (by decide +kernel)
set_option maxRecDepth 20000 in
theorem gL_law_X2_lay : GoodIn wsL_law (wsV RL 52 RX2 yX2_lay wsX2_lay) := goodIn_app (goodIn_of _ (by decide +kernel)) ggL_law_X2_lay
set_option maxRecDepth 20000 in
theorem ggL_law_X3_lay : GoodIn wsL_law wsX3_lay := goodIn_r _ [224, 130, 78, 79, 5, 80, 81, 82, 83, 84, 225, 226, 227, 228, 131, 45, 132, 229, 230, 231, 232, 42, 41, 185, 186, 187, 188, 43, 189, 190, 191, 192, 39, 233, 234, 235, 197, 198, 199, 200, 201, 202, 203, 204, 205, 206, 207, 208, 209, 46, 437, 438, 439, 440, 441, 442, 443, 444, 445, 446, 447, 448, 449, 450, 451, 452, 453, 454] (by decide +kernel) (by decide +kernel)
set_option maxRecDepth 20000 in
theorem gL_law_X3_lay : GoodIn wsL_law (wsV RL 55 RX3 yX3_lay wsX3_lay) := goodIn_app (goodIn_of _ (by decide +kernel)) ggL_law_X3_lay
set_option maxRecDepth 20000 in
theorem ggL_law_X2_size : GoodIn wsL_law wsX2_size := goodIn_r _ [239, 17, 240, 53, 54, 2, 55, 241, 165, 166, 15, 167, 68, 168, 169, 170, 171, 172, 26, 425, 426, 427, 428, 429, 430, 431, 432, 433, 434, 435, 436, 455, 456, 457, 458] (by decide +kernel) (by decide +kernel)
set_option maxRecDepth 20000 in
theorem gL_law_X2_size : GoodIn wsL_law (wsV RL 56 RX2 yX2_size wsX2_size) := goodIn_app (goodIn_of _ (by decide +kernel)) ggL_law_X2_size
set_option maxRecDepth 20000 in
theorem ggL_law_X3_size : GoodIn wsL_law wsX3_size := goodIn_r _ [245, 43, 41, 78, 79, 5, 80, 81, 82, 83, 84, 189, 190, 191, 192, 39, 201, 202, 203, 204, 205, 206, 207, 208, 209, 46, 437, 438, 439, 440, 441, 442, 443, 444, 445, 446, 447, 448, 449, 450, 451, 452, 453, 454] (by decide +kernel) (by decide +kernel)
set_option maxRecDepth 20000 in
theorem gL_law_X3_size : GoodIn wsL_law (wsV RL 59 RX3 yX3_size wsX3_size) := goodIn_app (goodIn_of _ (by decide +kernel)) ggL_law_X3_size
set_option maxRecDepth 20000 in
theorem ggL_law_X2_pour : GoodIn wsL_law wsX2_pour := goodIn_r _ [249, 17, 53, 54, 2, 55, 250, 251, 252, 253, 254, 255, 159, 160, 161, 162, 15, 163, 70, 164, 165, 166, 167, 68, 173, 174, 175, 176, 31, 214, 215, 216, 217, 218, 219, 220, 168, 169, 170, 171, 172, 26, 425, 426, 427, 428, 429, 430, 431, 432, 433, 434, 435, 436, 455, 456, 457, 458] (by decide +kernel) (by decide +kernel)
set_option maxRecDepth 20000 in
theorem gL_law_X2_pour : GoodIn wsL_law (wsV RL 60 RX2 yX2_pour wsX2_pour) := goodIn_app (goodIn_of _ (by decide +kernel)) ggL_law_X2_pour
set_option maxRecDepth 20000 in
theorem ggL_law_X3_pour : GoodIn wsL_law wsX3_pour := goodIn_r _ [259, 260, 76, 261, 78, 79, 5, 80, 81, 82, 83, 84, 262, 263, 264, 265, 45, 185, 186, 187, 188, 43, 41, 189, 190, 191, 192, 39, 266, 267, 268, 269, 42, 193, 194, 195, 196, 197, 198, 199, 200, 229, 230, 231, 232, 233, 234, 235, 205, 206, 207, 208, 209, 46, 437, 438, 439, 440, 441, 442, 443, 444, 445, 446, 447, 448, 449, 450, 451, 452, 453, 454] (by decide +kernel) (by decide +kernel)
set_option maxRecDepth 20000 in
theorem gL_law_X3_pour : GoodIn wsL_law (wsV RL 64 RX3 yX3_pour wsX3_pour) := goodIn_app (goodIn_of _ (by decide +kernel)) ggL_law_X3_pour
set_option maxRecDepth 20000 in
theorem ggL_law_X2_swap : GoodIn wsL_law wsX2_swap := goodIn_r _ [273, 17, 159, 53, 54, 2, 55, 274, 275, 276, 160, 161, 162, 15, 163, 70, 164, 165, 166, 167, 68, 173, 174, 175, 176, 31, 214, 215, 216, 217, 218, 219, 220, 168, 169, 170, 171, 172, 26, 425, 426, 427, 428, 429, 430, 431, 432, 433, 434, 435, 436, 455, 456, 457, 458] (by decide +kernel) (by decide +kernel)
set_option maxRecDepth 20000 in
theorem gL_law_X2_swap : GoodIn wsL_law (wsV RL 65 RX2 yX2_swap wsX2_swap) := goodIn_app (goodIn_of _ (by decide +kernel)) ggL_law_X2_swap
set_option maxRecDepth 20000 in
theorem ggL_law_X3_swap : GoodIn wsL_law wsX3_swap := goodIn_r _ [280, 78, 79, 5, 80, 81, 82, 83, 84, 281, 282, 283, 284, 45, 185, 186, 187, 188, 43, 41, 189, 190, 191, 192, 39, 266, 267, 268, 269, 42, 193, 194, 195, 196, 197, 198, 199, 200, 229, 230, 231, 232, 233, 234, 235, 201, 202, 203, 204, 205, 206, 207, 208, 209, 46, 437, 438, 439, 440, 441, 442, 443, 444, 445, 446, 447, 448, 449, 450, 451, 452, 453, 454] (by decide +kernel) (by decide +kernel)
set_option maxRecDepth 20000 in
theorem gL_law_X3_swap : GoodIn wsL_law (wsV RL 69 RX3 yX3_swap wsX3_swap) := goodIn_app (goodIn_of _ (by decide +kernel)) ggL_law_X3_swap
set_option maxRecDepth 20000 in
theorem ggL_law_X2_turn : GoodIn wsL_law wsX2_turn := goodIn_r _ [288, 17, 53, 54, 2, 55, 241, 165, 166, 15, 167, 68, 168, 169, 170, 171, 172, 26, 289, 290, 291, 292, 70, 31, 425, 426, 427, 428, 429, 430, 431, 432, 433, 434, 435, 436, 455, 456, 457, 458] (by decide +kernel) (by decide +kernel)
set_option maxRecDepth 20000 in
theorem gL_law_X2_turn : GoodIn wsL_law (wsV RL 70 RX2 yX2_turn wsX2_turn) := goodIn_app (goodIn_of _ (by decide +kernel)) ggL_law_X2_turn
set_option maxRecDepth 20000 in
theorem ggL_law_X3_turn : GoodIn wsL_law wsX3_turn := goodIn_r _ [296, 43, 41, 78, 79, 5, 80, 81, 82, 83, 84, 297, 298, 299, 300, 45, 189, 190, 191, 192, 39, 197, 198, 199, 200, 201, 202, 203, 204, 205, 206, 207, 208, 209, 46, 437, 438, 439, 440, 441, 442, 443, 444, 445, 446, 447, 448, 449, 450, 451, 452, 453, 454] (by decide +kernel) (by decide +kernel)
set_option maxRecDepth 20000 in
theorem gL_law_X3_turn : GoodIn wsL_law (wsV RL 73 RX3 yX3_turn wsX3_turn) := goodIn_app (goodIn_of _ (by decide +kernel)) ggL_law_X3_turn
set_option maxRecDepth 20000 in
theorem ggL_law_X2_sum : GoodIn wsL_law wsX2_sum := goodIn_r _ [304, 17, 53, 54, 2, 55, 241, 165, 166, 15, 167, 68, 168, 169, 170, 171, 172, 26, 305, 306, 307, 308, 70, 31, 425, 426, 427, 428, 429, 430, 431, 432, 433, 434, 435, 436, 455, 456, 457, 458] (by decide +kernel) (by decide +kernel)
set_option maxRecDepth 20000 in
theorem gL_law_X2_sum : GoodIn wsL_law (wsV RL 74 RX2 yX2_sum wsX2_sum) := goodIn_app (goodIn_of _ (by decide +kernel)) ggL_law_X2_sum
set_option maxRecDepth 20000 in
theorem ggL_law_X3_sum : GoodIn wsL_law wsX3_sum := goodIn_r _ [312, 43, 41, 45, 78, 79, 5, 80, 81, 82, 83, 84, 189, 190, 191, 192, 39, 205, 206, 207, 208, 209, 46, 197, 198, 199, 200, 437, 438, 439, 440, 441, 442, 443, 444, 445, 446, 447, 448, 449, 450, 451, 452, 453, 454] (by decide +kernel) (by decide +kernel)
set_option maxRecDepth 20000 in
theorem gL_law_X3_sum : GoodIn wsL_law (wsV RL 78 RX3 yX3_sum wsX3_sum) := goodIn_app (goodIn_of _ (by decide +kernel)) ggL_law_X3_sum
set_option maxRecDepth 20000 in
theorem ggL_law_X2_find : GoodIn wsL_law wsX2_find := goodIn_r _ [316, 17, 19, 124, 53, 54, 2, 55, 241, 165, 166, 15, 167, 68, 168, 169, 170, 171, 172, 26, 317, 318, 319, 320, 70, 31, 321, 174, 175, 176, 425, 426, 427, 428, 429, 430, 431, 432, 433, 434, 435, 436, 455, 456, 457, 458] (by decide +kernel) (by decide +kernel)
set_option maxRecDepth 20000 in
theorem gL_law_X2_find : GoodIn wsL_law (wsV RL 79 RX2 yX2_find wsX2_find) := goodIn_app (goodIn_of _ (by decide +kernel)) ggL_law_X2_find
set_option maxRecDepth 20000 in
theorem ggL_law_X3_find : GoodIn wsL_law wsX3_find := goodIn_r _ [325, 42, 41, 43, 130, 131, 45, 132, 78, 79, 5, 80, 81, 82, 83, 84, 189, 190, 191, 192, 39, 201, 202, 203, 204, 205, 206, 207, 208, 209, 46, 197, 198, 199, 200, 193, 194, 195, 196, 437, 438, 439, 440, 441, 442, 443, 444, 445, 446, 447, 448, 449, 450, 451, 452, 453, 454] (by decide +kernel) (by decide +kernel)
set_option maxRecDepth 20000 in
theorem gL_law_X3_find : GoodIn wsL_law (wsV RL 82 RX3 yX3_find wsX3_find) := goodIn_app (goodIn_of _ (by decide +kernel)) ggL_law_X3_find
set_option maxRecDepth 20000 in
theorem ggL_law_X2_order : GoodIn wsL_law wsX2_order := goodIn_r _ [329, 330, 21, 53, 54, 2, 55, 250, 251, 252, 331, 332, 333, 23, 334, 335, 336, 337, 338, 339, 425, 426, 427, 428, 429, 430, 431, 432, 433, 434, 435, 436, 459, 460, 461, 462, 463] (by decide +kernel) (by decide +kernel)
set_option maxRecDepth 20000 in
theorem gL_law_X2_order : GoodIn wsL_law (wsV RL 83 RX2 yX2_order wsX2_order) := goodIn_app (goodIn_of _ (by decide +kernel)) ggL_law_X2_order
set_option maxRecDepth 20000 in
theorem ggL_law_X3_order : GoodIn wsL_law wsX3_order := goodIn_r _ [343, 344, 260, 345, 47, 78, 79, 5, 80, 81, 82, 83, 84, 437, 438, 439, 440, 441, 442, 443, 444, 445, 446, 447, 448, 449, 450, 451, 452, 453, 454] (by decide +kernel) (by decide +kernel)
set_option maxRecDepth 20000 in
theorem gL_law_X3_order : GoodIn wsL_law (wsV RL 86 RX3 yX3_order wsX3_order) := goodIn_app (goodIn_of _ (by decide +kernel)) ggL_law_X3_order
set_option maxRecDepth 20000 in
theorem ggL_law_X2_run : GoodIn wsL_law wsX2_run := goodIn_r _ [349, 330, 26, 21, 25, 172, 350, 351, 352, 353, 2, 354, 355, 356, 357, 358, 359, 360, 156, 157, 158, 17, 159, 19, 53, 54, 55, 160, 161, 162, 15, 163, 70, 164, 165, 166, 167, 68, 168, 169, 170, 171, 173, 174, 175, 176, 31, 120, 121, 122, 123, 124, 361, 211, 212, 213, 214, 215, 216, 217, 218, 219, 220, 362, 271, 272, 273, 274, 275, 276, 363, 286, 287, 288, 241, 289, 290, 291, 292, 364, 247, 248, 249, 250, 251, 252, 253, 254, 255, 425, 426, 427, 428, 429, 430, 431, 432, 433, 434, 435, 436, 459, 460, 461, 462, 463, 455, 456, 457, 458] (by decide +kernel) (by decide +kernel)
set_option maxRecDepth 20000 in
theorem gL_law_X2_run : GoodIn wsL_law (wsV RL 87 RX2 yX2_run wsX2_run) := goodIn_app (goodIn_of _ (by decide +kernel)) ggL_law_X2_run
set_option maxRecDepth 20000 in
theorem ggL_law_X3_run : GoodIn wsL_law wsX3_run := goodIn_r _ [368, 345, 369, 48, 370, 371, 372, 5, 373, 47, 130, 181, 182, 183, 184, 42, 41, 131, 45, 132, 185, 186, 187, 188, 43, 189, 190, 191, 192, 39, 82, 83, 84, 193, 194, 195, 196, 197, 198, 199, 200, 225, 226, 227, 228, 229, 230, 231, 232, 233, 234, 235, 281, 282, 283, 284, 266, 267, 268, 269, 297, 298, 299, 300, 262, 263, 264, 265, 261, 205, 206, 207, 208, 209, 46, 437, 438, 439, 440, 441, 442, 443, 444, 445, 446, 447, 448, 449, 450, 451, 452, 453, 454] (by decide +kernel) (by decide +kernel)
set_option maxRecDepth 20000 in
theorem gL_law_X3_run : GoodIn wsL_law (wsV RL 90 RX3 yX3_run wsX3_run) := goodIn_app (goodIn_of _ (by decide +kernel)) ggL_law_X3_run
set_option maxRecDepth 20000 in
theorem ggL_law_X2_met : GoodIn wsL_law wsX2_met := goodIn_r _ [377, 350, 25, 425, 426, 427, 428, 429, 430, 431, 432, 433, 434, 435, 436] (by decide +kernel) (by decide +kernel)
set_option maxRecDepth 20000 in
theorem gL_law_X2_met : GoodIn wsL_law (wsV RL 91 RX2 yX2_met wsX2_met) := goodIn_app (goodIn_of _ (by decide +kernel)) ggL_law_X2_met
set_option maxRecDepth 20000 in
theorem ggL_law_X3_met : GoodIn wsL_law wsX3_met := goodIn_r _ [381, 369, 48, 82, 83, 5, 84, 437, 438, 439, 440, 441, 442, 443, 444, 445, 446, 447, 448, 449, 450, 451, 452, 453, 454] (by decide +kernel) (by decide +kernel)
set_option maxRecDepth 20000 in
theorem gL_law_X3_met : GoodIn wsL_law (wsV RL 94 RX3 yX3_met wsX3_met) := goodIn_app (goodIn_of _ (by decide +kernel)) ggL_law_X3_met
set_option maxRecDepth 20000 in
theorem ggL_law_X2_fault : GoodIn wsL_law wsX2_fault := goodIn_r _ [385, 172, 425, 426, 427, 428, 429, 430, 431, 432, 433, 434, 435, 436] (by decide +kernel) (by decide +kernel)
set_option maxRecDepth 20000 in
theorem gL_law_X2_fault : GoodIn wsL_law (wsV RL 95 RX2 yX2_fault wsX2_fault) := goodIn_app (goodIn_of _ (by decide +kernel)) ggL_law_X2_fault
set_option maxRecDepth 20000 in
theorem ggL_law_X3_fault : GoodIn wsL_law wsX3_fault := goodIn_r _ [389, 209, 437, 438, 439, 440, 441, 442, 443, 444, 445, 446, 447, 448, 449, 450, 451, 452, 453, 454] (by decide +kernel) (by decide +kernel)
set_option maxRecDepth 20000 in
theorem gL_law_X3_fault : GoodIn wsL_law (wsV RL 98 RX3 yX3_fault wsX3_fault) := goodIn_app (goodIn_of _ (by decide +kernel)) ggL_law_X3_fault
set_option maxRecDepth 20000 in
theorem ggL_law_X2_faults : GoodIn wsL_law wsX2_faults := goodIn_r _ [393, 26, 425, 426, 427, 428, 429, 430, 431, 432, 433, 434, 435, 436] (by decide +kernel) (by decide +kernel)
set_option maxRecDepth 20000 in
theorem gL_law_X2_faults : GoodIn wsL_law (wsV RL 99 RX2 yX2_faults wsX2_faults) := goodIn_app (goodIn_of _ (by decide +kernel)) ggL_law_X2_faults
set_option maxRecDepth 20000 in
theorem ggL_law_X3_faults : GoodIn wsL_law wsX3_faults := goodIn_r _ [397, 344, 46, 82, 83, 5, 84, 437, 438, 439, 440, 441, 442, 443, 444, 445, 446, 447, 448, 449, 450, 451, 452, 453, 454] (by decide +kernel) (by decide +kernel)
set_option maxRecDepth 20000 in
theorem gL_law_X3_faults : GoodIn wsL_law (wsV RL 102 RX3 yX3_faults wsX3_faults) := goodIn_app (goodIn_of _ (by decide +kernel)) ggL_law_X3_faults
set_option maxRecDepth 20000 in
theorem ggL_law_X2_told : GoodIn wsL_law wsX2_told := goodIn_r _ [401, 17, 402, 403, 53, 54, 2, 55, 404, 405, 406, 15, 407, 68, 60, 61, 62, 63, 425, 426, 427, 428, 429, 430, 431, 432, 433, 434, 435, 436, 455, 456, 457, 458] (by decide +kernel) (by decide +kernel)
set_option maxRecDepth 20000 in
theorem gL_law_X2_told : GoodIn wsL_law (wsV RL 103 RX2 yX2_told wsX2_told) := goodIn_app (goodIn_of _ (by decide +kernel)) ggL_law_X2_told
set_option maxRecDepth 20000 in
theorem ggL_law_X3_told : GoodIn wsL_law wsX3_told := goodIn_r _ [411, 39, 42, 41, 40, 78, 79, 5, 80, 81, 82, 83, 84, 437, 438, 439, 440, 441, 442, 443, 444, 445, 446, 447, 448, 449, 450, 451, 452, 453, 454] (by decide +kernel) (by decide +kernel)
set_option maxRecDepth 20000 in
theorem gL_law_X3_told : GoodIn wsL_law (wsV RL 106 RX3 yX3_told wsX3_told) := goodIn_app (goodIn_of _ (by decide +kernel)) ggL_law_X3_told
set_option maxRecDepth 20000 in
theorem ggL_law_X2_hand : GoodIn wsL_law wsX2_hand := goodIn_r _ [415, 19, 425, 426, 427, 428, 429, 430, 431, 432, 433, 434, 435, 436] (by decide +kernel) (by decide +kernel)
set_option maxRecDepth 20000 in
theorem gL_law_X2_hand : GoodIn wsL_law (wsV RL 107 RX2 yX2_hand wsX2_hand) := goodIn_app (goodIn_of _ (by decide +kernel)) ggL_law_X2_hand
set_option maxRecDepth 20000 in
theorem ggL_law_X3_hand : GoodIn wsL_law wsX3_hand := goodIn_r _ [154, 130, 131, 437, 438, 439, 440, 441, 442, 443, 444, 445, 446, 447, 448, 449, 450, 451, 452, 453, 454] (by decide +kernel) (by decide +kernel)
set_option maxRecDepth 20000 in
theorem gL_law_X3_hand : GoodIn wsL_law (wsV RL 110 RX3 yX3_hand wsX3_hand) := goodIn_app (goodIn_of _ (by decide +kernel)) ggL_law_X3_hand
set_option maxRecDepth 20000 in
theorem ggL_law_X2_value : GoodIn wsL_law wsX2_value := goodIn_r _ [420, 124, 425, 426, 427, 428, 429, 430, 431, 432, 433, 434, 435, 436] (by decide +kernel) (by decide +kernel)
set_option maxRecDepth 20000 in
theorem gL_law_X2_value : GoodIn wsL_law (wsV RL 111 RX2 yX2_value wsX2_value) := goodIn_app (goodIn_of _ (by decide +kernel)) ggL_law_X2_value
set_option maxRecDepth 20000 in
theorem ggL_law_X3_value : GoodIn wsL_law wsX3_value := goodIn_r _ [424, 130, 132, 437, 438, 439, 440, 441, 442, 443, 444, 445, 446, 447, 448, 449, 450, 451, 452, 453, 454] (by decide +kernel) (by decide +kernel)
set_option maxRecDepth 20000 in
theorem gL_law_X3_value : GoodIn wsL_law (wsV RL 115 RX3 yX3_value wsX3_value) := goodIn_app (goodIn_of _ (by decide +kernel)) ggL_law_X3_value
theorem dL_law_0 : decode cL_law 0 = .ok (.new 7, 3) := by decide +kernel
theorem dL_law_3 : decode cL_law 3 = .ok (.dup, 1) := by decide +kernel
theorem dL_law_4 : decode cL_law 4 = .ok (.invokespecial 9, 3) := by decide +kernel
theorem dL_law_7 : decode cL_law 7 = .ok (.astore_n 1, 1) := by decide +kernel
theorem dL_law_8 : decode cL_law 8 = .ok (.new 10, 3) := by decide +kernel
theorem dL_law_11 : decode cL_law 11 = .ok (.dup, 1) := by decide +kernel
theorem dL_law_12 : decode cL_law 12 = .ok (.invokespecial 12, 3) := by decide +kernel
theorem dL_law_15 : decode cL_law 15 = .ok (.astore_n 2, 1) := by decide +kernel
theorem dL_law_16 : decode cL_law 16 = .ok (.iconst 0, 1) := by decide +kernel
theorem dL_law_17 : decode cL_law 17 = .ok (.istore_n 3, 1) := by decide +kernel
theorem dL_law_18 : decode cL_law 18 = .ok (.iload_n 3, 1) := by decide +kernel
theorem dL_law_19 : decode cL_law 19 = .ok (.aload_n 0, 1) := by decide +kernel
theorem dL_law_20 : decode cL_law 20 = .ok (.arraylength, 1) := by decide +kernel
theorem dL_law_21 : decode cL_law 21 = .ok (.bipush 6, 2) := by decide +kernel
theorem dL_law_23 : decode cL_law 23 = .ok (.isub, 1) := by decide +kernel
theorem dL_law_24 : decode cL_law 24 = .ok (.if_icmp .gt 813, 3) := by decide +kernel
theorem dL_law_27 : decode cL_law 27 = .ok (.aload_n 0, 1) := by decide +kernel
theorem dL_law_28 : decode cL_law 28 = .ok (.iload_n 3, 1) := by decide +kernel
theorem dL_law_29 : decode cL_law 29 = .ok (.iaload, 1) := by decide +kernel
theorem dL_law_30 : decode cL_law 30 = .ok (.bipush 31, 2) := by decide +kernel
theorem dL_law_32 : decode cL_law 32 = .ok (.iand, 1) := by decide +kernel
theorem dL_law_33 : decode cL_law 33 = .ok (.tableswitch 798 0 22 #[107, 150, 183, 216, 239, 302, 315, 328, 361, 394, 417, 480, 533, 556, 580, 603, 666, 679, 702, 715, 738, 771, 784], 107) := by decide +kernel
theorem dL_law_140 : decode cL_law 140 = .ok (.aload_n 1, 1) := by decide +kernel
theorem dL_law_141 : decode cL_law 141 = .ok (.aload_n 0, 1) := by decide +kernel
theorem dL_law_142 : decode cL_law 142 = .ok (.iload_n 3, 1) := by decide +kernel
theorem dL_law_143 : decode cL_law 143 = .ok (.iconst 1, 1) := by decide +kernel
theorem dL_law_144 : decode cL_law 144 = .ok (.iadd, 1) := by decide +kernel
theorem dL_law_145 : decode cL_law 145 = .ok (.iaload, 1) := by decide +kernel
theorem dL_law_146 : decode cL_law 146 = .ok (.aload_n 0, 1) := by decide +kernel
theorem dL_law_147 : decode cL_law 147 = .ok (.iload_n 3, 1) := by decide +kernel
theorem dL_law_148 : decode cL_law 148 = .ok (.iconst 2, 1) := by decide +kernel
theorem dL_law_149 : decode cL_law 149 = .ok (.iadd, 1) := by decide +kernel
theorem dL_law_150 : decode cL_law 150 = .ok (.iaload, 1) := by decide +kernel
theorem dL_law_151 : decode cL_law 151 = .ok (.aload_n 0, 1) := by decide +kernel
theorem dL_law_152 : decode cL_law 152 = .ok (.iload_n 3, 1) := by decide +kernel
theorem dL_law_153 : decode cL_law 153 = .ok (.iconst 3, 1) := by decide +kernel
theorem dL_law_154 : decode cL_law 154 = .ok (.iadd, 1) := by decide +kernel
theorem dL_law_155 : decode cL_law 155 = .ok (.iaload, 1) := by decide +kernel
theorem dL_law_156 : decode cL_law 156 = .ok (.invokevirtual 13, 3) := by decide +kernel
theorem dL_law_159 : decode cL_law 159 = .ok (.aload_n 2, 1) := by decide +kernel
theorem dL_law_160 : decode cL_law 160 = .ok (.aload_n 0, 1) := by decide +kernel
theorem dL_law_161 : decode cL_law 161 = .ok (.iload_n 3, 1) := by decide +kernel
theorem dL_law_162 : decode cL_law 162 = .ok (.iconst 1, 1) := by decide +kernel
theorem dL_law_163 : decode cL_law 163 = .ok (.iadd, 1) := by decide +kernel
theorem dL_law_164 : decode cL_law 164 = .ok (.iaload, 1) := by decide +kernel
theorem dL_law_165 : decode cL_law 165 = .ok (.aload_n 0, 1) := by decide +kernel
theorem dL_law_166 : decode cL_law 166 = .ok (.iload_n 3, 1) := by decide +kernel
theorem dL_law_167 : decode cL_law 167 = .ok (.iconst 2, 1) := by decide +kernel
theorem dL_law_168 : decode cL_law 168 = .ok (.iadd, 1) := by decide +kernel
theorem dL_law_169 : decode cL_law 169 = .ok (.iaload, 1) := by decide +kernel
theorem dL_law_170 : decode cL_law 170 = .ok (.aload_n 0, 1) := by decide +kernel
theorem dL_law_171 : decode cL_law 171 = .ok (.iload_n 3, 1) := by decide +kernel
theorem dL_law_172 : decode cL_law 172 = .ok (.iconst 3, 1) := by decide +kernel
theorem dL_law_173 : decode cL_law 173 = .ok (.iadd, 1) := by decide +kernel
theorem dL_law_174 : decode cL_law 174 = .ok (.iaload, 1) := by decide +kernel
theorem dL_law_175 : decode cL_law 175 = .ok (.invokevirtual 17, 3) := by decide +kernel
theorem dL_law_178 : decode cL_law 178 = .ok (.if_icmp .eq 653, 3) := by decide +kernel
theorem dL_law_181 : decode cL_law 181 = .ok (.iconst 0, 1) := by decide +kernel
theorem dL_law_182 : decode cL_law 182 = .ok (.ireturn, 1) := by decide +kernel
theorem dL_law_183 : decode cL_law 183 = .ok (.aload_n 1, 1) := by decide +kernel
theorem dL_law_184 : decode cL_law 184 = .ok (.aload_n 0, 1) := by decide +kernel
theorem dL_law_185 : decode cL_law 185 = .ok (.iload_n 3, 1) := by decide +kernel
theorem dL_law_186 : decode cL_law 186 = .ok (.iconst 1, 1) := by decide +kernel
theorem dL_law_187 : decode cL_law 187 = .ok (.iadd, 1) := by decide +kernel
theorem dL_law_188 : decode cL_law 188 = .ok (.iaload, 1) := by decide +kernel
theorem dL_law_189 : decode cL_law 189 = .ok (.aload_n 0, 1) := by decide +kernel
theorem dL_law_190 : decode cL_law 190 = .ok (.iload_n 3, 1) := by decide +kernel
theorem dL_law_191 : decode cL_law 191 = .ok (.iconst 2, 1) := by decide +kernel
theorem dL_law_192 : decode cL_law 192 = .ok (.iadd, 1) := by decide +kernel
theorem dL_law_193 : decode cL_law 193 = .ok (.iaload, 1) := by decide +kernel
theorem dL_law_194 : decode cL_law 194 = .ok (.invokevirtual 18, 3) := by decide +kernel
theorem dL_law_197 : decode cL_law 197 = .ok (.aload_n 2, 1) := by decide +kernel
theorem dL_law_198 : decode cL_law 198 = .ok (.aload_n 0, 1) := by decide +kernel
theorem dL_law_199 : decode cL_law 199 = .ok (.iload_n 3, 1) := by decide +kernel
theorem dL_law_200 : decode cL_law 200 = .ok (.iconst 1, 1) := by decide +kernel
theorem dL_law_201 : decode cL_law 201 = .ok (.iadd, 1) := by decide +kernel
theorem dL_law_202 : decode cL_law 202 = .ok (.iaload, 1) := by decide +kernel
theorem dL_law_203 : decode cL_law 203 = .ok (.aload_n 0, 1) := by decide +kernel
theorem dL_law_204 : decode cL_law 204 = .ok (.iload_n 3, 1) := by decide +kernel
theorem dL_law_205 : decode cL_law 205 = .ok (.iconst 2, 1) := by decide +kernel
theorem dL_law_206 : decode cL_law 206 = .ok (.iadd, 1) := by decide +kernel
theorem dL_law_207 : decode cL_law 207 = .ok (.iaload, 1) := by decide +kernel
theorem dL_law_208 : decode cL_law 208 = .ok (.invokevirtual 22, 3) := by decide +kernel
theorem dL_law_211 : decode cL_law 211 = .ok (.if_icmp .eq 620, 3) := by decide +kernel
theorem dL_law_214 : decode cL_law 214 = .ok (.iconst 0, 1) := by decide +kernel
theorem dL_law_215 : decode cL_law 215 = .ok (.ireturn, 1) := by decide +kernel
theorem dL_law_216 : decode cL_law 216 = .ok (.aload_n 1, 1) := by decide +kernel
theorem dL_law_217 : decode cL_law 217 = .ok (.aload_n 0, 1) := by decide +kernel
theorem dL_law_218 : decode cL_law 218 = .ok (.iload_n 3, 1) := by decide +kernel
theorem dL_law_219 : decode cL_law 219 = .ok (.iconst 1, 1) := by decide +kernel
theorem dL_law_220 : decode cL_law 220 = .ok (.iadd, 1) := by decide +kernel
theorem dL_law_221 : decode cL_law 221 = .ok (.iaload, 1) := by decide +kernel
theorem dL_law_222 : decode cL_law 222 = .ok (.aload_n 0, 1) := by decide +kernel
theorem dL_law_223 : decode cL_law 223 = .ok (.iload_n 3, 1) := by decide +kernel
theorem dL_law_224 : decode cL_law 224 = .ok (.iconst 2, 1) := by decide +kernel
theorem dL_law_225 : decode cL_law 225 = .ok (.iadd, 1) := by decide +kernel
theorem dL_law_226 : decode cL_law 226 = .ok (.iaload, 1) := by decide +kernel
theorem dL_law_227 : decode cL_law 227 = .ok (.invokevirtual 23, 3) := by decide +kernel
theorem dL_law_230 : decode cL_law 230 = .ok (.aload_n 2, 1) := by decide +kernel
theorem dL_law_231 : decode cL_law 231 = .ok (.aload_n 0, 1) := by decide +kernel
theorem dL_law_232 : decode cL_law 232 = .ok (.iload_n 3, 1) := by decide +kernel
theorem dL_law_233 : decode cL_law 233 = .ok (.iconst 1, 1) := by decide +kernel
theorem dL_law_234 : decode cL_law 234 = .ok (.iadd, 1) := by decide +kernel
theorem dL_law_235 : decode cL_law 235 = .ok (.iaload, 1) := by decide +kernel
theorem dL_law_236 : decode cL_law 236 = .ok (.aload_n 0, 1) := by decide +kernel
theorem dL_law_237 : decode cL_law 237 = .ok (.iload_n 3, 1) := by decide +kernel
theorem dL_law_238 : decode cL_law 238 = .ok (.iconst 2, 1) := by decide +kernel
theorem dL_law_239 : decode cL_law 239 = .ok (.iadd, 1) := by decide +kernel
theorem dL_law_240 : decode cL_law 240 = .ok (.iaload, 1) := by decide +kernel
theorem dL_law_241 : decode cL_law 241 = .ok (.invokevirtual 26, 3) := by decide +kernel
theorem dL_law_244 : decode cL_law 244 = .ok (.if_icmp .eq 587, 3) := by decide +kernel
theorem dL_law_247 : decode cL_law 247 = .ok (.iconst 0, 1) := by decide +kernel
theorem dL_law_248 : decode cL_law 248 = .ok (.ireturn, 1) := by decide +kernel
theorem dL_law_249 : decode cL_law 249 = .ok (.aload_n 1, 1) := by decide +kernel
theorem dL_law_250 : decode cL_law 250 = .ok (.aload_n 0, 1) := by decide +kernel
theorem dL_law_251 : decode cL_law 251 = .ok (.iload_n 3, 1) := by decide +kernel
theorem dL_law_252 : decode cL_law 252 = .ok (.iconst 1, 1) := by decide +kernel
theorem dL_law_253 : decode cL_law 253 = .ok (.iadd, 1) := by decide +kernel
theorem dL_law_254 : decode cL_law 254 = .ok (.iaload, 1) := by decide +kernel
theorem dL_law_255 : decode cL_law 255 = .ok (.invokevirtual 27, 3) := by decide +kernel
theorem dL_law_258 : decode cL_law 258 = .ok (.aload_n 2, 1) := by decide +kernel
theorem dL_law_259 : decode cL_law 259 = .ok (.aload_n 0, 1) := by decide +kernel
theorem dL_law_260 : decode cL_law 260 = .ok (.iload_n 3, 1) := by decide +kernel
theorem dL_law_261 : decode cL_law 261 = .ok (.iconst 1, 1) := by decide +kernel
theorem dL_law_262 : decode cL_law 262 = .ok (.iadd, 1) := by decide +kernel
theorem dL_law_263 : decode cL_law 263 = .ok (.iaload, 1) := by decide +kernel
theorem dL_law_264 : decode cL_law 264 = .ok (.invokevirtual 31, 3) := by decide +kernel
theorem dL_law_267 : decode cL_law 267 = .ok (.if_icmp .eq 564, 3) := by decide +kernel
theorem dL_law_270 : decode cL_law 270 = .ok (.iconst 0, 1) := by decide +kernel
theorem dL_law_271 : decode cL_law 271 = .ok (.ireturn, 1) := by decide +kernel
theorem dL_law_272 : decode cL_law 272 = .ok (.aload_n 1, 1) := by decide +kernel
theorem dL_law_273 : decode cL_law 273 = .ok (.aload_n 0, 1) := by decide +kernel
theorem dL_law_274 : decode cL_law 274 = .ok (.iload_n 3, 1) := by decide +kernel
theorem dL_law_275 : decode cL_law 275 = .ok (.iconst 1, 1) := by decide +kernel
theorem dL_law_276 : decode cL_law 276 = .ok (.iadd, 1) := by decide +kernel
theorem dL_law_277 : decode cL_law 277 = .ok (.iaload, 1) := by decide +kernel
theorem dL_law_278 : decode cL_law 278 = .ok (.aload_n 0, 1) := by decide +kernel
theorem dL_law_279 : decode cL_law 279 = .ok (.iload_n 3, 1) := by decide +kernel
theorem dL_law_280 : decode cL_law 280 = .ok (.iconst 2, 1) := by decide +kernel
theorem dL_law_281 : decode cL_law 281 = .ok (.iadd, 1) := by decide +kernel
theorem dL_law_282 : decode cL_law 282 = .ok (.iaload, 1) := by decide +kernel
theorem dL_law_283 : decode cL_law 283 = .ok (.i2l, 1) := by decide +kernel
theorem dL_law_284 : decode cL_law 284 = .ok (.bipush 32, 2) := by decide +kernel
theorem dL_law_286 : decode cL_law 286 = .ok (.lshl, 1) := by decide +kernel
theorem dL_law_287 : decode cL_law 287 = .ok (.aload_n 0, 1) := by decide +kernel
theorem dL_law_288 : decode cL_law 288 = .ok (.iload_n 3, 1) := by decide +kernel
theorem dL_law_289 : decode cL_law 289 = .ok (.iconst 3, 1) := by decide +kernel
theorem dL_law_290 : decode cL_law 290 = .ok (.iadd, 1) := by decide +kernel
theorem dL_law_291 : decode cL_law 291 = .ok (.iaload, 1) := by decide +kernel
theorem dL_law_292 : decode cL_law 292 = .ok (.i2l, 1) := by decide +kernel
theorem dL_law_293 : decode cL_law 293 = .ok (.ldc2_w 32, 3) := by decide +kernel
theorem dL_law_296 : decode cL_law 296 = .ok (.land, 1) := by decide +kernel
theorem dL_law_297 : decode cL_law 297 = .ok (.lor, 1) := by decide +kernel
theorem dL_law_298 : decode cL_law 298 = .ok (.invokevirtual 34, 3) := by decide +kernel
theorem dL_law_301 : decode cL_law 301 = .ok (.aload_n 2, 1) := by decide +kernel
theorem dL_law_302 : decode cL_law 302 = .ok (.aload_n 0, 1) := by decide +kernel
theorem dL_law_303 : decode cL_law 303 = .ok (.iload_n 3, 1) := by decide +kernel
theorem dL_law_304 : decode cL_law 304 = .ok (.iconst 1, 1) := by decide +kernel
theorem dL_law_305 : decode cL_law 305 = .ok (.iadd, 1) := by decide +kernel
theorem dL_law_306 : decode cL_law 306 = .ok (.iaload, 1) := by decide +kernel
theorem dL_law_307 : decode cL_law 307 = .ok (.aload_n 0, 1) := by decide +kernel
theorem dL_law_308 : decode cL_law 308 = .ok (.iload_n 3, 1) := by decide +kernel
theorem dL_law_309 : decode cL_law 309 = .ok (.iconst 2, 1) := by decide +kernel
theorem dL_law_310 : decode cL_law 310 = .ok (.iadd, 1) := by decide +kernel
theorem dL_law_311 : decode cL_law 311 = .ok (.iaload, 1) := by decide +kernel
theorem dL_law_312 : decode cL_law 312 = .ok (.i2l, 1) := by decide +kernel
theorem dL_law_313 : decode cL_law 313 = .ok (.bipush 32, 2) := by decide +kernel
theorem dL_law_315 : decode cL_law 315 = .ok (.lshl, 1) := by decide +kernel
theorem dL_law_316 : decode cL_law 316 = .ok (.aload_n 0, 1) := by decide +kernel
theorem dL_law_317 : decode cL_law 317 = .ok (.iload_n 3, 1) := by decide +kernel
theorem dL_law_318 : decode cL_law 318 = .ok (.iconst 3, 1) := by decide +kernel
theorem dL_law_319 : decode cL_law 319 = .ok (.iadd, 1) := by decide +kernel
theorem dL_law_320 : decode cL_law 320 = .ok (.iaload, 1) := by decide +kernel
theorem dL_law_321 : decode cL_law 321 = .ok (.i2l, 1) := by decide +kernel
theorem dL_law_322 : decode cL_law 322 = .ok (.ldc2_w 32, 3) := by decide +kernel
theorem dL_law_325 : decode cL_law 325 = .ok (.land, 1) := by decide +kernel
theorem dL_law_326 : decode cL_law 326 = .ok (.lor, 1) := by decide +kernel
theorem dL_law_327 : decode cL_law 327 = .ok (.invokevirtual 38, 3) := by decide +kernel
theorem dL_law_330 : decode cL_law 330 = .ok (.if_icmp .eq 501, 3) := by decide +kernel
theorem dL_law_333 : decode cL_law 333 = .ok (.iconst 0, 1) := by decide +kernel
theorem dL_law_334 : decode cL_law 334 = .ok (.ireturn, 1) := by decide +kernel
theorem dL_law_335 : decode cL_law 335 = .ok (.aload_n 1, 1) := by decide +kernel
theorem dL_law_336 : decode cL_law 336 = .ok (.invokevirtual 39, 3) := by decide +kernel
theorem dL_law_339 : decode cL_law 339 = .ok (.aload_n 2, 1) := by decide +kernel
theorem dL_law_340 : decode cL_law 340 = .ok (.invokevirtual 43, 3) := by decide +kernel
theorem dL_law_343 : decode cL_law 343 = .ok (.if_icmp .eq 488, 3) := by decide +kernel
theorem dL_law_346 : decode cL_law 346 = .ok (.iconst 0, 1) := by decide +kernel
theorem dL_law_347 : decode cL_law 347 = .ok (.ireturn, 1) := by decide +kernel
theorem dL_law_348 : decode cL_law 348 = .ok (.aload_n 1, 1) := by decide +kernel
theorem dL_law_349 : decode cL_law 349 = .ok (.invokevirtual 44, 3) := by decide +kernel
theorem dL_law_352 : decode cL_law 352 = .ok (.aload_n 2, 1) := by decide +kernel
theorem dL_law_353 : decode cL_law 353 = .ok (.invokevirtual 47, 3) := by decide +kernel
theorem dL_law_356 : decode cL_law 356 = .ok (.if_icmp .eq 475, 3) := by decide +kernel
theorem dL_law_359 : decode cL_law 359 = .ok (.iconst 0, 1) := by decide +kernel
theorem dL_law_360 : decode cL_law 360 = .ok (.ireturn, 1) := by decide +kernel
theorem dL_law_361 : decode cL_law 361 = .ok (.aload_n 1, 1) := by decide +kernel
theorem dL_law_362 : decode cL_law 362 = .ok (.aload_n 0, 1) := by decide +kernel
theorem dL_law_363 : decode cL_law 363 = .ok (.iload_n 3, 1) := by decide +kernel
theorem dL_law_364 : decode cL_law 364 = .ok (.iconst 1, 1) := by decide +kernel
theorem dL_law_365 : decode cL_law 365 = .ok (.iadd, 1) := by decide +kernel
theorem dL_law_366 : decode cL_law 366 = .ok (.iaload, 1) := by decide +kernel
theorem dL_law_367 : decode cL_law 367 = .ok (.aload_n 0, 1) := by decide +kernel
theorem dL_law_368 : decode cL_law 368 = .ok (.iload_n 3, 1) := by decide +kernel
theorem dL_law_369 : decode cL_law 369 = .ok (.iconst 2, 1) := by decide +kernel
theorem dL_law_370 : decode cL_law 370 = .ok (.iadd, 1) := by decide +kernel
theorem dL_law_371 : decode cL_law 371 = .ok (.iaload, 1) := by decide +kernel
theorem dL_law_372 : decode cL_law 372 = .ok (.invokevirtual 48, 3) := by decide +kernel
theorem dL_law_375 : decode cL_law 375 = .ok (.aload_n 2, 1) := by decide +kernel
theorem dL_law_376 : decode cL_law 376 = .ok (.aload_n 0, 1) := by decide +kernel
theorem dL_law_377 : decode cL_law 377 = .ok (.iload_n 3, 1) := by decide +kernel
theorem dL_law_378 : decode cL_law 378 = .ok (.iconst 1, 1) := by decide +kernel
theorem dL_law_379 : decode cL_law 379 = .ok (.iadd, 1) := by decide +kernel
theorem dL_law_380 : decode cL_law 380 = .ok (.iaload, 1) := by decide +kernel
theorem dL_law_381 : decode cL_law 381 = .ok (.aload_n 0, 1) := by decide +kernel
theorem dL_law_382 : decode cL_law 382 = .ok (.iload_n 3, 1) := by decide +kernel
theorem dL_law_383 : decode cL_law 383 = .ok (.iconst 2, 1) := by decide +kernel
theorem dL_law_384 : decode cL_law 384 = .ok (.iadd, 1) := by decide +kernel
theorem dL_law_385 : decode cL_law 385 = .ok (.iaload, 1) := by decide +kernel
theorem dL_law_386 : decode cL_law 386 = .ok (.invokevirtual 51, 3) := by decide +kernel
theorem dL_law_389 : decode cL_law 389 = .ok (.if_icmp .eq 442, 3) := by decide +kernel
theorem dL_law_392 : decode cL_law 392 = .ok (.iconst 0, 1) := by decide +kernel
theorem dL_law_393 : decode cL_law 393 = .ok (.ireturn, 1) := by decide +kernel
theorem dL_law_394 : decode cL_law 394 = .ok (.aload_n 1, 1) := by decide +kernel
theorem dL_law_395 : decode cL_law 395 = .ok (.aload_n 0, 1) := by decide +kernel
theorem dL_law_396 : decode cL_law 396 = .ok (.iload_n 3, 1) := by decide +kernel
theorem dL_law_397 : decode cL_law 397 = .ok (.iconst 1, 1) := by decide +kernel
theorem dL_law_398 : decode cL_law 398 = .ok (.iadd, 1) := by decide +kernel
theorem dL_law_399 : decode cL_law 399 = .ok (.iaload, 1) := by decide +kernel
theorem dL_law_400 : decode cL_law 400 = .ok (.aload_n 0, 1) := by decide +kernel
theorem dL_law_401 : decode cL_law 401 = .ok (.iload_n 3, 1) := by decide +kernel
theorem dL_law_402 : decode cL_law 402 = .ok (.iconst 2, 1) := by decide +kernel
theorem dL_law_403 : decode cL_law 403 = .ok (.iadd, 1) := by decide +kernel
theorem dL_law_404 : decode cL_law 404 = .ok (.iaload, 1) := by decide +kernel
theorem dL_law_405 : decode cL_law 405 = .ok (.invokevirtual 52, 3) := by decide +kernel
theorem dL_law_408 : decode cL_law 408 = .ok (.aload_n 2, 1) := by decide +kernel
theorem dL_law_409 : decode cL_law 409 = .ok (.aload_n 0, 1) := by decide +kernel
theorem dL_law_410 : decode cL_law 410 = .ok (.iload_n 3, 1) := by decide +kernel
theorem dL_law_411 : decode cL_law 411 = .ok (.iconst 1, 1) := by decide +kernel
theorem dL_law_412 : decode cL_law 412 = .ok (.iadd, 1) := by decide +kernel
theorem dL_law_413 : decode cL_law 413 = .ok (.iaload, 1) := by decide +kernel
theorem dL_law_414 : decode cL_law 414 = .ok (.aload_n 0, 1) := by decide +kernel
theorem dL_law_415 : decode cL_law 415 = .ok (.iload_n 3, 1) := by decide +kernel
theorem dL_law_416 : decode cL_law 416 = .ok (.iconst 2, 1) := by decide +kernel
theorem dL_law_417 : decode cL_law 417 = .ok (.iadd, 1) := by decide +kernel
theorem dL_law_418 : decode cL_law 418 = .ok (.iaload, 1) := by decide +kernel
theorem dL_law_419 : decode cL_law 419 = .ok (.invokevirtual 55, 3) := by decide +kernel
theorem dL_law_422 : decode cL_law 422 = .ok (.if_icmp .eq 409, 3) := by decide +kernel
theorem dL_law_425 : decode cL_law 425 = .ok (.iconst 0, 1) := by decide +kernel
theorem dL_law_426 : decode cL_law 426 = .ok (.ireturn, 1) := by decide +kernel
theorem dL_law_427 : decode cL_law 427 = .ok (.aload_n 1, 1) := by decide +kernel
theorem dL_law_428 : decode cL_law 428 = .ok (.aload_n 0, 1) := by decide +kernel
theorem dL_law_429 : decode cL_law 429 = .ok (.iload_n 3, 1) := by decide +kernel
theorem dL_law_430 : decode cL_law 430 = .ok (.iconst 1, 1) := by decide +kernel
theorem dL_law_431 : decode cL_law 431 = .ok (.iadd, 1) := by decide +kernel
theorem dL_law_432 : decode cL_law 432 = .ok (.iaload, 1) := by decide +kernel
theorem dL_law_433 : decode cL_law 433 = .ok (.invokevirtual 56, 3) := by decide +kernel
theorem dL_law_436 : decode cL_law 436 = .ok (.aload_n 2, 1) := by decide +kernel
theorem dL_law_437 : decode cL_law 437 = .ok (.aload_n 0, 1) := by decide +kernel
theorem dL_law_438 : decode cL_law 438 = .ok (.iload_n 3, 1) := by decide +kernel
theorem dL_law_439 : decode cL_law 439 = .ok (.iconst 1, 1) := by decide +kernel
theorem dL_law_440 : decode cL_law 440 = .ok (.iadd, 1) := by decide +kernel
theorem dL_law_441 : decode cL_law 441 = .ok (.iaload, 1) := by decide +kernel
theorem dL_law_442 : decode cL_law 442 = .ok (.invokevirtual 59, 3) := by decide +kernel
theorem dL_law_445 : decode cL_law 445 = .ok (.if_icmp .eq 386, 3) := by decide +kernel
theorem dL_law_448 : decode cL_law 448 = .ok (.iconst 0, 1) := by decide +kernel
theorem dL_law_449 : decode cL_law 449 = .ok (.ireturn, 1) := by decide +kernel
theorem dL_law_450 : decode cL_law 450 = .ok (.aload_n 1, 1) := by decide +kernel
theorem dL_law_451 : decode cL_law 451 = .ok (.aload_n 0, 1) := by decide +kernel
theorem dL_law_452 : decode cL_law 452 = .ok (.iload_n 3, 1) := by decide +kernel
theorem dL_law_453 : decode cL_law 453 = .ok (.iconst 1, 1) := by decide +kernel
theorem dL_law_454 : decode cL_law 454 = .ok (.iadd, 1) := by decide +kernel
theorem dL_law_455 : decode cL_law 455 = .ok (.iaload, 1) := by decide +kernel
theorem dL_law_456 : decode cL_law 456 = .ok (.aload_n 0, 1) := by decide +kernel
theorem dL_law_457 : decode cL_law 457 = .ok (.iload_n 3, 1) := by decide +kernel
theorem dL_law_458 : decode cL_law 458 = .ok (.iconst 2, 1) := by decide +kernel
theorem dL_law_459 : decode cL_law 459 = .ok (.iadd, 1) := by decide +kernel
theorem dL_law_460 : decode cL_law 460 = .ok (.iaload, 1) := by decide +kernel
theorem dL_law_461 : decode cL_law 461 = .ok (.aload_n 0, 1) := by decide +kernel
theorem dL_law_462 : decode cL_law 462 = .ok (.iload_n 3, 1) := by decide +kernel
theorem dL_law_463 : decode cL_law 463 = .ok (.iconst 3, 1) := by decide +kernel
theorem dL_law_464 : decode cL_law 464 = .ok (.iadd, 1) := by decide +kernel
theorem dL_law_465 : decode cL_law 465 = .ok (.iaload, 1) := by decide +kernel
theorem dL_law_466 : decode cL_law 466 = .ok (.aload_n 0, 1) := by decide +kernel
theorem dL_law_467 : decode cL_law 467 = .ok (.iload_n 3, 1) := by decide +kernel
theorem dL_law_468 : decode cL_law 468 = .ok (.iconst 4, 1) := by decide +kernel
theorem dL_law_469 : decode cL_law 469 = .ok (.iadd, 1) := by decide +kernel
theorem dL_law_470 : decode cL_law 470 = .ok (.iaload, 1) := by decide +kernel
theorem dL_law_471 : decode cL_law 471 = .ok (.aload_n 0, 1) := by decide +kernel
theorem dL_law_472 : decode cL_law 472 = .ok (.iload_n 3, 1) := by decide +kernel
theorem dL_law_473 : decode cL_law 473 = .ok (.iconst 5, 1) := by decide +kernel
theorem dL_law_474 : decode cL_law 474 = .ok (.iadd, 1) := by decide +kernel
theorem dL_law_475 : decode cL_law 475 = .ok (.iaload, 1) := by decide +kernel
theorem dL_law_476 : decode cL_law 476 = .ok (.invokevirtual 60, 3) := by decide +kernel
theorem dL_law_479 : decode cL_law 479 = .ok (.aload_n 2, 1) := by decide +kernel
theorem dL_law_480 : decode cL_law 480 = .ok (.aload_n 0, 1) := by decide +kernel
theorem dL_law_481 : decode cL_law 481 = .ok (.iload_n 3, 1) := by decide +kernel
theorem dL_law_482 : decode cL_law 482 = .ok (.iconst 1, 1) := by decide +kernel
theorem dL_law_483 : decode cL_law 483 = .ok (.iadd, 1) := by decide +kernel
theorem dL_law_484 : decode cL_law 484 = .ok (.iaload, 1) := by decide +kernel
theorem dL_law_485 : decode cL_law 485 = .ok (.aload_n 0, 1) := by decide +kernel
theorem dL_law_486 : decode cL_law 486 = .ok (.iload_n 3, 1) := by decide +kernel
theorem dL_law_487 : decode cL_law 487 = .ok (.iconst 2, 1) := by decide +kernel
theorem dL_law_488 : decode cL_law 488 = .ok (.iadd, 1) := by decide +kernel
theorem dL_law_489 : decode cL_law 489 = .ok (.iaload, 1) := by decide +kernel
theorem dL_law_490 : decode cL_law 490 = .ok (.aload_n 0, 1) := by decide +kernel
theorem dL_law_491 : decode cL_law 491 = .ok (.iload_n 3, 1) := by decide +kernel
theorem dL_law_492 : decode cL_law 492 = .ok (.iconst 3, 1) := by decide +kernel
theorem dL_law_493 : decode cL_law 493 = .ok (.iadd, 1) := by decide +kernel
theorem dL_law_494 : decode cL_law 494 = .ok (.iaload, 1) := by decide +kernel
theorem dL_law_495 : decode cL_law 495 = .ok (.aload_n 0, 1) := by decide +kernel
theorem dL_law_496 : decode cL_law 496 = .ok (.iload_n 3, 1) := by decide +kernel
theorem dL_law_497 : decode cL_law 497 = .ok (.iconst 4, 1) := by decide +kernel
theorem dL_law_498 : decode cL_law 498 = .ok (.iadd, 1) := by decide +kernel
theorem dL_law_499 : decode cL_law 499 = .ok (.iaload, 1) := by decide +kernel
theorem dL_law_500 : decode cL_law 500 = .ok (.aload_n 0, 1) := by decide +kernel
theorem dL_law_501 : decode cL_law 501 = .ok (.iload_n 3, 1) := by decide +kernel
theorem dL_law_502 : decode cL_law 502 = .ok (.iconst 5, 1) := by decide +kernel
theorem dL_law_503 : decode cL_law 503 = .ok (.iadd, 1) := by decide +kernel
theorem dL_law_504 : decode cL_law 504 = .ok (.iaload, 1) := by decide +kernel
theorem dL_law_505 : decode cL_law 505 = .ok (.invokevirtual 64, 3) := by decide +kernel
theorem dL_law_508 : decode cL_law 508 = .ok (.if_icmp .eq 323, 3) := by decide +kernel
theorem dL_law_511 : decode cL_law 511 = .ok (.iconst 0, 1) := by decide +kernel
theorem dL_law_512 : decode cL_law 512 = .ok (.ireturn, 1) := by decide +kernel
theorem dL_law_513 : decode cL_law 513 = .ok (.aload_n 1, 1) := by decide +kernel
theorem dL_law_514 : decode cL_law 514 = .ok (.aload_n 0, 1) := by decide +kernel
theorem dL_law_515 : decode cL_law 515 = .ok (.iload_n 3, 1) := by decide +kernel
theorem dL_law_516 : decode cL_law 516 = .ok (.iconst 1, 1) := by decide +kernel
theorem dL_law_517 : decode cL_law 517 = .ok (.iadd, 1) := by decide +kernel
theorem dL_law_518 : decode cL_law 518 = .ok (.iaload, 1) := by decide +kernel
theorem dL_law_519 : decode cL_law 519 = .ok (.aload_n 0, 1) := by decide +kernel
theorem dL_law_520 : decode cL_law 520 = .ok (.iload_n 3, 1) := by decide +kernel
theorem dL_law_521 : decode cL_law 521 = .ok (.iconst 2, 1) := by decide +kernel
theorem dL_law_522 : decode cL_law 522 = .ok (.iadd, 1) := by decide +kernel
theorem dL_law_523 : decode cL_law 523 = .ok (.iaload, 1) := by decide +kernel
theorem dL_law_524 : decode cL_law 524 = .ok (.aload_n 0, 1) := by decide +kernel
theorem dL_law_525 : decode cL_law 525 = .ok (.iload_n 3, 1) := by decide +kernel
theorem dL_law_526 : decode cL_law 526 = .ok (.iconst 3, 1) := by decide +kernel
theorem dL_law_527 : decode cL_law 527 = .ok (.iadd, 1) := by decide +kernel
theorem dL_law_528 : decode cL_law 528 = .ok (.iaload, 1) := by decide +kernel
theorem dL_law_529 : decode cL_law 529 = .ok (.aload_n 0, 1) := by decide +kernel
theorem dL_law_530 : decode cL_law 530 = .ok (.iload_n 3, 1) := by decide +kernel
theorem dL_law_531 : decode cL_law 531 = .ok (.iconst 4, 1) := by decide +kernel
theorem dL_law_532 : decode cL_law 532 = .ok (.iadd, 1) := by decide +kernel
theorem dL_law_533 : decode cL_law 533 = .ok (.iaload, 1) := by decide +kernel
theorem dL_law_534 : decode cL_law 534 = .ok (.invokevirtual 65, 3) := by decide +kernel
theorem dL_law_537 : decode cL_law 537 = .ok (.aload_n 2, 1) := by decide +kernel
theorem dL_law_538 : decode cL_law 538 = .ok (.aload_n 0, 1) := by decide +kernel
theorem dL_law_539 : decode cL_law 539 = .ok (.iload_n 3, 1) := by decide +kernel
theorem dL_law_540 : decode cL_law 540 = .ok (.iconst 1, 1) := by decide +kernel
theorem dL_law_541 : decode cL_law 541 = .ok (.iadd, 1) := by decide +kernel
theorem dL_law_542 : decode cL_law 542 = .ok (.iaload, 1) := by decide +kernel
theorem dL_law_543 : decode cL_law 543 = .ok (.aload_n 0, 1) := by decide +kernel
theorem dL_law_544 : decode cL_law 544 = .ok (.iload_n 3, 1) := by decide +kernel
theorem dL_law_545 : decode cL_law 545 = .ok (.iconst 2, 1) := by decide +kernel
theorem dL_law_546 : decode cL_law 546 = .ok (.iadd, 1) := by decide +kernel
theorem dL_law_547 : decode cL_law 547 = .ok (.iaload, 1) := by decide +kernel
theorem dL_law_548 : decode cL_law 548 = .ok (.aload_n 0, 1) := by decide +kernel
theorem dL_law_549 : decode cL_law 549 = .ok (.iload_n 3, 1) := by decide +kernel
theorem dL_law_550 : decode cL_law 550 = .ok (.iconst 3, 1) := by decide +kernel
theorem dL_law_551 : decode cL_law 551 = .ok (.iadd, 1) := by decide +kernel
theorem dL_law_552 : decode cL_law 552 = .ok (.iaload, 1) := by decide +kernel
theorem dL_law_553 : decode cL_law 553 = .ok (.aload_n 0, 1) := by decide +kernel
theorem dL_law_554 : decode cL_law 554 = .ok (.iload_n 3, 1) := by decide +kernel
theorem dL_law_555 : decode cL_law 555 = .ok (.iconst 4, 1) := by decide +kernel
theorem dL_law_556 : decode cL_law 556 = .ok (.iadd, 1) := by decide +kernel
theorem dL_law_557 : decode cL_law 557 = .ok (.iaload, 1) := by decide +kernel
theorem dL_law_558 : decode cL_law 558 = .ok (.invokevirtual 69, 3) := by decide +kernel
theorem dL_law_561 : decode cL_law 561 = .ok (.if_icmp .eq 270, 3) := by decide +kernel
theorem dL_law_564 : decode cL_law 564 = .ok (.iconst 0, 1) := by decide +kernel
theorem dL_law_565 : decode cL_law 565 = .ok (.ireturn, 1) := by decide +kernel
theorem dL_law_566 : decode cL_law 566 = .ok (.aload_n 1, 1) := by decide +kernel
theorem dL_law_567 : decode cL_law 567 = .ok (.aload_n 0, 1) := by decide +kernel
theorem dL_law_568 : decode cL_law 568 = .ok (.iload_n 3, 1) := by decide +kernel
theorem dL_law_569 : decode cL_law 569 = .ok (.iconst 1, 1) := by decide +kernel
theorem dL_law_570 : decode cL_law 570 = .ok (.iadd, 1) := by decide +kernel
theorem dL_law_571 : decode cL_law 571 = .ok (.iaload, 1) := by decide +kernel
theorem dL_law_572 : decode cL_law 572 = .ok (.invokevirtual 70, 3) := by decide +kernel
theorem dL_law_575 : decode cL_law 575 = .ok (.aload_n 2, 1) := by decide +kernel
theorem dL_law_576 : decode cL_law 576 = .ok (.aload_n 0, 1) := by decide +kernel
theorem dL_law_577 : decode cL_law 577 = .ok (.iload_n 3, 1) := by decide +kernel
theorem dL_law_578 : decode cL_law 578 = .ok (.iconst 1, 1) := by decide +kernel
theorem dL_law_579 : decode cL_law 579 = .ok (.iadd, 1) := by decide +kernel
theorem dL_law_580 : decode cL_law 580 = .ok (.iaload, 1) := by decide +kernel
theorem dL_law_581 : decode cL_law 581 = .ok (.invokevirtual 73, 3) := by decide +kernel
theorem dL_law_584 : decode cL_law 584 = .ok (.if_icmp .eq 247, 3) := by decide +kernel
theorem dL_law_587 : decode cL_law 587 = .ok (.iconst 0, 1) := by decide +kernel
theorem dL_law_588 : decode cL_law 588 = .ok (.ireturn, 1) := by decide +kernel
theorem dL_law_589 : decode cL_law 589 = .ok (.aload_n 1, 1) := by decide +kernel
theorem dL_law_590 : decode cL_law 590 = .ok (.aload_n 0, 1) := by decide +kernel
theorem dL_law_591 : decode cL_law 591 = .ok (.iload_n 3, 1) := by decide +kernel
theorem dL_law_592 : decode cL_law 592 = .ok (.iconst 1, 1) := by decide +kernel
theorem dL_law_593 : decode cL_law 593 = .ok (.iadd, 1) := by decide +kernel
theorem dL_law_594 : decode cL_law 594 = .ok (.iaload, 1) := by decide +kernel
theorem dL_law_595 : decode cL_law 595 = .ok (.invokevirtual 74, 3) := by decide +kernel
theorem dL_law_598 : decode cL_law 598 = .ok (.aload_n 2, 1) := by decide +kernel
theorem dL_law_599 : decode cL_law 599 = .ok (.aload_n 0, 1) := by decide +kernel
theorem dL_law_600 : decode cL_law 600 = .ok (.iload_n 3, 1) := by decide +kernel
theorem dL_law_601 : decode cL_law 601 = .ok (.iconst 1, 1) := by decide +kernel
theorem dL_law_602 : decode cL_law 602 = .ok (.iadd, 1) := by decide +kernel
theorem dL_law_603 : decode cL_law 603 = .ok (.iaload, 1) := by decide +kernel
theorem dL_law_604 : decode cL_law 604 = .ok (.invokevirtual 78, 3) := by decide +kernel
theorem dL_law_607 : decode cL_law 607 = .ok (.lcmp, 1) := by decide +kernel
theorem dL_law_608 : decode cL_law 608 = .ok (.ifCond .eq 223, 3) := by decide +kernel
theorem dL_law_611 : decode cL_law 611 = .ok (.iconst 0, 1) := by decide +kernel
theorem dL_law_612 : decode cL_law 612 = .ok (.ireturn, 1) := by decide +kernel
theorem dL_law_613 : decode cL_law 613 = .ok (.aload_n 1, 1) := by decide +kernel
theorem dL_law_614 : decode cL_law 614 = .ok (.aload_n 0, 1) := by decide +kernel
theorem dL_law_615 : decode cL_law 615 = .ok (.iload_n 3, 1) := by decide +kernel
theorem dL_law_616 : decode cL_law 616 = .ok (.iconst 1, 1) := by decide +kernel
theorem dL_law_617 : decode cL_law 617 = .ok (.iadd, 1) := by decide +kernel
theorem dL_law_618 : decode cL_law 618 = .ok (.iaload, 1) := by decide +kernel
theorem dL_law_619 : decode cL_law 619 = .ok (.invokevirtual 79, 3) := by decide +kernel
theorem dL_law_622 : decode cL_law 622 = .ok (.aload_n 2, 1) := by decide +kernel
theorem dL_law_623 : decode cL_law 623 = .ok (.aload_n 0, 1) := by decide +kernel
theorem dL_law_624 : decode cL_law 624 = .ok (.iload_n 3, 1) := by decide +kernel
theorem dL_law_625 : decode cL_law 625 = .ok (.iconst 1, 1) := by decide +kernel
theorem dL_law_626 : decode cL_law 626 = .ok (.iadd, 1) := by decide +kernel
theorem dL_law_627 : decode cL_law 627 = .ok (.iaload, 1) := by decide +kernel
theorem dL_law_628 : decode cL_law 628 = .ok (.invokevirtual 82, 3) := by decide +kernel
theorem dL_law_631 : decode cL_law 631 = .ok (.if_icmp .eq 200, 3) := by decide +kernel
theorem dL_law_634 : decode cL_law 634 = .ok (.iconst 0, 1) := by decide +kernel
theorem dL_law_635 : decode cL_law 635 = .ok (.ireturn, 1) := by decide +kernel
theorem dL_law_636 : decode cL_law 636 = .ok (.aload_n 1, 1) := by decide +kernel
theorem dL_law_637 : decode cL_law 637 = .ok (.aload_n 0, 1) := by decide +kernel
theorem dL_law_638 : decode cL_law 638 = .ok (.iload_n 3, 1) := by decide +kernel
theorem dL_law_639 : decode cL_law 639 = .ok (.iconst 1, 1) := by decide +kernel
theorem dL_law_640 : decode cL_law 640 = .ok (.iadd, 1) := by decide +kernel
theorem dL_law_641 : decode cL_law 641 = .ok (.iaload, 1) := by decide +kernel
theorem dL_law_642 : decode cL_law 642 = .ok (.aload_n 0, 1) := by decide +kernel
theorem dL_law_643 : decode cL_law 643 = .ok (.iload_n 3, 1) := by decide +kernel
theorem dL_law_644 : decode cL_law 644 = .ok (.iconst 2, 1) := by decide +kernel
theorem dL_law_645 : decode cL_law 645 = .ok (.iadd, 1) := by decide +kernel
theorem dL_law_646 : decode cL_law 646 = .ok (.iaload, 1) := by decide +kernel
theorem dL_law_647 : decode cL_law 647 = .ok (.aload_n 0, 1) := by decide +kernel
theorem dL_law_648 : decode cL_law 648 = .ok (.iload_n 3, 1) := by decide +kernel
theorem dL_law_649 : decode cL_law 649 = .ok (.iconst 3, 1) := by decide +kernel
theorem dL_law_650 : decode cL_law 650 = .ok (.iadd, 1) := by decide +kernel
theorem dL_law_651 : decode cL_law 651 = .ok (.iaload, 1) := by decide +kernel
theorem dL_law_652 : decode cL_law 652 = .ok (.aload_n 0, 1) := by decide +kernel
theorem dL_law_653 : decode cL_law 653 = .ok (.iload_n 3, 1) := by decide +kernel
theorem dL_law_654 : decode cL_law 654 = .ok (.iconst 4, 1) := by decide +kernel
theorem dL_law_655 : decode cL_law 655 = .ok (.iadd, 1) := by decide +kernel
theorem dL_law_656 : decode cL_law 656 = .ok (.iaload, 1) := by decide +kernel
theorem dL_law_657 : decode cL_law 657 = .ok (.aload_n 0, 1) := by decide +kernel
theorem dL_law_658 : decode cL_law 658 = .ok (.iload_n 3, 1) := by decide +kernel
theorem dL_law_659 : decode cL_law 659 = .ok (.iconst 5, 1) := by decide +kernel
theorem dL_law_660 : decode cL_law 660 = .ok (.iadd, 1) := by decide +kernel
theorem dL_law_661 : decode cL_law 661 = .ok (.iaload, 1) := by decide +kernel
theorem dL_law_662 : decode cL_law 662 = .ok (.invokevirtual 83, 3) := by decide +kernel
theorem dL_law_665 : decode cL_law 665 = .ok (.aload_n 2, 1) := by decide +kernel
theorem dL_law_666 : decode cL_law 666 = .ok (.aload_n 0, 1) := by decide +kernel
theorem dL_law_667 : decode cL_law 667 = .ok (.iload_n 3, 1) := by decide +kernel
theorem dL_law_668 : decode cL_law 668 = .ok (.iconst 1, 1) := by decide +kernel
theorem dL_law_669 : decode cL_law 669 = .ok (.iadd, 1) := by decide +kernel
theorem dL_law_670 : decode cL_law 670 = .ok (.iaload, 1) := by decide +kernel
theorem dL_law_671 : decode cL_law 671 = .ok (.aload_n 0, 1) := by decide +kernel
theorem dL_law_672 : decode cL_law 672 = .ok (.iload_n 3, 1) := by decide +kernel
theorem dL_law_673 : decode cL_law 673 = .ok (.iconst 2, 1) := by decide +kernel
theorem dL_law_674 : decode cL_law 674 = .ok (.iadd, 1) := by decide +kernel
theorem dL_law_675 : decode cL_law 675 = .ok (.iaload, 1) := by decide +kernel
theorem dL_law_676 : decode cL_law 676 = .ok (.aload_n 0, 1) := by decide +kernel
theorem dL_law_677 : decode cL_law 677 = .ok (.iload_n 3, 1) := by decide +kernel
theorem dL_law_678 : decode cL_law 678 = .ok (.iconst 3, 1) := by decide +kernel
theorem dL_law_679 : decode cL_law 679 = .ok (.iadd, 1) := by decide +kernel
theorem dL_law_680 : decode cL_law 680 = .ok (.iaload, 1) := by decide +kernel
theorem dL_law_681 : decode cL_law 681 = .ok (.aload_n 0, 1) := by decide +kernel
theorem dL_law_682 : decode cL_law 682 = .ok (.iload_n 3, 1) := by decide +kernel
theorem dL_law_683 : decode cL_law 683 = .ok (.iconst 4, 1) := by decide +kernel
theorem dL_law_684 : decode cL_law 684 = .ok (.iadd, 1) := by decide +kernel
theorem dL_law_685 : decode cL_law 685 = .ok (.iaload, 1) := by decide +kernel
theorem dL_law_686 : decode cL_law 686 = .ok (.aload_n 0, 1) := by decide +kernel
theorem dL_law_687 : decode cL_law 687 = .ok (.iload_n 3, 1) := by decide +kernel
theorem dL_law_688 : decode cL_law 688 = .ok (.iconst 5, 1) := by decide +kernel
theorem dL_law_689 : decode cL_law 689 = .ok (.iadd, 1) := by decide +kernel
theorem dL_law_690 : decode cL_law 690 = .ok (.iaload, 1) := by decide +kernel
theorem dL_law_691 : decode cL_law 691 = .ok (.invokevirtual 86, 3) := by decide +kernel
theorem dL_law_694 : decode cL_law 694 = .ok (.if_icmp .eq 137, 3) := by decide +kernel
theorem dL_law_697 : decode cL_law 697 = .ok (.iconst 0, 1) := by decide +kernel
theorem dL_law_698 : decode cL_law 698 = .ok (.ireturn, 1) := by decide +kernel
theorem dL_law_699 : decode cL_law 699 = .ok (.aload_n 1, 1) := by decide +kernel
theorem dL_law_700 : decode cL_law 700 = .ok (.invokevirtual 87, 3) := by decide +kernel
theorem dL_law_703 : decode cL_law 703 = .ok (.aload_n 2, 1) := by decide +kernel
theorem dL_law_704 : decode cL_law 704 = .ok (.invokevirtual 90, 3) := by decide +kernel
theorem dL_law_707 : decode cL_law 707 = .ok (.if_icmp .eq 124, 3) := by decide +kernel
theorem dL_law_710 : decode cL_law 710 = .ok (.iconst 0, 1) := by decide +kernel
theorem dL_law_711 : decode cL_law 711 = .ok (.ireturn, 1) := by decide +kernel
theorem dL_law_712 : decode cL_law 712 = .ok (.aload_n 1, 1) := by decide +kernel
theorem dL_law_713 : decode cL_law 713 = .ok (.aload_n 0, 1) := by decide +kernel
theorem dL_law_714 : decode cL_law 714 = .ok (.iload_n 3, 1) := by decide +kernel
theorem dL_law_715 : decode cL_law 715 = .ok (.iconst 1, 1) := by decide +kernel
theorem dL_law_716 : decode cL_law 716 = .ok (.iadd, 1) := by decide +kernel
theorem dL_law_717 : decode cL_law 717 = .ok (.iaload, 1) := by decide +kernel
theorem dL_law_718 : decode cL_law 718 = .ok (.invokevirtual 91, 3) := by decide +kernel
theorem dL_law_721 : decode cL_law 721 = .ok (.aload_n 2, 1) := by decide +kernel
theorem dL_law_722 : decode cL_law 722 = .ok (.aload_n 0, 1) := by decide +kernel
theorem dL_law_723 : decode cL_law 723 = .ok (.iload_n 3, 1) := by decide +kernel
theorem dL_law_724 : decode cL_law 724 = .ok (.iconst 1, 1) := by decide +kernel
theorem dL_law_725 : decode cL_law 725 = .ok (.iadd, 1) := by decide +kernel
theorem dL_law_726 : decode cL_law 726 = .ok (.iaload, 1) := by decide +kernel
theorem dL_law_727 : decode cL_law 727 = .ok (.invokevirtual 94, 3) := by decide +kernel
theorem dL_law_730 : decode cL_law 730 = .ok (.if_icmp .eq 101, 3) := by decide +kernel
theorem dL_law_733 : decode cL_law 733 = .ok (.iconst 0, 1) := by decide +kernel
theorem dL_law_734 : decode cL_law 734 = .ok (.ireturn, 1) := by decide +kernel
theorem dL_law_735 : decode cL_law 735 = .ok (.aload_n 1, 1) := by decide +kernel
theorem dL_law_736 : decode cL_law 736 = .ok (.invokevirtual 95, 3) := by decide +kernel
theorem dL_law_739 : decode cL_law 739 = .ok (.aload_n 2, 1) := by decide +kernel
theorem dL_law_740 : decode cL_law 740 = .ok (.invokevirtual 98, 3) := by decide +kernel
theorem dL_law_743 : decode cL_law 743 = .ok (.if_icmp .eq 88, 3) := by decide +kernel
theorem dL_law_746 : decode cL_law 746 = .ok (.iconst 0, 1) := by decide +kernel
theorem dL_law_747 : decode cL_law 747 = .ok (.ireturn, 1) := by decide +kernel
theorem dL_law_748 : decode cL_law 748 = .ok (.aload_n 1, 1) := by decide +kernel
theorem dL_law_749 : decode cL_law 749 = .ok (.aload_n 0, 1) := by decide +kernel
theorem dL_law_750 : decode cL_law 750 = .ok (.iload_n 3, 1) := by decide +kernel
theorem dL_law_751 : decode cL_law 751 = .ok (.iconst 1, 1) := by decide +kernel
theorem dL_law_752 : decode cL_law 752 = .ok (.iadd, 1) := by decide +kernel
theorem dL_law_753 : decode cL_law 753 = .ok (.iaload, 1) := by decide +kernel
theorem dL_law_754 : decode cL_law 754 = .ok (.invokevirtual 99, 3) := by decide +kernel
theorem dL_law_757 : decode cL_law 757 = .ok (.aload_n 2, 1) := by decide +kernel
theorem dL_law_758 : decode cL_law 758 = .ok (.aload_n 0, 1) := by decide +kernel
theorem dL_law_759 : decode cL_law 759 = .ok (.iload_n 3, 1) := by decide +kernel
theorem dL_law_760 : decode cL_law 760 = .ok (.iconst 1, 1) := by decide +kernel
theorem dL_law_761 : decode cL_law 761 = .ok (.iadd, 1) := by decide +kernel
theorem dL_law_762 : decode cL_law 762 = .ok (.iaload, 1) := by decide +kernel
theorem dL_law_763 : decode cL_law 763 = .ok (.invokevirtual 102, 3) := by decide +kernel
theorem dL_law_766 : decode cL_law 766 = .ok (.if_icmp .eq 65, 3) := by decide +kernel
theorem dL_law_769 : decode cL_law 769 = .ok (.iconst 0, 1) := by decide +kernel
theorem dL_law_770 : decode cL_law 770 = .ok (.ireturn, 1) := by decide +kernel
theorem dL_law_771 : decode cL_law 771 = .ok (.aload_n 1, 1) := by decide +kernel
theorem dL_law_772 : decode cL_law 772 = .ok (.aload_n 0, 1) := by decide +kernel
theorem dL_law_773 : decode cL_law 773 = .ok (.iload_n 3, 1) := by decide +kernel
theorem dL_law_774 : decode cL_law 774 = .ok (.iconst 1, 1) := by decide +kernel
theorem dL_law_775 : decode cL_law 775 = .ok (.iadd, 1) := by decide +kernel
theorem dL_law_776 : decode cL_law 776 = .ok (.iaload, 1) := by decide +kernel
theorem dL_law_777 : decode cL_law 777 = .ok (.aload_n 0, 1) := by decide +kernel
theorem dL_law_778 : decode cL_law 778 = .ok (.iload_n 3, 1) := by decide +kernel
theorem dL_law_779 : decode cL_law 779 = .ok (.iconst 2, 1) := by decide +kernel
theorem dL_law_780 : decode cL_law 780 = .ok (.iadd, 1) := by decide +kernel
theorem dL_law_781 : decode cL_law 781 = .ok (.iaload, 1) := by decide +kernel
theorem dL_law_782 : decode cL_law 782 = .ok (.invokevirtual 103, 3) := by decide +kernel
theorem dL_law_785 : decode cL_law 785 = .ok (.aload_n 2, 1) := by decide +kernel
theorem dL_law_786 : decode cL_law 786 = .ok (.aload_n 0, 1) := by decide +kernel
theorem dL_law_787 : decode cL_law 787 = .ok (.iload_n 3, 1) := by decide +kernel
theorem dL_law_788 : decode cL_law 788 = .ok (.iconst 1, 1) := by decide +kernel
theorem dL_law_789 : decode cL_law 789 = .ok (.iadd, 1) := by decide +kernel
theorem dL_law_790 : decode cL_law 790 = .ok (.iaload, 1) := by decide +kernel
theorem dL_law_791 : decode cL_law 791 = .ok (.aload_n 0, 1) := by decide +kernel
theorem dL_law_792 : decode cL_law 792 = .ok (.iload_n 3, 1) := by decide +kernel
theorem dL_law_793 : decode cL_law 793 = .ok (.iconst 2, 1) := by decide +kernel
theorem dL_law_794 : decode cL_law 794 = .ok (.iadd, 1) := by decide +kernel
theorem dL_law_795 : decode cL_law 795 = .ok (.iaload, 1) := by decide +kernel
theorem dL_law_796 : decode cL_law 796 = .ok (.invokevirtual 106, 3) := by decide +kernel
theorem dL_law_799 : decode cL_law 799 = .ok (.if_icmp .eq 32, 3) := by decide +kernel
theorem dL_law_802 : decode cL_law 802 = .ok (.iconst 0, 1) := by decide +kernel
theorem dL_law_803 : decode cL_law 803 = .ok (.ireturn, 1) := by decide +kernel
theorem dL_law_804 : decode cL_law 804 = .ok (.aload_n 1, 1) := by decide +kernel
theorem dL_law_805 : decode cL_law 805 = .ok (.invokevirtual 107, 3) := by decide +kernel
theorem dL_law_808 : decode cL_law 808 = .ok (.aload_n 2, 1) := by decide +kernel
theorem dL_law_809 : decode cL_law 809 = .ok (.invokevirtual 110, 3) := by decide +kernel
theorem dL_law_812 : decode cL_law 812 = .ok (.if_icmp .eq 19, 3) := by decide +kernel
theorem dL_law_815 : decode cL_law 815 = .ok (.iconst 0, 1) := by decide +kernel
theorem dL_law_816 : decode cL_law 816 = .ok (.ireturn, 1) := by decide +kernel
theorem dL_law_817 : decode cL_law 817 = .ok (.aload_n 1, 1) := by decide +kernel
theorem dL_law_818 : decode cL_law 818 = .ok (.invokevirtual 111, 3) := by decide +kernel
theorem dL_law_821 : decode cL_law 821 = .ok (.aload_n 2, 1) := by decide +kernel
theorem dL_law_822 : decode cL_law 822 = .ok (.invokevirtual 115, 3) := by decide +kernel
theorem dL_law_825 : decode cL_law 825 = .ok (.lcmp, 1) := by decide +kernel
theorem dL_law_826 : decode cL_law 826 = .ok (.ifCond .eq 5, 3) := by decide +kernel
theorem dL_law_829 : decode cL_law 829 = .ok (.iconst 0, 1) := by decide +kernel
theorem dL_law_830 : decode cL_law 830 = .ok (.ireturn, 1) := by decide +kernel
theorem dL_law_831 : decode cL_law 831 = .ok (.iinc 3 6, 3) := by decide +kernel
theorem dL_law_834 : decode cL_law 834 = .ok (.goto (-816), 3) := by decide +kernel
theorem dL_law_837 : decode cL_law 837 = .ok (.iconst 1, 1) := by decide +kernel
theorem dL_law_838 : decode cL_law 838 = .ok (.ireturn, 1) := by decide +kernel
abbrev vwCl : List vw_C := [(RX0, TX0, 4), (RX1, TX1, 5), (RX2, TX2, 12), (RX3, TX3, 18)]
end
section
/-! The state: 42 cells by number. 0 the object, 1 drawers, 2 contents, 3 orders, 4 metFaults, 5 faultCounts, 6 .. 14 contents (6: nothing), 15 .. 23 their values, 24 .. 31 orders; 32 the model, 33 has, 34 note, 35 rowOf, 36 kindOf, 37 sizeOf, 38 place, 39 faults, 40 orderOf, 41 doneFault. -/
abbrev zE : Type := (Nat → ClassId) × (Nat → Nat → Nat) × (Nat → ClassId) × (Nat → Nat) × Nat
abbrev zC : Type := (Nat → Nat → Int32) × (Nat → Nat → Int64) × (Nat → Nat)
abbrev zM : Type := (Nat → Nat → Int32) × (Nat → Nat → Int64)
abbrev zcy (E : zE) : Nat → ClassId := E.2.2.1
abbrev zl (E : zE) : Nat → Nat := E.2.2.2.1
abbrev zz (E : zE) : Nat := E.2.2.2.2
def kd (i : Nat) : Nat := if i = 0 then 0 else if i = 1 then 1 else if i = 2 then 2 else if i = 3 then 3 else if i < 6 then 4 else if i < 15 then 6 else if i < 24 then 5 else if i < 32 then 7 else if i = 32 then 8 else if i = 38 then 10 else 9
def ln (i : Nat) : Nat := if i = 5 then 5 else if i = 36 then 5000 else if i = 37 then 5000 else if i = 39 then 5 else if i = 40 then 40 else 8
def zG (E : zE) (c : zC) (mo : zM) (i : Nat) : va_E :=
  if kd i = 0 then .inr (2, [.ref (zl E 6), .ref (zl E 1), .ref (zl E 2), .int (c.1 0 3), .long (c.2.1 0 4), .int (c.1 0 5), .ref (zl E 3), .int (c.1 0 7), .ref (zl E 4), .int (c.1 0 9), .int (c.1 0 10), .ref (zl E 5)])
  else if kd i = 1 then .inl (zcy E 2, 8, .inr (.inr (.inr (.inr (fun k => some (zl E (c.2.2 k)))))))
  else if kd i = 2 then .inl (zcy E 2, 8, .inr (.inr (.inr (.inr (fun k => some (zl E (7 + k)))))))
  else if kd i = 3 then .inl (zcy E 3, 8, .inr (.inr (.inr (.inr (fun k => some (zl E (24 + k)))))))
  else if kd i = 4 then .inl (zcy E 0, ln i, .inl (c.1 i))
  else if kd i = 5 then .inl (zcy E 1, 12, .inr (.inl (c.2.1 i)))
  else if kd i = 6 then .inr (0, [.int (c.1 i 0), .int (c.1 i 1), .int (c.1 i 2), .ref (zl E (i + 9))])
  else if kd i = 7 then .inr (1, [.int (c.1 i 0), .int (c.1 i 1), .int (c.1 i 2), .int (c.1 i 3), .int (c.1 i 4)])
  else if kd i = 8 then .inr (3, [.ref (zl E 33), .ref (zl E 34), .ref (zl E 35), .int (mo.1 32 3), .ref (zl E 36), .ref (zl E 37), .ref (zl E 38), .int (mo.1 32 7), .int (mo.1 32 8), .long (mo.2 32 9), .int (mo.1 32 10), .int (mo.1 32 11), .ref (zl E 39), .int (mo.1 32 13), .ref (zl E 40), .int (mo.1 32 15), .ref (zl E 41), .int (mo.1 32 17)])
  else if kd i = 9 then .inl (zcy E 0, ln i, .inl (mo.1 i))
  else .inl (zcy E 1, 60000, .inr (.inl (mo.2 i)))
def zL (E : zE) (g : Nat → va_E) : va_W := (List.range 42).map (fun i => (zl E i, g i))
def zA (E : zE) : Nat → Prop := fun q => zz E ≤ q
def zOk (E : zE) : Prop := (∀ i j, i < 42 → j < 42 → zl E i = zl E j → i = j) ∧ ∀ i, i < 42 → zz E ≤ zl E i
abbrev zD (E : zE) : va_G := (E.1, E.2.1)
abbrev zT (E : zE) : List (ClassId × FieldType) := [(zcy E 0, .int), (zcy E 1, .long), (zcy E 2, .object RX0), (zcy E 3, .object RX1)]
def zI (E : zE) (c : zC) (mo : zM) (U : State) (H : Heap) : Prop := va_P (zD E) vwCl (zL E (zG E c mo)) H ∧ va_K (zD E) vwCl (zT E) U ∧ zOk E ∧ zz E ≤ H.size ∧ va_Nw (.methodLinkNest RX0 33 yX2_fits RX2) U
def zW (E : zE) (c : zC) (mo : zM) (s : State) (H0 H : Heap) (locs : List Loc) : Prop := zI E c mo s H ∧ va_S (zA E) H0 H locs ∧ zz E ≤ H0.size
theorem zL_get (E : zE) (g : Nat → va_E) {i : Nat} (hi : i < 42) : (zL E g)[i]? = some (zl E i, g i) := by
  simp [zL, hi]
theorem zL_at {E : zE} {g : Nat → va_E} {i : Nat} {q : Nat × va_E} (h : (zL E g)[i]? = some q) : i < 42 ∧ q = (zl E i, g i) := by
  have hi : i < 42 := by
    have := (List.getElem?_eq_some_iff.mp h).1
    simpa [zL] using this
  rw [zL_get E g hi] at h
  exact ⟨hi, (Option.some.inj h).symm⟩
theorem zL_set (E : zE) (g : Nat → va_E) {i : Nat} (hi : i < 42) (e : va_E) : (zL E g).set i (zl E i, e) = zL E (va_up g i e) := by
  apply List.ext_getElem?
  intro k
  by_cases hk : k = i
  · subst hk
    rw [zL_get E _ hi]
    rw [List.getElem?_set_self (by simpa [zL] using hi)]
    simp [va_up]
  · rw [List.getElem?_set_ne (by omega)]
    by_cases h42 : k < 42
    · rw [zL_get E _ h42, zL_get E _ h42]
      simp [va_up, hk]
    · rw [List.getElem?_eq_none (by simp [zL]; omega), List.getElem?_eq_none (by simp [zL]; omega)]
theorem zD_of {E : zE} (h : zOk E) (g : Nat → va_E) : va_D (zA E) (zL E g) := by
  refine ⟨fun i j p q h1 h2 h3 => ?_, fun k q h1 => ?_⟩
  · obtain ⟨hi, rfl⟩ := zL_at h1
    obtain ⟨hj, rfl⟩ := zL_at h2
    exact h.1 i j hi hj h3
  · obtain ⟨hi, rfl⟩ := zL_at h1
    exact h.2 k hi
theorem zNw_moved {s U : State} (h : s.WarmedH U.vm) (hZ : va_Nw (.methodLinkNest RX0 33 yX2_fits RX2) s) : va_Nw (.methodLinkNest RX0 33 yX2_fits RX2) U := va_Nw.warmM h hZ
abbrev cQi (E : zE) (r : Int32) (c : zC) (mo : zM) : Array Value → State → Outcome → State → Prop := va_Qi (fun (r' : Int32) (u : zC × zM) => r' = r ∧ u = (c, mo)) (fun u t => zI E u.1 u.2 t t.heap) (zA E)
abbrev cQl (E : zE) (r : Int64) (c : zC) (mo : zM) : Array Value → State → Outcome → State → Prop := va_Ql (fun (r' : Int64) (u : zC × zM) => r' = r ∧ u = (c, mo)) (fun u t => zI E u.1 u.2 t t.heap) (zA E)
abbrev cQv (E : zE) (c : zC) (mo : zM) : Array Value → State → Outcome → State → Prop := va_Qv (fun (u : zC × zM) => u = (c, mo)) (fun u t => zI E u.1 u.2 t t.heap) (zA E)
abbrev cQr (E : zE) (r : Nat) (c : zC) (mo : zM) : Array Value → State → Outcome → State → Prop := va_Qr (fun (u : zC × zM × Nat) => u = (c, mo, r)) (fun u a t => a = zl E u.2.2 ∧ zI E u.1 u.2.1 t t.heap) (zA E)
abbrev zP (E : zE) (c : zC) (mo : zM) (vs : List Value) : Array Value → State → Prop := va_Pc vs (fun U => zI E c mo U U.heap)
abbrev zR (f n : Nat) : Room := { frames := f, cells := 0, slots := 0, locals := n }
theorem zI_blind (E : zE) (c : zC) (mo : zM) (vs : List Value) : FrameBlind (zP E c mo vs) := by
  intro a U g mk q
  obtain ⟨q0, qP, qK, qO, qz, qn⟩ := q
  exact ⟨q0, qP, va_K.moved (u := U) (U := U.calling g mk a) (Vm.Alike.refl U.vm) qK, qO, qz, va_Nw.same rfl (rfl : U.vm = (U.calling g mk a).vm) qn⟩
theorem z_preS {E : zE} {c : zC} {mo : zM} {s : State} {H0 H : Heap} {locs : List Loc} (hw : zW E c mo s H0 H locs) (As : List Value) : PreS s H (zP E c mo As) As := by
  obtain ⟨⟨hP, hK, hO, hz, hn⟩, hS, hz0⟩ := hw
  exact ⟨zI_blind E c mo As, fun U hU hW => ⟨rfl, by rw [hU]; exact hP, va_K.moved hW.alike hK, hO, by rw [hU]; exact hz, zNw_moved hW hn⟩⟩
theorem z_preV {E : zE} {c : zC} {mo : zM} {s : State} {H0 H : Heap} {locs : List Loc} (hw : zW E c mo s H0 H locs) {i ci : Nat} {fs : List Value} {q : vw_C} (hi : i < 42) (hG : zG E c mo i = .inr (ci, fs)) (hc : vwCl[ci]? = some q) (As : List Value) : PreV s H q.1 (zl E i) (zP E c mo (.ref (zl E i) :: As)) As := by
  obtain ⟨⟨hP, hK, hO, hz, hn⟩, hS, hz0⟩ := hw
  exact ⟨zI_blind E c mo _, va_recv hK hP hc (q0 := i) (by rw [zL_get E _ hi, hG]), fun U hU hW => ⟨rfl, by rw [hU]; exact hP, va_K.moved hW.alike hK, hO, by rw [hU]; exact hz, zNw_moved hW hn⟩⟩
section ZW
variable {p : Program} {l : Launch} {e : Env} {R : Room} {s : State} {m : MethodId} {args : Array Value} {below : List Frame} {meth : Method} {cd : Code} {H0 H : Heap} {locs : List Loc} {cells slots : Nat} {Q : State → Prop} {E : zE} {c : zC} {mo : zM} {cc : ByteArray} {pc : Nat} {ls : Array Slot} {rest : List Value}
theorem z_ent {l : Launch} {y : MethodName} {ws ws' : List Cond} {cc : ByteArray} {maxL : Nat} {ret : Option FieldType} {rm : Room} {Qc : Array Value → State → Outcome → State → Prop} {E : zE} {c : zC} {mo : zM} {vs : List Value} (hy : plainName y.cls = true) (hw : ws = Cond.code y cc maxL ret :: ws') (hlen : (lg_sl vs).length ≤ maxL)
    (body : ∀ (p : Program) (e : Env) (s : State) (m : MethodId) (below : List Frame) (meth : Method) (cd : Code) (ls : Array Slot), p.tables.exec = Jvm.exec → cd.code = cc → meth.sig.returnType = ret → cd.maxLocals = maxL → s.vm.findClass y.cls = some m.cls → (∀ w ∈ ws, w.before vs.toArray s = true) → meth.locks = false → lv_has ls maxL (lv_args 0 vs) → zW E c mo s s.heap s.heap [] →
      W p l e (headSpec ws rm).room s m vs.toArray below meth cd s.heap [] 0 0 (MQ below Qc vs.toArray s 0 0 (zA E)) (F0 m 0 ls [])) : Met l y ws rm (zP E c mo vs) Qc 0 0 (zA E) := by
  refine Met.ofW hy hw ?_
  intro p e s m args below meth cd s₁ B hml hv
  obtain ⟨rfl, hI⟩ := hv
  have hl := lv_entry vs (n := maxL) hlen
  rw [lg_entry_eq]
  exact body p e s m below meth cd _ B.exec B.bytes B.returns hml (findClass_of_methodNamed B.named) (atoms_spec (ws := ws) B.pre) B.notSynchronized hl ⟨hI, va_S.rf, hI.2.2.2.1⟩
theorem z_iret {r0 : Int32} {c0 : zC} {mo0 : zM} {v : Int32} (hx : p.tables.exec = Jvm.exec) (hb : cd.code = cc) (hr : meth.sig.returnType = some .int) (hlocks : meth.locks = false) (hw : zW E c mo s s.heap H locs) (hdg : decode cc pc = .ok (.ireturn, 1)) (h1 : v = r0) (h2 : c = c0) (h3 : mo = mo0) : W p l e R s m args below meth cd H locs 0 0 (MQ below (cQi E r0 c0 mo0) args s 0 0 (zA E)) (F0 m pc ls [.int v]) := by
  subst h1 h2 h3
  obtain ⟨⟨hP, hK, hO, hz, hn⟩, hS, hz0⟩ := hw
  exact W.iret hx hb hr (fun t ht hW => ⟨⟨v, (c, mo), rfl, ⟨rfl, rfl⟩, by rw [ht]; exact hP, va_K.moved hW.alike hK, hO, by rw [ht]; exact hz, zNw_moved hW hn⟩, hS.F ht⟩) hS.2.2 hdg hlocks
theorem z_zret {r0 : Int32} {c0 : zC} {mo0 : zM} {v : Int32} (hx : p.tables.exec = Jvm.exec) (hb : cd.code = cc) (hr : meth.sig.returnType = some .boolean) (hlocks : meth.locks = false) (hw : zW E c mo s s.heap H locs) (hdg : decode cc pc = .ok (.ireturn, 1)) (hn2 : narrow .boolean (.int v) = .int v) (h1 : v = r0) (h2 : c = c0) (h3 : mo = mo0) : W p l e R s m args below meth cd H locs 0 0 (MQ below (cQi E r0 c0 mo0) args s 0 0 (zA E)) (F0 m pc ls [.int v]) := by
  subst h1 h2 h3
  obtain ⟨⟨hP, hK, hO, hz, hn⟩, hS, hz0⟩ := hw
  exact W.zret hx hb hr hn2 (fun t ht hW => ⟨⟨v, (c, mo), rfl, ⟨rfl, rfl⟩, by rw [ht]; exact hP, va_K.moved hW.alike hK, hO, by rw [ht]; exact hz, zNw_moved hW hn⟩, hS.F ht⟩) hS.2.2 hdg hlocks
theorem z_lret {r0 : Int64} {c0 : zC} {mo0 : zM} {v : Int64} (hx : p.tables.exec = Jvm.exec) (hb : cd.code = cc) (hr : meth.sig.returnType = some .long) (hlocks : meth.locks = false) (hw : zW E c mo s s.heap H locs) (hdg : decode cc pc = .ok (.lreturn, 1)) (h1 : v = r0) (h2 : c = c0) (h3 : mo = mo0) : W p l e R s m args below meth cd H locs 0 0 (MQ below (cQl E r0 c0 mo0) args s 0 0 (zA E)) (F0 m pc ls [.long v]) := by
  subst h1 h2 h3
  obtain ⟨⟨hP, hK, hO, hz, hn⟩, hS, hz0⟩ := hw
  exact W.lret hx hb hr (fun t ht hW => ⟨⟨v, (c, mo), rfl, ⟨rfl, rfl⟩, by rw [ht]; exact hP, va_K.moved hW.alike hK, hO, by rw [ht]; exact hz, zNw_moved hW hn⟩, hS.F ht⟩) hS.2.2 hdg hlocks
theorem z_vret {c0 : zC} {mo0 : zM} (hx : p.tables.exec = Jvm.exec) (hb : cd.code = cc) (hr : meth.sig.returnType = none) (hlocks : meth.locks = false) (hw : zW E c mo s s.heap H locs) (hdg : decode cc pc = .ok (.return_, 1)) (h2 : c = c0) (h3 : mo = mo0) : W p l e R s m args below meth cd H locs 0 0 (MQ below (cQv E c0 mo0) args s 0 0 (zA E)) (F0 m pc ls []) := by
  subst h2 h3
  obtain ⟨⟨hP, hK, hO, hz, hn⟩, hS, hz0⟩ := hw
  exact W.vret hx hb hr (fun t ht hW => ⟨⟨(c, mo), rfl, rfl, by rw [ht]; exact hP, va_K.moved hW.alike hK, hO, by rw [ht]; exact hz, zNw_moved hW hn⟩, hS.F ht⟩) hS.2.2 hdg hlocks
theorem z_rret {r0 r1 : Nat} {c0 : zC} {mo0 : zM} {rt : FieldType} (hx : p.tables.exec = Jvm.exec) (hb : cd.code = cc) (hr : meth.sig.returnType = some rt) (hrt : ∃ n, rt = .object n) (hlocks : meth.locks = false) (hw : zW E c mo s s.heap H locs) (hdg : decode cc pc = .ok (.areturn, 1)) (h1 : r1 = r0) (h2 : c = c0) (h3 : mo = mo0) : W p l e R s m args below meth cd H locs 0 0 (MQ below (cQr E r0 c0 mo0) args s 0 0 (zA E)) (F0 m pc ls [.ref (zl E r1)]) := by
  subst h1 h2 h3
  obtain ⟨⟨hP, hK, hO, hz, hn⟩, hS, hz0⟩ := hw
  exact W.aret hx hb hr (Or.inl hrt) (Or.inr ⟨_, rfl⟩) (fun t ht hW => ⟨⟨(c, mo, r1), _, rfl, rfl, rfl, by rw [ht]; exact hP, va_K.moved hW.alike hK, hO, by rw [ht]; exact hz, zNw_moved hW hn⟩, hS.F ht⟩) hS.2.2 hdg hlocks
theorem zW_back {c1 : zC} {mo1 : zM} {H1 : Heap} {locs1 : List Loc} {t : State} (hw : zW E c mo s H0 H locs) (ht : t.heap = H1) (hvm : s.vm.Alike t.vm) (hB : zI E c1 mo1 t t.heap) (hS : va_S (zA E) H0 H1 locs1) : zW E c1 mo1 s H0 H1 locs1 := by
  subst ht
  exact ⟨⟨hB.1, va_K.moved hvm.symm hB.2.1, hB.2.2.1, hB.2.2.2.1, hw.1.2.2.2.2⟩, hS, hw.2.2⟩
theorem z_calli {st0 : List Value} {a : Array Value} {r : Int32} {c1 : zC} {mo1 : zM} (hr : va_Run p l e R s m args below meth cd H locs cells slots 0 0 (F0 m pc ls st0) rest (cQi E r c1 mo1 a) (zA E)) (hw : zW E c mo s H0 H locs) (kk : ∀ (H1 : Heap) (locs1 : List Loc), zW E c1 mo1 s H0 H1 locs1 → W p l e R s m args below meth cd H1 locs1 cells slots Q (F0 m (pc + 3) ls (.int r :: rest))) : W p l e R s m args below meth cd H locs cells slots Q (F0 m pc ls st0) := by
  refine va_calli hr hw.2.1 (fun _ _ h => h) (fun _ h => h) (fun r' u t H1 locs1 ht hvm hp hB hz1 hk1 hS => ?_)
  obtain ⟨rfl, rfl⟩ := hp
  exact kk H1 locs1 (zW_back hw ht hvm hB hS)
theorem z_calll {st0 : List Value} {a : Array Value} {r : Int64} {c1 : zC} {mo1 : zM} (hr : va_Run p l e R s m args below meth cd H locs cells slots 0 0 (F0 m pc ls st0) rest (cQl E r c1 mo1 a) (zA E)) (hw : zW E c mo s H0 H locs) (kk : ∀ (H1 : Heap) (locs1 : List Loc), zW E c1 mo1 s H0 H1 locs1 → W p l e R s m args below meth cd H1 locs1 cells slots Q (F0 m (pc + 3) ls (.long r :: rest))) : W p l e R s m args below meth cd H locs cells slots Q (F0 m pc ls st0) := by
  refine va_calll hr hw.2.1 (fun _ _ h => h) (fun _ h => h) (fun r' u t H1 locs1 ht hvm hp hB hz1 hk1 hS => ?_)
  obtain ⟨rfl, rfl⟩ := hp
  exact kk H1 locs1 (zW_back hw ht hvm hB hS)
theorem z_callv {st0 : List Value} {a : Array Value} {c1 : zC} {mo1 : zM} (hr : va_Run p l e R s m args below meth cd H locs cells slots 0 0 (F0 m pc ls st0) rest (cQv E c1 mo1 a) (zA E)) (hw : zW E c mo s H0 H locs) (kk : ∀ (H1 : Heap) (locs1 : List Loc), zW E c1 mo1 s H0 H1 locs1 → W p l e R s m args below meth cd H1 locs1 cells slots Q (F0 m (pc + 3) ls rest)) : W p l e R s m args below meth cd H locs cells slots Q (F0 m pc ls st0) := by
  refine va_callv hr hw.2.1 (fun _ _ h => h) (fun _ h => h) (fun u t H1 locs1 ht hvm hp hB hz1 hk1 hS => ?_)
  subst hp
  exact kk H1 locs1 (zW_back hw ht hvm hB hS)
theorem z_callr {st0 : List Value} {a : Array Value} {r : Nat} {c1 : zC} {mo1 : zM} (hr : va_Run p l e R s m args below meth cd H locs cells slots 0 0 (F0 m pc ls st0) rest (cQr E r c1 mo1 a) (zA E)) (hw : zW E c mo s H0 H locs) (kk : ∀ (H1 : Heap) (locs1 : List Loc), zW E c1 mo1 s H0 H1 locs1 → W p l e R s m args below meth cd H1 locs1 cells slots Q (F0 m (pc + 3) ls (.ref (zl E r) :: rest))) : W p l e R s m args below meth cd H locs cells slots Q (F0 m pc ls st0) := by
  refine va_callr hr hw.2.1 (fun _ _ h => h) (fun _ h => h) (fun u ra t H1 locs1 ht hvm hp hB hz1 hk1 hS => ?_)
  subst hp
  obtain ⟨rfl, hB⟩ := hB
  exact kk H1 locs1 (zW_back hw ht hvm hB hS)
/-- a field is read -/
theorem z_get (hx : p.tables.exec = Jvm.exec) (hb : cd.code = cc) {own ref C : String} {T : u_T} {N ci index i : Nat} {Ts : List Cond} (hts : ∀ w ∈ Ts, w.before args s = true) (hin : ∀ w ∈ u_ws C T N, w ∈ Ts) (hown : s.vm.findClass own = some m.cls) (hw : zW E c mo s H0 H locs) {fs : List Value} (hi : i < 42) (hG : zG E c mo i = .inr (ci, fs)) (hc : vwCl[ci]? = some (C, T, N)) (k : Nat) (hk : k < N) (hlink : (Cond.fieldLink own index ref (T k).2.1 (T k).2.2.1).before args s = true) (hsame : (T k).1 = ref) {v : Value} (hv : fs[k]? = some v) (hdg : decode cc pc = .ok (.getfield index, 3))
    (kk : W p l e R s m args below meth cd H locs cells slots Q (F0 m (pc + 3) ls (v :: rest))) : W p l e R s m args below meth cd H locs cells slots Q (F0 m pc ls (.ref (zl E i) :: rest)) :=
  va_get (D := zD E) (ci := ci) (v := v) (C := C) (T := T) (N := N) hx hb hts hin hown hw.1.2.1 hw.1.1 i (by rw [zL_get E _ hi, hG]) hc k hk hlink (fun x9 h9 => by rw [← hsame]; exact h9) hv hdg kk
/-- a field is written -/
theorem z_put (hx : p.tables.exec = Jvm.exec) (hb : cd.code = cc) {own ref C : String} {T : u_T} {N ci index i : Nat} {Ts : List Cond} (hts : ∀ w ∈ Ts, w.before args s = true) (hin : ∀ w ∈ u_ws C T N, w ∈ Ts) (ty0 : Nat → FieldType) (hty : ∀ k, k < N → parseFieldDescriptor (T k).2.2.1 = some (ty0 k)) (hnm : ∀ a, a < N → ∀ b, b < N → a ≠ b → (T a).2.1 ≠ (T b).2.1) (hown : s.vm.findClass own = some m.cls) (hw : zW E c mo s H0 H locs) {fs : List Value} (hi : i < 42) (hG : zG E c mo i = .inr (ci, fs)) (hc : vwCl[ci]? = some (C, T, N)) (k : Nat) (hk : k < N) (hlink : (Cond.fieldLink own index ref (T k).2.1 (T k).2.2.1).before args s = true) (hsame : (T k).1 = ref) (hfin : (T k).2.2.2 = false) {ty : FieldType} {v : Value} (hd : parseFieldDescriptor (T k).2.2.1 = some ty) (hn : narrow ty v = v) (hfit : fits ty v = true) (hl : k < fs.length) {c1 : zC} {mo1 : zM} (hU : va_up (zG E c mo) i (.inr (ci, fs.set k v)) = zG E c1 mo1) (hdg : decode cc pc = .ok (.putfield index, 3))
    (kk : ∀ (H1 : Heap) (locs1 : List Loc), zW E c1 mo1 s H0 H1 locs1 → W p l e R s m args below meth cd H1 locs1 cells slots Q (F0 m (pc + 3) ls rest)) : W p l e R s m args below meth cd H locs cells slots Q (F0 m pc ls (v :: .ref (zl E i) :: rest)) := by
  refine va_put (D := zD E) (ci := ci) (v := v) (ty := ty) (C := C) (T := T) (N := N) (H0 := H0) hx hb hts hin ty0 hty hnm hown hw.1.2.1 hw.1.1 (zD_of hw.1.2.2.1 _) hw.2.1 i (by rw [zL_get E _ hi, hG]) hc k hk hlink (fun x9 h9 => by rw [← hsame]; exact h9) hfin hd hn hfit hl hdg (fun H1 locs1 hP hD hS => ?_)
  rw [zL_set E _ hi, hU] at hP
  exact kk H1 locs1 ⟨⟨hP, hw.1.2.1, hw.1.2.2.1, Nat.le_trans hw.2.2 hS.1, hw.1.2.2.2.2⟩, hS, hw.2.2⟩
theorem z_iald (hx : p.tables.exec = Jvm.exec) (hb : cd.code = cc) (hw : zW E c mo s H0 H locs) {i n : Nat} {f : Nat → Int32} (hi : i < 42) (hG : zG E c mo i = .inl (zcy E 0, n, .inl f)) {x : Int32} (hin : vp_in x n) (hdg : decode cc pc = .ok (.iaload, 1)) (kk : W p l e R s m args below meth cd H locs cells slots Q (F0 m (pc + 1) ls (.int (f x.toNatClampNeg) :: rest))) : W p l e R s m args below meth cd H locs cells slots Q (F0 m pc ls (.int x :: .ref (zl E i) :: rest)) :=
  va_iald hx hb hw.1.2.1 hw.1.1 i 0 (by rw [zL_get E _ hi, hG]) rfl hin hdg kk
theorem z_lald (hx : p.tables.exec = Jvm.exec) (hb : cd.code = cc) (hw : zW E c mo s H0 H locs) {i n : Nat} {f : Nat → Int64} (hi : i < 42) (hG : zG E c mo i = .inl (zcy E 1, n, .inr (.inl f))) {x : Int32} (hin : vp_in x n) (hdg : decode cc pc = .ok (.laload, 1)) (kk : W p l e R s m args below meth cd H locs cells slots Q (F0 m (pc + 1) ls (.long (f x.toNatClampNeg) :: rest))) : W p l e R s m args below meth cd H locs cells slots Q (F0 m pc ls (.int x :: .ref (zl E i) :: rest)) :=
  va_lald hx hb hw.1.2.1 hw.1.1 i 1 (by rw [zL_get E _ hi, hG]) rfl hin hdg kk
theorem z_aald (hx : p.tables.exec = Jvm.exec) (hb : cd.code = cc) (hw : zW E c mo s H0 H locs) {i n t0 : Nat} {C : String} {f : Nat → Nat} (hi : i < 42) (hG : zG E c mo i = .inl (zcy E t0, n, .inr (.inr (.inr (.inr (fun k => some (zl E (f k)))))))) (ht : (zT E)[t0]? = some (zcy E t0, .object C)) {x : Int32} (hin : vp_in x n) (hdg : decode cc pc = .ok (.aaload, 1)) (kk : W p l e R s m args below meth cd H locs cells slots Q (F0 m (pc + 1) ls (.ref (zl E (f x.toNatClampNeg)) :: rest))) : W p l e R s m args below meth cd H locs cells slots Q (F0 m pc ls (.int x :: .ref (zl E i) :: rest)) :=
  va_aldq (f := fun k => some (zl E (f k))) hx hb hw.1.2.1 hw.1.1 i t0 (by rw [zL_get E _ hi, hG]) ht hin hdg kk
theorem z_iast (hx : p.tables.exec = Jvm.exec) (hb : cd.code = cc) (hw : zW E c mo s H0 H locs) {i n : Nat} {f : Nat → Int32} (hi : i < 42) (hG : zG E c mo i = .inl (zcy E 0, n, .inl f)) {x v : Int32} (hin : vp_in x n) {c1 : zC} {mo1 : zM} (hU : va_up (zG E c mo) i (.inl (zcy E 0, n, .inl (upd f x.toNatClampNeg v))) = zG E c1 mo1) (hdg : decode cc pc = .ok (.iastore, 1)) (kk : ∀ (H1 : Heap) (locs1 : List Loc), zW E c1 mo1 s H0 H1 locs1 → W p l e R s m args below meth cd H1 locs1 cells slots Q (F0 m (pc + 1) ls rest)) : W p l e R s m args below meth cd H locs cells slots Q (F0 m pc ls (.int v :: .int x :: .ref (zl E i) :: rest)) := by
  refine va_iast (H0 := H0) hx hb hw.1.2.1 hw.1.1 (zD_of hw.1.2.2.1 _) hw.2.1 i 0 (by rw [zL_get E _ hi, hG]) rfl hin hdg (fun H1 locs1 hP hD hS => ?_)
  rw [zL_set E _ hi, hU] at hP
  exact kk H1 locs1 ⟨⟨hP, hw.1.2.1, hw.1.2.2.1, Nat.le_trans hw.2.2 hS.1, hw.1.2.2.2.2⟩, hS, hw.2.2⟩
theorem z_last (hx : p.tables.exec = Jvm.exec) (hb : cd.code = cc) (hw : zW E c mo s H0 H locs) {i n : Nat} {f : Nat → Int64} (hi : i < 42) (hG : zG E c mo i = .inl (zcy E 1, n, .inr (.inl f))) {x : Int32} {v : Int64} (hin : vp_in x n) {c1 : zC} {mo1 : zM} (hU : va_up (zG E c mo) i (.inl (zcy E 1, n, .inr (.inl (vp_updL f x.toNatClampNeg v)))) = zG E c1 mo1) (hdg : decode cc pc = .ok (.lastore, 1)) (kk : ∀ (H1 : Heap) (locs1 : List Loc), zW E c1 mo1 s H0 H1 locs1 → W p l e R s m args below meth cd H1 locs1 cells slots Q (F0 m (pc + 1) ls rest)) : W p l e R s m args below meth cd H locs cells slots Q (F0 m pc ls (.long v :: .int x :: .ref (zl E i) :: rest)) := by
  refine va_last (H0 := H0) hx hb hw.1.2.1 hw.1.1 (zD_of hw.1.2.2.1 _) hw.2.1 i 1 (by rw [zL_get E _ hi, hG]) rfl hin hdg (fun H1 locs1 hP hD hS => ?_)
  rw [zL_set E _ hi, hU] at hP
  exact kk H1 locs1 ⟨⟨hP, hw.1.2.1, hw.1.2.2.1, Nat.le_trans hw.2.2 hS.1, hw.1.2.2.2.2⟩, hS, hw.2.2⟩
theorem z_aast (hx : p.tables.exec = Jvm.exec) (hb : cd.code = cc) (hw : zW E c mo s H0 H locs) {i j n t0 ci : Nat} {q : vw_C} {vs : List Value} {f : Nat → Option Nat} (hi : i < 42) (hj : j < 42) (hG : zG E c mo i = .inl (zcy E t0, n, .inr (.inr (.inr (.inr f))))) (hGj : zG E c mo j = .inr (ci, vs)) (hc : vwCl[ci]? = some q) (ht : (zT E)[t0]? = some (zcy E t0, .object q.1)) {x : Int32} (hin : vp_in x n) {c1 : zC} {mo1 : zM} (hU : va_up (zG E c mo) i (.inl (zcy E t0, n, .inr (.inr (.inr (.inr (va_up f x.toNatClampNeg (some (zl E j)))))))) = zG E c1 mo1) (hdg : decode cc pc = .ok (.aastore, 1)) (kk : ∀ (H1 : Heap) (locs1 : List Loc), zW E c1 mo1 s H0 H1 locs1 → W p l e R s m args below meth cd H1 locs1 cells slots Q (F0 m (pc + 1) ls rest)) : W p l e R s m args below meth cd H locs cells slots Q (F0 m pc ls (.ref (zl E j) :: .int x :: .ref (zl E i) :: rest)) := by
  refine va_astq (H0 := H0) hx hb hw.1.2.1 hw.1.1 (zD_of hw.1.2.2.1 _) hw.2.1 i t0 j ci (by rw [zL_get E _ hi, hG]) ht (by rw [zL_get E _ hj, hGj]) hc hin hdg (fun H1 locs1 hP hD hS => ?_)
  rw [zL_set E _ hi, hU] at hP
  exact kk H1 locs1 ⟨⟨hP, hw.1.2.1, hw.1.2.2.1, Nat.le_trans hw.2.2 hS.1, hw.1.2.2.2.2⟩, hS, hw.2.2⟩
theorem z_acmpeq (hx : p.tables.exec = Jvm.exec) (hb : cd.code = cc) (hw : zW E c mo s H0 H locs) {i j : Nat} (hi : i < 42) (hj : j < 42) {off : Int} {tgt : Nat} (hdg : decode cc pc = .ok (.if_acmp .eq off, 3)) (ht : (pc : Int) + off = (tgt : Int)) (kt : i = j → W p l e R s m args below meth cd H locs cells slots Q (F0 m tgt ls rest)) (kf : ¬ i = j → W p l e R s m args below meth cd H locs cells slots Q (F0 m (pc + 3) ls rest)) : W p l e R s m args below meth cd H locs cells slots Q (F0 m pc ls (.ref (zl E j) :: .ref (zl E i) :: rest)) :=
  lv_acmp_eq (rx := some (zl E i)) (ry := some (zl E j)) hx hb hdg ht (fun h => kt (hw.1.2.2.1.1 i j hi hj (Option.some.inj h))) (fun h => kf (fun q => h (by rw [q])))
theorem z_acmpne (hx : p.tables.exec = Jvm.exec) (hb : cd.code = cc) (hw : zW E c mo s H0 H locs) {i j : Nat} (hi : i < 42) (hj : j < 42) {off : Int} {tgt : Nat} (hdg : decode cc pc = .ok (.if_acmp .ne off, 3)) (ht : (pc : Int) + off = (tgt : Int)) (kt : ¬ i = j → W p l e R s m args below meth cd H locs cells slots Q (F0 m tgt ls rest)) (kf : i = j → W p l e R s m args below meth cd H locs cells slots Q (F0 m (pc + 3) ls rest)) : W p l e R s m args below meth cd H locs cells slots Q (F0 m pc ls (.ref (zl E j) :: .ref (zl E i) :: rest)) :=
  lv_acmp_ne (rx := some (zl E i)) (ry := some (zl E j)) hx hb hdg ht (fun h => kt (fun q => h (by rw [q]))) (fun h => kf (hw.1.2.2.1.1 i j hi hj (Option.some.inj h)))
end ZW
end
section
def sI (c : zC) (i k : Nat) (v : Int32) : zC := (fun a b => if a = i ∧ b = k then v else c.1 a b, c.2.1, c.2.2)
def sJ (c : zC) (i k : Nat) (v : Int64) : zC := (c.1, fun a b => if a = i ∧ b = k then v else c.2.1 a b, c.2.2)
def sD (c : zC) (k j : Nat) : zC := (c.1, c.2.1, va_up c.2.2 k j)
def tI (mo : zM) (i k : Nat) (v : Int32) : zM := (fun a b => if a = i ∧ b = k then v else mo.1 a b, mo.2)
def tJ (mo : zM) (i k : Nat) (v : Int64) : zM := (mo.1, fun a b => if a = i ∧ b = k then v else mo.2 a b)
theorem kd0 {i : Nat} (h : kd i = 0) : i = 0 := by
  unfold kd at h; (repeat' split at h) <;> omega
theorem kd1 {i : Nat} (h : kd i = 1) : i = 1 := by
  unfold kd at h; (repeat' split at h) <;> omega
theorem kd8 {i : Nat} (h : kd i = 8) : i = 32 := by
  unfold kd at h; (repeat' split at h) <;> omega
theorem kd6 {i : Nat} (h : kd i = 6) : 6 ≤ i ∧ i < 15 := by
  unfold kd at h; (repeat' split at h) <;> omega
theorem kd6l {i : Nat} (h : kd i = 6) : i < 42 := by have := kd6 h; omega
theorem kd6o {i : Nat} (h1 : 6 ≤ i) (h2 : i < 15) : kd i = 6 := by
  unfold kd; (repeat' split) <;> omega
theorem kd65 {i : Nat} (h : kd i = 6) : kd (i + 9) = 5 := by
  have := kd6 h; unfold kd; (repeat' split) <;> omega
theorem kd65l {i : Nat} (h : kd i = 6) : i + 9 < 42 := by have := kd6 h; omega
theorem kd7 {i : Nat} (h : kd i = 7) : 24 ≤ i ∧ i < 32 := by
  unfold kd at h; (repeat' split at h) <;> omega
theorem kd7l {i : Nat} (h : kd i = 7) : i < 42 := by have := kd7 h; omega
theorem kd7o {i : Nat} (h1 : 24 ≤ i) (h2 : i < 32) : kd i = 7 := by
  unfold kd; (repeat' split) <;> omega
theorem zG_6 {E : zE} {c : zC} {mo : zM} {i : Nat} (h : kd i = 6) : zG E c mo i = .inr (0, [.int (c.1 i 0), .int (c.1 i 1), .int (c.1 i 2), .ref (zl E (i + 9))]) := by simp [zG, h]
theorem zG_5 {E : zE} {c : zC} {mo : zM} {i : Nat} (h : kd i = 5) : zG E c mo i = .inl (zcy E 1, 12, .inr (.inl (c.2.1 i))) := by simp [zG, h]
theorem zG_7 {E : zE} {c : zC} {mo : zM} {i : Nat} (h : kd i = 7) : zG E c mo i = .inr (1, [.int (c.1 i 0), .int (c.1 i 1), .int (c.1 i 2), .int (c.1 i 3), .int (c.1 i 4)]) := by simp [zG, h]
theorem zG_4 {E : zE} {c : zC} {mo : zM} {i : Nat} (h : kd i = 4) : zG E c mo i = .inl (zcy E 0, ln i, .inl (c.1 i)) := by simp [zG, h]
theorem zG_9 {E : zE} {c : zC} {mo : zM} {i : Nat} (h : kd i = 9) : zG E c mo i = .inl (zcy E 0, ln i, .inl (mo.1 i)) := by simp [zG, h]
theorem zG_cong {E : zE} {c c1 : zC} {mo mo1 : zM} {b : Nat} (hI : ∀ k, c.1 b k = c1.1 b k) (hJ : ∀ k, c.2.1 b k = c1.2.1 b k) (hD : b = 1 → c.2.2 = c1.2.2) (mI : ∀ k, mo.1 b k = mo1.1 b k) (mJ : ∀ k, mo.2 b k = mo1.2 b k) : zG E c mo b = zG E c1 mo1 b := by
  have eI : c.1 b = c1.1 b := funext hI
  have eJ : c.2.1 b = c1.2.1 b := funext hJ
  have fI : mo.1 b = mo1.1 b := funext mI
  have fJ : mo.2 b = mo1.2 b := funext mJ
  by_cases h0 : kd b = 0
  · have hb := kd0 h0
    subst hb
    simp [zG, h0, eI, eJ]
  by_cases h1 : kd b = 1
  · have hb := kd1 h1
    simp [zG, h1, hD hb]
  by_cases h8 : kd b = 8
  · have hb := kd8 h8
    subst hb
    simp [zG, h8, fI, fJ]
  simp [zG, h0, h1, h8, eI, eJ, fI, fJ]
theorem zU0_3 (E : zE) (c : zC) (mo : zM)  (v : Int32) : va_up (zG E c mo) 0 (.inr (2, [.ref (zl E 6), .ref (zl E 1), .ref (zl E 2), .int v, .long (c.2.1 0 4), .int (c.1 0 5), .ref (zl E 3), .int (c.1 0 7), .ref (zl E 4), .int (c.1 0 9), .int (c.1 0 10), .ref (zl E 5)])) = zG E (sI c 0 3 v) mo := by
  funext b
  by_cases hb : b = 0
  · subst hb
    simp [va_up, zG, kd, sI, sJ, sD, tI, tJ]
  · rw [va_up_ne _ _ hb]
    exact zG_cong (fun k => by simp [sI, sJ, sD, hb]) (fun k => by simp [sI, sJ, sD, hb]) (fun h => by simp_all [sI, sJ, sD]) (fun k => by simp [tI, tJ, hb]) (fun k => by simp [tI, tJ, hb])
theorem zU0_5 (E : zE) (c : zC) (mo : zM)  (v : Int32) : va_up (zG E c mo) 0 (.inr (2, [.ref (zl E 6), .ref (zl E 1), .ref (zl E 2), .int (c.1 0 3), .long (c.2.1 0 4), .int v, .ref (zl E 3), .int (c.1 0 7), .ref (zl E 4), .int (c.1 0 9), .int (c.1 0 10), .ref (zl E 5)])) = zG E (sI c 0 5 v) mo := by
  funext b
  by_cases hb : b = 0
  · subst hb
    simp [va_up, zG, kd, sI, sJ, sD, tI, tJ]
  · rw [va_up_ne _ _ hb]
    exact zG_cong (fun k => by simp [sI, sJ, sD, hb]) (fun k => by simp [sI, sJ, sD, hb]) (fun h => by simp_all [sI, sJ, sD]) (fun k => by simp [tI, tJ, hb]) (fun k => by simp [tI, tJ, hb])
theorem zU0_7 (E : zE) (c : zC) (mo : zM)  (v : Int32) : va_up (zG E c mo) 0 (.inr (2, [.ref (zl E 6), .ref (zl E 1), .ref (zl E 2), .int (c.1 0 3), .long (c.2.1 0 4), .int (c.1 0 5), .ref (zl E 3), .int v, .ref (zl E 4), .int (c.1 0 9), .int (c.1 0 10), .ref (zl E 5)])) = zG E (sI c 0 7 v) mo := by
  funext b
  by_cases hb : b = 0
  · subst hb
    simp [va_up, zG, kd, sI, sJ, sD, tI, tJ]
  · rw [va_up_ne _ _ hb]
    exact zG_cong (fun k => by simp [sI, sJ, sD, hb]) (fun k => by simp [sI, sJ, sD, hb]) (fun h => by simp_all [sI, sJ, sD]) (fun k => by simp [tI, tJ, hb]) (fun k => by simp [tI, tJ, hb])
theorem zU0_9 (E : zE) (c : zC) (mo : zM)  (v : Int32) : va_up (zG E c mo) 0 (.inr (2, [.ref (zl E 6), .ref (zl E 1), .ref (zl E 2), .int (c.1 0 3), .long (c.2.1 0 4), .int (c.1 0 5), .ref (zl E 3), .int (c.1 0 7), .ref (zl E 4), .int v, .int (c.1 0 10), .ref (zl E 5)])) = zG E (sI c 0 9 v) mo := by
  funext b
  by_cases hb : b = 0
  · subst hb
    simp [va_up, zG, kd, sI, sJ, sD, tI, tJ]
  · rw [va_up_ne _ _ hb]
    exact zG_cong (fun k => by simp [sI, sJ, sD, hb]) (fun k => by simp [sI, sJ, sD, hb]) (fun h => by simp_all [sI, sJ, sD]) (fun k => by simp [tI, tJ, hb]) (fun k => by simp [tI, tJ, hb])
theorem zU0_10 (E : zE) (c : zC) (mo : zM)  (v : Int32) : va_up (zG E c mo) 0 (.inr (2, [.ref (zl E 6), .ref (zl E 1), .ref (zl E 2), .int (c.1 0 3), .long (c.2.1 0 4), .int (c.1 0 5), .ref (zl E 3), .int (c.1 0 7), .ref (zl E 4), .int (c.1 0 9), .int v, .ref (zl E 5)])) = zG E (sI c 0 10 v) mo := by
  funext b
  by_cases hb : b = 0
  · subst hb
    simp [va_up, zG, kd, sI, sJ, sD, tI, tJ]
  · rw [va_up_ne _ _ hb]
    exact zG_cong (fun k => by simp [sI, sJ, sD, hb]) (fun k => by simp [sI, sJ, sD, hb]) (fun h => by simp_all [sI, sJ, sD]) (fun k => by simp [tI, tJ, hb]) (fun k => by simp [tI, tJ, hb])
theorem zU0_4 (E : zE) (c : zC) (mo : zM)  (v : Int64) : va_up (zG E c mo) 0 (.inr (2, [.ref (zl E 6), .ref (zl E 1), .ref (zl E 2), .int (c.1 0 3), .long v, .int (c.1 0 5), .ref (zl E 3), .int (c.1 0 7), .ref (zl E 4), .int (c.1 0 9), .int (c.1 0 10), .ref (zl E 5)])) = zG E (sJ c 0 4 v) mo := by
  funext b
  by_cases hb : b = 0
  · subst hb
    simp [va_up, zG, kd, sI, sJ, sD, tI, tJ]
  · rw [va_up_ne _ _ hb]
    exact zG_cong (fun k => by simp [sI, sJ, sD, hb]) (fun k => by simp [sI, sJ, sD, hb]) (fun h => by simp_all [sI, sJ, sD]) (fun k => by simp [tI, tJ, hb]) (fun k => by simp [tI, tJ, hb])
theorem zU32_3 (E : zE) (c : zC) (mo : zM)  (v : Int32) : va_up (zG E c mo) 32 (.inr (3, [.ref (zl E 33), .ref (zl E 34), .ref (zl E 35), .int v, .ref (zl E 36), .ref (zl E 37), .ref (zl E 38), .int (mo.1 32 7), .int (mo.1 32 8), .long (mo.2 32 9), .int (mo.1 32 10), .int (mo.1 32 11), .ref (zl E 39), .int (mo.1 32 13), .ref (zl E 40), .int (mo.1 32 15), .ref (zl E 41), .int (mo.1 32 17)])) = zG E c (tI mo 32 3 v) := by
  funext b
  by_cases hb : b = 32
  · subst hb
    simp [va_up, zG, kd, sI, sJ, sD, tI, tJ]
  · rw [va_up_ne _ _ hb]
    exact zG_cong (fun k => by simp [sI, sJ, sD, hb]) (fun k => by simp [sI, sJ, sD, hb]) (fun h => by simp_all [sI, sJ, sD]) (fun k => by simp [tI, tJ, hb]) (fun k => by simp [tI, tJ, hb])
theorem zU32_7 (E : zE) (c : zC) (mo : zM)  (v : Int32) : va_up (zG E c mo) 32 (.inr (3, [.ref (zl E 33), .ref (zl E 34), .ref (zl E 35), .int (mo.1 32 3), .ref (zl E 36), .ref (zl E 37), .ref (zl E 38), .int v, .int (mo.1 32 8), .long (mo.2 32 9), .int (mo.1 32 10), .int (mo.1 32 11), .ref (zl E 39), .int (mo.1 32 13), .ref (zl E 40), .int (mo.1 32 15), .ref (zl E 41), .int (mo.1 32 17)])) = zG E c (tI mo 32 7 v) := by
  funext b
  by_cases hb : b = 32
  · subst hb
    simp [va_up, zG, kd, sI, sJ, sD, tI, tJ]
  · rw [va_up_ne _ _ hb]
    exact zG_cong (fun k => by simp [sI, sJ, sD, hb]) (fun k => by simp [sI, sJ, sD, hb]) (fun h => by simp_all [sI, sJ, sD]) (fun k => by simp [tI, tJ, hb]) (fun k => by simp [tI, tJ, hb])
theorem zU32_8 (E : zE) (c : zC) (mo : zM)  (v : Int32) : va_up (zG E c mo) 32 (.inr (3, [.ref (zl E 33), .ref (zl E 34), .ref (zl E 35), .int (mo.1 32 3), .ref (zl E 36), .ref (zl E 37), .ref (zl E 38), .int (mo.1 32 7), .int v, .long (mo.2 32 9), .int (mo.1 32 10), .int (mo.1 32 11), .ref (zl E 39), .int (mo.1 32 13), .ref (zl E 40), .int (mo.1 32 15), .ref (zl E 41), .int (mo.1 32 17)])) = zG E c (tI mo 32 8 v) := by
  funext b
  by_cases hb : b = 32
  · subst hb
    simp [va_up, zG, kd, sI, sJ, sD, tI, tJ]
  · rw [va_up_ne _ _ hb]
    exact zG_cong (fun k => by simp [sI, sJ, sD, hb]) (fun k => by simp [sI, sJ, sD, hb]) (fun h => by simp_all [sI, sJ, sD]) (fun k => by simp [tI, tJ, hb]) (fun k => by simp [tI, tJ, hb])
theorem zU32_10 (E : zE) (c : zC) (mo : zM)  (v : Int32) : va_up (zG E c mo) 32 (.inr (3, [.ref (zl E 33), .ref (zl E 34), .ref (zl E 35), .int (mo.1 32 3), .ref (zl E 36), .ref (zl E 37), .ref (zl E 38), .int (mo.1 32 7), .int (mo.1 32 8), .long (mo.2 32 9), .int v, .int (mo.1 32 11), .ref (zl E 39), .int (mo.1 32 13), .ref (zl E 40), .int (mo.1 32 15), .ref (zl E 41), .int (mo.1 32 17)])) = zG E c (tI mo 32 10 v) := by
  funext b
  by_cases hb : b = 32
  · subst hb
    simp [va_up, zG, kd, sI, sJ, sD, tI, tJ]
  · rw [va_up_ne _ _ hb]
    exact zG_cong (fun k => by simp [sI, sJ, sD, hb]) (fun k => by simp [sI, sJ, sD, hb]) (fun h => by simp_all [sI, sJ, sD]) (fun k => by simp [tI, tJ, hb]) (fun k => by simp [tI, tJ, hb])
theorem zU32_11 (E : zE) (c : zC) (mo : zM)  (v : Int32) : va_up (zG E c mo) 32 (.inr (3, [.ref (zl E 33), .ref (zl E 34), .ref (zl E 35), .int (mo.1 32 3), .ref (zl E 36), .ref (zl E 37), .ref (zl E 38), .int (mo.1 32 7), .int (mo.1 32 8), .long (mo.2 32 9), .int (mo.1 32 10), .int v, .ref (zl E 39), .int (mo.1 32 13), .ref (zl E 40), .int (mo.1 32 15), .ref (zl E 41), .int (mo.1 32 17)])) = zG E c (tI mo 32 11 v) := by
  funext b
  by_cases hb : b = 32
  · subst hb
    simp [va_up, zG, kd, sI, sJ, sD, tI, tJ]
  · rw [va_up_ne _ _ hb]
    exact zG_cong (fun k => by simp [sI, sJ, sD, hb]) (fun k => by simp [sI, sJ, sD, hb]) (fun h => by simp_all [sI, sJ, sD]) (fun k => by simp [tI, tJ, hb]) (fun k => by simp [tI, tJ, hb])
theorem zU32_13 (E : zE) (c : zC) (mo : zM)  (v : Int32) : va_up (zG E c mo) 32 (.inr (3, [.ref (zl E 33), .ref (zl E 34), .ref (zl E 35), .int (mo.1 32 3), .ref (zl E 36), .ref (zl E 37), .ref (zl E 38), .int (mo.1 32 7), .int (mo.1 32 8), .long (mo.2 32 9), .int (mo.1 32 10), .int (mo.1 32 11), .ref (zl E 39), .int v, .ref (zl E 40), .int (mo.1 32 15), .ref (zl E 41), .int (mo.1 32 17)])) = zG E c (tI mo 32 13 v) := by
  funext b
  by_cases hb : b = 32
  · subst hb
    simp [va_up, zG, kd, sI, sJ, sD, tI, tJ]
  · rw [va_up_ne _ _ hb]
    exact zG_cong (fun k => by simp [sI, sJ, sD, hb]) (fun k => by simp [sI, sJ, sD, hb]) (fun h => by simp_all [sI, sJ, sD]) (fun k => by simp [tI, tJ, hb]) (fun k => by simp [tI, tJ, hb])
theorem zU32_15 (E : zE) (c : zC) (mo : zM)  (v : Int32) : va_up (zG E c mo) 32 (.inr (3, [.ref (zl E 33), .ref (zl E 34), .ref (zl E 35), .int (mo.1 32 3), .ref (zl E 36), .ref (zl E 37), .ref (zl E 38), .int (mo.1 32 7), .int (mo.1 32 8), .long (mo.2 32 9), .int (mo.1 32 10), .int (mo.1 32 11), .ref (zl E 39), .int (mo.1 32 13), .ref (zl E 40), .int v, .ref (zl E 41), .int (mo.1 32 17)])) = zG E c (tI mo 32 15 v) := by
  funext b
  by_cases hb : b = 32
  · subst hb
    simp [va_up, zG, kd, sI, sJ, sD, tI, tJ]
  · rw [va_up_ne _ _ hb]
    exact zG_cong (fun k => by simp [sI, sJ, sD, hb]) (fun k => by simp [sI, sJ, sD, hb]) (fun h => by simp_all [sI, sJ, sD]) (fun k => by simp [tI, tJ, hb]) (fun k => by simp [tI, tJ, hb])
theorem zU32_17 (E : zE) (c : zC) (mo : zM)  (v : Int32) : va_up (zG E c mo) 32 (.inr (3, [.ref (zl E 33), .ref (zl E 34), .ref (zl E 35), .int (mo.1 32 3), .ref (zl E 36), .ref (zl E 37), .ref (zl E 38), .int (mo.1 32 7), .int (mo.1 32 8), .long (mo.2 32 9), .int (mo.1 32 10), .int (mo.1 32 11), .ref (zl E 39), .int (mo.1 32 13), .ref (zl E 40), .int (mo.1 32 15), .ref (zl E 41), .int v])) = zG E c (tI mo 32 17 v) := by
  funext b
  by_cases hb : b = 32
  · subst hb
    simp [va_up, zG, kd, sI, sJ, sD, tI, tJ]
  · rw [va_up_ne _ _ hb]
    exact zG_cong (fun k => by simp [sI, sJ, sD, hb]) (fun k => by simp [sI, sJ, sD, hb]) (fun h => by simp_all [sI, sJ, sD]) (fun k => by simp [tI, tJ, hb]) (fun k => by simp [tI, tJ, hb])
theorem zU32_9 (E : zE) (c : zC) (mo : zM)  (v : Int64) : va_up (zG E c mo) 32 (.inr (3, [.ref (zl E 33), .ref (zl E 34), .ref (zl E 35), .int (mo.1 32 3), .ref (zl E 36), .ref (zl E 37), .ref (zl E 38), .int (mo.1 32 7), .int (mo.1 32 8), .long v, .int (mo.1 32 10), .int (mo.1 32 11), .ref (zl E 39), .int (mo.1 32 13), .ref (zl E 40), .int (mo.1 32 15), .ref (zl E 41), .int (mo.1 32 17)])) = zG E c (tJ mo 32 9 v) := by
  funext b
  by_cases hb : b = 32
  · subst hb
    simp [va_up, zG, kd, sI, sJ, sD, tI, tJ]
  · rw [va_up_ne _ _ hb]
    exact zG_cong (fun k => by simp [sI, sJ, sD, hb]) (fun k => by simp [sI, sJ, sD, hb]) (fun h => by simp_all [sI, sJ, sD]) (fun k => by simp [tI, tJ, hb]) (fun k => by simp [tI, tJ, hb])
theorem zU6_0 (E : zE) (c : zC) (mo : zM) {i : Nat} (h : kd i = 6) (v : Int32) : va_up (zG E c mo) i (.inr (0, [.int v, .int (c.1 i 1), .int (c.1 i 2), .ref (zl E (i + 9))])) = zG E (sI c i 0 v) mo := by
  funext b
  by_cases hb : b = i
  · subst hb
    simp [va_up, zG, sI, h]
  · rw [va_up_ne _ _ hb]
    exact zG_cong (fun k => by simp [sI, hb]) (fun k => rfl) (fun h => rfl) (fun k => rfl) (fun k => rfl)
theorem zU6_1 (E : zE) (c : zC) (mo : zM) {i : Nat} (h : kd i = 6) (v : Int32) : va_up (zG E c mo) i (.inr (0, [.int (c.1 i 0), .int v, .int (c.1 i 2), .ref (zl E (i + 9))])) = zG E (sI c i 1 v) mo := by
  funext b
  by_cases hb : b = i
  · subst hb
    simp [va_up, zG, sI, h]
  · rw [va_up_ne _ _ hb]
    exact zG_cong (fun k => by simp [sI, hb]) (fun k => rfl) (fun h => rfl) (fun k => rfl) (fun k => rfl)
theorem zU6_2 (E : zE) (c : zC) (mo : zM) {i : Nat} (h : kd i = 6) (v : Int32) : va_up (zG E c mo) i (.inr (0, [.int (c.1 i 0), .int (c.1 i 1), .int v, .ref (zl E (i + 9))])) = zG E (sI c i 2 v) mo := by
  funext b
  by_cases hb : b = i
  · subst hb
    simp [va_up, zG, sI, h]
  · rw [va_up_ne _ _ hb]
    exact zG_cong (fun k => by simp [sI, hb]) (fun k => rfl) (fun h => rfl) (fun k => rfl) (fun k => rfl)
theorem zU7_0 (E : zE) (c : zC) (mo : zM) {i : Nat} (h : kd i = 7) (v : Int32) : va_up (zG E c mo) i (.inr (1, [.int v, .int (c.1 i 1), .int (c.1 i 2), .int (c.1 i 3), .int (c.1 i 4)])) = zG E (sI c i 0 v) mo := by
  funext b
  by_cases hb : b = i
  · subst hb
    simp [va_up, zG, sI, h]
  · rw [va_up_ne _ _ hb]
    exact zG_cong (fun k => by simp [sI, hb]) (fun k => rfl) (fun h => rfl) (fun k => rfl) (fun k => rfl)
theorem zU7_1 (E : zE) (c : zC) (mo : zM) {i : Nat} (h : kd i = 7) (v : Int32) : va_up (zG E c mo) i (.inr (1, [.int (c.1 i 0), .int v, .int (c.1 i 2), .int (c.1 i 3), .int (c.1 i 4)])) = zG E (sI c i 1 v) mo := by
  funext b
  by_cases hb : b = i
  · subst hb
    simp [va_up, zG, sI, h]
  · rw [va_up_ne _ _ hb]
    exact zG_cong (fun k => by simp [sI, hb]) (fun k => rfl) (fun h => rfl) (fun k => rfl) (fun k => rfl)
theorem zU7_2 (E : zE) (c : zC) (mo : zM) {i : Nat} (h : kd i = 7) (v : Int32) : va_up (zG E c mo) i (.inr (1, [.int (c.1 i 0), .int (c.1 i 1), .int v, .int (c.1 i 3), .int (c.1 i 4)])) = zG E (sI c i 2 v) mo := by
  funext b
  by_cases hb : b = i
  · subst hb
    simp [va_up, zG, sI, h]
  · rw [va_up_ne _ _ hb]
    exact zG_cong (fun k => by simp [sI, hb]) (fun k => rfl) (fun h => rfl) (fun k => rfl) (fun k => rfl)
theorem zU7_3 (E : zE) (c : zC) (mo : zM) {i : Nat} (h : kd i = 7) (v : Int32) : va_up (zG E c mo) i (.inr (1, [.int (c.1 i 0), .int (c.1 i 1), .int (c.1 i 2), .int v, .int (c.1 i 4)])) = zG E (sI c i 3 v) mo := by
  funext b
  by_cases hb : b = i
  · subst hb
    simp [va_up, zG, sI, h]
  · rw [va_up_ne _ _ hb]
    exact zG_cong (fun k => by simp [sI, hb]) (fun k => rfl) (fun h => rfl) (fun k => rfl) (fun k => rfl)
theorem zU7_4 (E : zE) (c : zC) (mo : zM) {i : Nat} (h : kd i = 7) (v : Int32) : va_up (zG E c mo) i (.inr (1, [.int (c.1 i 0), .int (c.1 i 1), .int (c.1 i 2), .int (c.1 i 3), .int v])) = zG E (sI c i 4 v) mo := by
  funext b
  by_cases hb : b = i
  · subst hb
    simp [va_up, zG, sI, h]
  · rw [va_up_ne _ _ hb]
    exact zG_cong (fun k => by simp [sI, hb]) (fun k => rfl) (fun h => rfl) (fun k => rfl) (fun k => rfl)
theorem zUa4 (E : zE) (c : zC) (mo : zM) {i : Nat} (h : kd i = 4) (k : Nat) (v : Int32) : va_up (zG E c mo) i (.inl (zcy E 0, ln i, .inl (upd (c.1 i) k v))) = zG E (sI c i k v) mo := by
  funext b
  by_cases hb : b = i
  · subst hb
    have : upd (c.1 b) k v = (sI c b k v).1 b := by funext j; simp [upd, sI]
    simp [va_up, zG, h, this]
  · rw [va_up_ne _ _ hb]
    exact zG_cong (fun k => by simp [sI, hb]) (fun k => rfl) (fun h => rfl) (fun k => rfl) (fun k => rfl)
theorem zUa5 (E : zE) (c : zC) (mo : zM) {i : Nat} (h : kd i = 5) (k : Nat) (v : Int64) : va_up (zG E c mo) i (.inl (zcy E 1, 12, .inr (.inl (vp_updL (c.2.1 i) k v)))) = zG E (sJ c i k v) mo := by
  funext b
  by_cases hb : b = i
  · subst hb
    have : vp_updL (c.2.1 b) k v = (sJ c b k v).2.1 b := by funext j; simp [vp_updL, sJ]
    simp [va_up, zG, h, this]
  · rw [va_up_ne _ _ hb]
    exact zG_cong (fun k => rfl) (fun k => by simp [sJ, hb]) (fun h => rfl) (fun k => rfl) (fun k => rfl)
theorem zUa9 (E : zE) (c : zC) (mo : zM) {i : Nat} (h : kd i = 9) (k : Nat) (v : Int32) : va_up (zG E c mo) i (.inl (zcy E 0, ln i, .inl (upd (mo.1 i) k v))) = zG E c (tI mo i k v) := by
  funext b
  by_cases hb : b = i
  · subst hb
    have : upd (mo.1 b) k v = (tI mo b k v).1 b := by funext j; simp [upd, tI]
    simp [va_up, zG, h, this]
  · rw [va_up_ne _ _ hb]
    exact zG_cong (fun k => rfl) (fun k => rfl) (fun h => rfl) (fun k => by simp [tI, hb]) (fun k => rfl)
theorem zUa38 (E : zE) (c : zC) (mo : zM) (k : Nat) (v : Int64) : va_up (zG E c mo) 38 (.inl (zcy E 1, 60000, .inr (.inl (vp_updL (mo.2 38) k v)))) = zG E c (tJ mo 38 k v) := by
  funext b
  by_cases hb : b = 38
  · subst hb
    have : vp_updL (mo.2 38) k v = (tJ mo 38 k v).2 38 := by funext j; simp [vp_updL, tJ]
    simp [va_up, zG, kd, this]
  · rw [va_up_ne _ _ hb]
    exact zG_cong (fun k => rfl) (fun k => rfl) (fun h => rfl) (fun k => rfl) (fun k => by simp [tJ, hb])
theorem zUa1 (E : zE) (c : zC) (mo : zM) (k j : Nat) : va_up (zG E c mo) 1 (.inl (zcy E 2, 8, .inr (.inr (.inr (.inr (va_up (fun k => some (zl E (c.2.2 k))) k (some (zl E j)))))))) = zG E (sD c k j) mo := by
  funext b
  by_cases hb : b = 1
  · subst hb
    have : va_up (fun k => some (zl E (c.2.2 k))) k (some (zl E j)) = fun q => some (zl E ((sD c k j).2.2 q)) := by
      funext q
      by_cases hq : q = k <;> simp [va_up, sD, hq]
    simp only [va_up_self]
    rw [this]
    simp [zG, kd]
  · rw [va_up_ne _ _ hb]
    exact zG_cong (fun k => rfl) (fun k => rfl) (fun h => absurd h hb) (fun k => rfl) (fun k => rfl)
section ZK
variable {p : Program} {l : Launch} {e : Env} {R : Room} {s : State} {m : MethodId} {args : Array Value} {below : List Frame} {meth : Method} {cd : Code} {H0 H : Heap} {locs : List Loc} {cells slots : Nat} {Q : State → Prop} {E : zE} {c : zC} {mo : zM} {cc : ByteArray} {pc : Nat} {ls : Array Slot} {rest : List Value}
theorem y_iald (hx : p.tables.exec = Jvm.exec) (hb : cd.code = cc) (hw : zW E c mo s H0 H locs) {i n : Nat} {f : Nat → Int32} (hi : i < 42) (hG : zG E c mo i = .inl (zcy E 0, n, .inl f)) {x : Int32} (hin : vp_in x n) {k : Nat} (hk : x.toNatClampNeg = k) (hdg : decode cc pc = .ok (.iaload, 1)) (kk : W p l e R s m args below meth cd H locs cells slots Q (F0 m (pc + 1) ls (.int (f k) :: rest))) : W p l e R s m args below meth cd H locs cells slots Q (F0 m pc ls (.int x :: .ref (zl E i) :: rest)) := by
  subst hk
  exact z_iald hx hb hw hi hG hin hdg kk
theorem y_lald (hx : p.tables.exec = Jvm.exec) (hb : cd.code = cc) (hw : zW E c mo s H0 H locs) {i n : Nat} {f : Nat → Int64} (hi : i < 42) (hG : zG E c mo i = .inl (zcy E 1, n, .inr (.inl f))) {x : Int32} (hin : vp_in x n) {k : Nat} (hk : x.toNatClampNeg = k) (hdg : decode cc pc = .ok (.laload, 1)) (kk : W p l e R s m args below meth cd H locs cells slots Q (F0 m (pc + 1) ls (.long (f k) :: rest))) : W p l e R s m args below meth cd H locs cells slots Q (F0 m pc ls (.int x :: .ref (zl E i) :: rest)) := by
  subst hk
  exact z_lald hx hb hw hi hG hin hdg kk
theorem y_aald1 (hx : p.tables.exec = Jvm.exec) (hb : cd.code = cc) (hw : zW E c mo s H0 H locs) {x : Int32} (hin : vp_in x 8) {k : Nat} (hk : x.toNatClampNeg = k) (hdg : decode cc pc = .ok (.aaload, 1)) (kk : W p l e R s m args below meth cd H locs cells slots Q (F0 m (pc + 1) ls (.ref (zl E (c.2.2 k)) :: rest))) : W p l e R s m args below meth cd H locs cells slots Q (F0 m pc ls (.int x :: .ref (zl E 1) :: rest)) := by
  subst hk
  exact z_aald (f := c.2.2) (t0 := 2) (n := 8) hx hb hw (by decide) rfl rfl hin hdg kk
theorem y_aald2 (hx : p.tables.exec = Jvm.exec) (hb : cd.code = cc) (hw : zW E c mo s H0 H locs) {x : Int32} (hin : vp_in x 8) {k : Nat} (hk : x.toNatClampNeg = k) (hdg : decode cc pc = .ok (.aaload, 1)) (kk : W p l e R s m args below meth cd H locs cells slots Q (F0 m (pc + 1) ls (.ref (zl E (7 + k)) :: rest))) : W p l e R s m args below meth cd H locs cells slots Q (F0 m pc ls (.int x :: .ref (zl E 2) :: rest)) := by
  subst hk
  exact z_aald (f := fun k => 7 + k) (t0 := 2) (n := 8) hx hb hw (by decide) rfl rfl hin hdg kk
theorem y_aald3 (hx : p.tables.exec = Jvm.exec) (hb : cd.code = cc) (hw : zW E c mo s H0 H locs) {x : Int32} (hin : vp_in x 8) {k : Nat} (hk : x.toNatClampNeg = k) (hdg : decode cc pc = .ok (.aaload, 1)) (kk : W p l e R s m args below meth cd H locs cells slots Q (F0 m (pc + 1) ls (.ref (zl E (24 + k)) :: rest))) : W p l e R s m args below meth cd H locs cells slots Q (F0 m pc ls (.int x :: .ref (zl E 3) :: rest)) := by
  subst hk
  exact z_aald (f := fun k => 24 + k) (t0 := 3) (n := 8) hx hb hw (by decide) rfl rfl hin hdg kk
theorem y_iast4 (hx : p.tables.exec = Jvm.exec) (hb : cd.code = cc) (hw : zW E c mo s H0 H locs) {i : Nat} (hi : i < 42) (h : kd i = 4) {x v : Int32} (hin : vp_in x (ln i)) {k : Nat} (hk : x.toNatClampNeg = k) (hdg : decode cc pc = .ok (.iastore, 1)) (kk : ∀ (H1 : Heap) (locs1 : List Loc), zW E (sI c i k v) mo s H0 H1 locs1 → W p l e R s m args below meth cd H1 locs1 cells slots Q (F0 m (pc + 1) ls rest)) : W p l e R s m args below meth cd H locs cells slots Q (F0 m pc ls (.int v :: .int x :: .ref (zl E i) :: rest)) := by
  subst hk
  exact z_iast hx hb hw hi (zG_4 h) hin (zUa4 E c mo h _ v) hdg kk
theorem y_iast9 (hx : p.tables.exec = Jvm.exec) (hb : cd.code = cc) (hw : zW E c mo s H0 H locs) {i : Nat} (hi : i < 42) (h : kd i = 9) {x v : Int32} (hin : vp_in x (ln i)) {k : Nat} (hk : x.toNatClampNeg = k) (hdg : decode cc pc = .ok (.iastore, 1)) (kk : ∀ (H1 : Heap) (locs1 : List Loc), zW E c (tI mo i k v) s H0 H1 locs1 → W p l e R s m args below meth cd H1 locs1 cells slots Q (F0 m (pc + 1) ls rest)) : W p l e R s m args below meth cd H locs cells slots Q (F0 m pc ls (.int v :: .int x :: .ref (zl E i) :: rest)) := by
  subst hk
  exact z_iast hx hb hw hi (zG_9 h) hin (zUa9 E c mo h _ v) hdg kk
theorem y_last5 (hx : p.tables.exec = Jvm.exec) (hb : cd.code = cc) (hw : zW E c mo s H0 H locs) {i : Nat} (hi : i < 42) (h : kd i = 5) {x : Int32} {v : Int64} (hin : vp_in x 12) {k : Nat} (hk : x.toNatClampNeg = k) (hdg : decode cc pc = .ok (.lastore, 1)) (kk : ∀ (H1 : Heap) (locs1 : List Loc), zW E (sJ c i k v) mo s H0 H1 locs1 → W p l e R s m args below meth cd H1 locs1 cells slots Q (F0 m (pc + 1) ls rest)) : W p l e R s m args below meth cd H locs cells slots Q (F0 m pc ls (.long v :: .int x :: .ref (zl E i) :: rest)) := by
  subst hk
  exact z_last hx hb hw hi (zG_5 h) hin (zUa5 E c mo h _ v) hdg kk
theorem y_last38 (hx : p.tables.exec = Jvm.exec) (hb : cd.code = cc) (hw : zW E c mo s H0 H locs) {x : Int32} {v : Int64} (hin : vp_in x 60000) {k : Nat} (hk : x.toNatClampNeg = k) (hdg : decode cc pc = .ok (.lastore, 1)) (kk : ∀ (H1 : Heap) (locs1 : List Loc), zW E c (tJ mo 38 k v) s H0 H1 locs1 → W p l e R s m args below meth cd H1 locs1 cells slots Q (F0 m (pc + 1) ls rest)) : W p l e R s m args below meth cd H locs cells slots Q (F0 m pc ls (.long v :: .int x :: .ref (zl E 38) :: rest)) := by
  subst hk
  exact z_last hx hb hw (by decide) rfl hin (zUa38 E c mo _ v) hdg kk
theorem y_aast1 (hx : p.tables.exec = Jvm.exec) (hb : cd.code = cc) (hw : zW E c mo s H0 H locs) {j : Nat} (hj : kd j = 6) {x : Int32} (hin : vp_in x 8) {k : Nat} (hk : x.toNatClampNeg = k) (hdg : decode cc pc = .ok (.aastore, 1)) (kk : ∀ (H1 : Heap) (locs1 : List Loc), zW E (sD c k j) mo s H0 H1 locs1 → W p l e R s m args below meth cd H1 locs1 cells slots Q (F0 m (pc + 1) ls rest)) : W p l e R s m args below meth cd H locs cells slots Q (F0 m pc ls (.ref (zl E j) :: .int x :: .ref (zl E 1) :: rest)) := by
  subst hk
  exact z_aast (t0 := 2) (n := 8) (q := (RX0, TX0, 4)) hx hb hw (by decide) (kd6l hj) rfl (zG_6 hj) rfl rfl hin (zUa1 E c mo _ j) hdg kk
end ZK
end
section
theorem zG_0 {E : zE} {c : zC} {mo : zM} : zG E c mo 0 = .inr (2, [.ref (zl E 6), .ref (zl E 1), .ref (zl E 2), .int (c.1 0 3), .long (c.2.1 0 4), .int (c.1 0 5), .ref (zl E 3), .int (c.1 0 7), .ref (zl E 4), .int (c.1 0 9), .int (c.1 0 10), .ref (zl E 5)]) := by simp [zG, kd]
theorem zG_32 {E : zE} {c : zC} {mo : zM} : zG E c mo 32 = .inr (3, [.ref (zl E 33), .ref (zl E 34), .ref (zl E 35), .int (mo.1 32 3), .ref (zl E 36), .ref (zl E 37), .ref (zl E 38), .int (mo.1 32 7), .int (mo.1 32 8), .long (mo.2 32 9), .int (mo.1 32 10), .int (mo.1 32 11), .ref (zl E 39), .int (mo.1 32 13), .ref (zl E 40), .int (mo.1 32 15), .ref (zl E 41), .int (mo.1 32 17)]) := by simp [zG, kd]
theorem zG_38 {E : zE} {c : zC} {mo : zM} : zG E c mo 38 = .inl (zcy E 1, 60000, .inr (.inl (mo.2 38))) := by simp [zG, kd]
theorem tb_out {x : Int32} (ks : List Int32) (lo hi : Int) (hk : ∀ n : Nat, n ≤ (hi - lo).toNat → ∃ k ∈ ks, k.toInt = lo + n) (h : ∀ k ∈ ks, ¬ x = k) : x.toInt < lo ∨ hi < x.toInt := by
  by_cases h1 : x.toInt < lo
  · exact Or.inl h1
  · by_cases h2 : hi < x.toInt
    · exact Or.inr h2
    · obtain ⟨k, hk1, hk2⟩ := hk (x.toInt - lo).toNat (by omega)
      exact absurd (Int32.toInt_inj.mp (by omega : x.toInt = k.toInt)) (h k hk1)
theorem tb_in {x : Int32} {lo hi : Int} {offs : Array Int} {off : Int} (ks : List Int32) (h : ¬ (x.toInt < lo ∨ hi < x.toInt)) (hk : ∀ k ∈ ks, ¬ x = k) (ht : ∀ n : Nat, n ≤ (hi - lo).toNat → (∃ k ∈ ks, k.toInt = lo + n) ∨ offs[n]? = some off) : offs[(x.toInt - lo).toNat]? = some off := by
  rcases ht (x.toInt - lo).toNat (by omega) with ⟨k, hk1, hk2⟩ | h1
  · exact absurd (Int32.toInt_inj.mp (by omega : x.toInt = k.toInt)) (hk k hk1)
  · exact h1
theorem rv_ix {x : Int32} {n k : Nat} (h : x = nI n) (hk : k < n) : x - 1 - nI k = nI (n - 1 - k) := by
  rw [h, show (1 : Int32) = nI 1 from rfl, pk_sub (by omega), pk_sub (by omega)]
theorem rv_in {x : Int32} {n k : Nat} (h : x = nI n) (hk : k < n) (hn : n ≤ 12) : vp_in (x - 1 - nI k) 12 := by
  rw [rv_ix h hk]; exact vp_in_nI (by omega) (by omega)
theorem rv_k {x : Int32} {n k : Nat} (h : x = nI n) (hk : k < n) (hn : n ≤ 12) : (x - 1 - nI k).toNatClampNeg = n - 1 - k := by
  rw [rv_ix h hk]; exact nI_clamp (by omega)
/-! the class: what its methods answer -/
def isDr (d : Int32) : Int32 := if d < 0 then 0 else if 8 ≤ d then 0 else 1
def isTi (i : Int32) : Int32 := if i < 0 then 0 else if 20 < i then 0 else 1
def fRow (c : zC) (j : Nat) : Int32 := if c.1 j 0 = 0 then 1 else if c.1 j 0 = 1 then 2 else 0
def fCome (c : zC) (j : Nat) (i : Int32) : Int32 := if fRow c j = 0 then (if i < 0 then 3 else if i < c.1 j 2 then 0 else 3) else fRow c j
def hold (c : zC) (k : Int32) (v : Int64) : zC := sJ (sI c 0 3 k) 0 4 v
theorem isDr_in {d : Int32} (h : ¬ isDr d = 0) : vp_in d 8 := by
  unfold isDr at h
  split at h
  · exact absurd rfl h
  · split at h
    · exact absurd rfl h
    · rw [vp_in_iff]
      rename_i h1 h2
      have e1 : ¬ d.toInt < 0 := fun q => h1 (Int32.lt_iff_toInt_lt.mpr q)
      have e2 : ¬ 8 ≤ d.toInt := fun q => h2 (Int32.le_iff_toInt_le.mpr q)
      omega
end
section
def fFits (k r : Int32) : Int32 := if k = -9 then (if r = 6 then 1 else 0) else if k = 0 then (if r = 0 then 1 else if r = 1 then 1 else if r = 3 then 1 else if r = 4 then 1 else 0) else if k = 1 then (if r = k then 1 else if r = 3 then 1 else if r = 4 then 1 else 0) else if k = 2 then (if r = k then 1 else if r = 3 then 1 else if r = 4 then 1 else 0) else if k = 3 then (if r = 3 then 1 else if r = 4 then 1 else 0) else (if r = k then 1 else 0)
def fLay (c : zC) (j : Nat) (i k : Int32) : Int32 := if fCome c j i = 0 then (if fFits k (c.1 j 0 - 2) = 0 then 4 else 0) else fCome c j i
def fKind (c : zC) (j : Nat) (i : Int32) : Int32 := if c.1 j 0 - 2 = 6 then (if lg_cmp (c.2.1 (j + 9) i.toNatClampNeg) 0 = 0 then -9 else c.1 j 0 - 2) else c.1 j 0 - 2
def fVok (k : Int32) (v : Int64) : Int64 := if k = 0 then v.toInt32.toInt8.toInt32.toInt64 else if k = 1 then v.toInt32.toInt16.toInt32.toInt64 else if k = 2 then (v.toInt32.toUInt32 % 65536).toInt32.toInt64 else if k = 3 then v.toInt32.toInt64 else if k = 5 then (if lg_cmp v 0 = 0 then (0 : Int32).toInt64 else (1 : Int32).toInt64) else v
def meet (c : zC) (f : Int32) : zC := sI (sI (sI c 0 10 f) 5 0 ((sI c 0 10 f).1 5 0 + 1)) 5 f.toNatClampNeg ((sI (sI c 0 10 f) 5 0 ((sI c 0 10 f).1 5 0 + 1)).1 5 f.toNatClampNeg + 1)
def bNote (c : zC) (j : Nat) (v : Int32) : zC := sI (sI c j 0 1) j 1 v
def zer (j : Nat) : Nat → Nat → zC → zC
  | 0, _, c => c
  | n + 1, k, c => zer j n (k + 1) (sJ c (j + 9) k 0)
def bRow (c : zC) (j : Nat) (k n : Int32) : zC := zer j 12 0 (sI (sI (sI c j 0 (2 + k)) j 1 0) j 2 n)
def pl (c : zC) (j : Nat) : Nat := (c.1 j 2).toNatClampNeg
def plOk (c : zC) (j : Nat) : Prop := pl c j ≤ 12 ∧ c.1 j 2 = nI (pl c j)
def revN (j n : Nat) : Nat → Nat → zC → zC
  | 0, _, c => c
  | m + 1, k, c => revN j n m (k + 1) (sJ (sJ c (j + 9) k (c.2.1 (j + 9) (n - 1 - k))) (j + 9) (n - 1 - k) (c.2.1 (j + 9) k))
def fRev (c : zC) (j : Nat) : zC := revN j (pl c j) (pl c j / 2) 0 c
def sumN (f : Nat → Int64) : Nat → Nat → Int64 → Int64
  | 0, _, a => a
  | n + 1, k, a => sumN f n (k + 1) (a + f k)
def fTot (c : zC) (j : Nat) : Int64 := sumN (c.2.1 (j + 9)) (pl c j) 0 0
def fplN (c : zC) (j : Nat) (kind : Int32) (v : Int64) : Nat → Nat → Int32
  | 0, _ => -9
  | n + 1, k => if fKind c j (nI k) = kind then (if lg_cmp (c.2.1 (j + 9) k) v = 0 then nI k else fplN c j kind v n (k + 1)) else fplN c j kind v n (k + 1)
def fFpl (c : zC) (j : Nat) (kind : Int32) (v : Int64) : Int32 := fplN c j kind v (pl c j) 0
def holN (D : Nat → Nat) (j : Nat) : Nat → Nat → Int32 → Int32
  | 0, _, a => a
  | n + 1, k, a => holN D j n (k + 1) (if D k = j then a + 1 else a)
def fHol (c : zC) (j : Nat) : Int32 := holN c.2.2 j 8 0 0
def freN (c : zC) : Nat → Nat → Nat → Nat
  | 0, _, f => f
  | n + 1, k, f => freN c n (k + 1) (if fHol c (7 + k) = 0 then 7 + k else f)
def nFree (c : zC) (d : Nat) : Nat := freN (sD c d 6) 7 1 7
def newC (c : zC) (d : Nat) : zC := sD (sD c d 6) d (nFree c d)
theorem freN_in (c : zC) : ∀ (n k f : Nat), kd f = 6 → k + n ≤ 8 → kd (freN c n k f) = 6
  | 0, _, f, h, _ => h
  | n + 1, k, f, h, hk => by
    unfold freN
    refine freN_in c n (k + 1) _ ?_ (by omega)
    split
    · exact kd6o (by omega) (by omega)
    · exact h
theorem nFree_in (c : zC) (d : Nat) : kd (nFree c d) = 6 := freN_in _ 7 1 7 (by decide) (by omega)
theorem nle_lt {a b : Nat} (h : ¬ nI b ≤ nI a) (ha : a < 2 ^ 31) (hb : b < 2 ^ 31) : a < b := by
  rw [nI_leI hb ha] at h; omega
theorem le_le {a b : Nat} (h : nI b ≤ nI a) (ha : a < 2 ^ 31) (hb : b < 2 ^ 31) : b ≤ a := (nI_leI hb ha).mp h
def fIsR (c : zC) (j : Nat) : Int32 := if c.1 j 0 < 2 then 0 else 1
set_option maxHeartbeats 4000000 in
set_option maxRecDepth 100000 in
theorem k_X2_isDrawer (l : Launch) (E : zE) (c : zC) (mo : zM) (d : Int32)  : Met l yX2_isDrawer wsX2_isDrawer (zR 0 0) (zP E c mo [.int d]) (cQi E (isDr d) c mo) 0 0 (zA E) := by
  refine z_ent (cc := cX2_isDrawer) (maxL := 1) (ret := (some .boolean)) (vs := [.int d]) (by decide) rfl (Nat.le_of_ble_eq_true rfl) ?_
  intro p e s m below meth cd ls hx hb hr hml hown hts hlocks hl hw
  have hl : lv_has ls 1 [(0, .int d)] := hl
  have hown : s.vm.findClass RX2 = some m.cls := hown
  refine lv_iload_n hx hb dX2_isDrawer_0 rfl (lv_at hl 0 rfl) ?_
  refine lv_if_lt (tgt := 14) hx hb dX2_isDrawer_1 (by decide) (fun q_1 => ?_) (fun q_1 => ?_)
  · have _ := hx
    refine lv_iconst (v := 0) hx hb dX2_isDrawer_14 (by decide) ?_
    exact z_zret hx hb hr hlocks hw dX2_isDrawer_15 rfl (by first | (simp [isDr, q_1]; done) | (simp_all [isDr]; done)) rfl rfl
  · have _ := hx
    refine lv_iload_n hx hb dX2_isDrawer_4 rfl (lv_at hl 0 rfl) ?_
    refine lv_bipush (v := 8) hx hb dX2_isDrawer_5 (by decide) ?_
    refine lv_icmp_ge (tgt := 14) hx hb dX2_isDrawer_7 (by decide) (fun q_2 => ?_) (fun q_2 => ?_)
    · have _ := hx
      refine lv_iconst (v := 0) hx hb dX2_isDrawer_14 (by decide) ?_
      exact z_zret hx hb hr hlocks hw dX2_isDrawer_15 rfl (by first | (simp [isDr, q_1, q_2]; done) | (simp_all [isDr]; done)) rfl rfl
    · have _ := hx
      refine lv_iconst (v := 1) hx hb dX2_isDrawer_10 (by decide) ?_
      refine lv_goto (tgt := 15) hx hb dX2_isDrawer_11 (by decide) ?_
      exact z_zret hx hb hr hlocks hw dX2_isDrawer_15 rfl (by first | (simp [isDr, q_1, q_2]; done) | (simp_all [isDr]; done)) rfl rfl
set_option maxHeartbeats 4000000 in
set_option maxRecDepth 100000 in
theorem k_X2_isTellableIndex (l : Launch) (E : zE) (c : zC) (mo : zM) (i : Int32)  : Met l yX2_isTellableIndex wsX2_isTellableIndex (zR 0 0) (zP E c mo [.int i]) (cQi E (isTi i) c mo) 0 0 (zA E) := by
  refine z_ent (cc := cX2_isTellableIndex) (maxL := 1) (ret := (some .boolean)) (vs := [.int i]) (by decide) rfl (Nat.le_of_ble_eq_true rfl) ?_
  intro p e s m below meth cd ls hx hb hr hml hown hts hlocks hl hw
  have hl : lv_has ls 1 [(0, .int i)] := hl
  have hown : s.vm.findClass RX2 = some m.cls := hown
  refine lv_iload_n hx hb dX2_isTellableIndex_0 rfl (lv_at hl 0 rfl) ?_
  refine lv_if_lt (tgt := 14) hx hb dX2_isTellableIndex_1 (by decide) (fun q_1 => ?_) (fun q_1 => ?_)
  · have _ := hx
    refine lv_iconst (v := 0) hx hb dX2_isTellableIndex_14 (by decide) ?_
    exact z_zret hx hb hr hlocks hw dX2_isTellableIndex_15 rfl (by first | (simp [isTi, q_1]; done) | (simp_all [isTi]; done)) rfl rfl
  · have _ := hx
    refine lv_iload_n hx hb dX2_isTellableIndex_4 rfl (lv_at hl 0 rfl) ?_
    refine lv_bipush (v := 20) hx hb dX2_isTellableIndex_5 (by decide) ?_
    refine lv_icmp_gt (tgt := 14) hx hb dX2_isTellableIndex_7 (by decide) (fun q_2 => ?_) (fun q_2 => ?_)
    · have _ := hx
      refine lv_iconst (v := 0) hx hb dX2_isTellableIndex_14 (by decide) ?_
      exact z_zret hx hb hr hlocks hw dX2_isTellableIndex_15 rfl (by first | (simp [isTi, q_1, q_2]; done) | (simp_all [isTi]; done)) rfl rfl
    · have _ := hx
      refine lv_iconst (v := 1) hx hb dX2_isTellableIndex_10 (by decide) ?_
      refine lv_goto (tgt := 15) hx hb dX2_isTellableIndex_11 (by decide) ?_
      exact z_zret hx hb hr hlocks hw dX2_isTellableIndex_15 rfl (by first | (simp [isTi, q_1, q_2]; done) | (simp_all [isTi]; done)) rfl rfl
set_option maxHeartbeats 4000000 in
set_option maxRecDepth 100000 in
theorem k_X2_hold (l : Launch) (E : zE) (c : zC) (mo : zM) (k : Int32) (v : Int64)  : Met l yX2_hold wsX2_hold (zR 0 0) (zP E c mo [.ref (zl E 0), .int k, .long v]) (cQv E (hold c k v) mo) 0 0 (zA E) := by
  refine z_ent (cc := cX2_hold) (maxL := 4) (ret := none) (vs := [.ref (zl E 0), .int k, .long v]) (by decide) rfl (Nat.le_of_ble_eq_true rfl) ?_
  intro p e s m below meth cd ls hx hb hr hml hown hts hlocks hl hw
  have hl : lv_has ls 4 [(0, .ref (zl E 0)), (1, .int k), (2, .long v)] := hl
  have hown : s.vm.findClass RX2 = some m.cls := hown
  have hin2 : ∀ w ∈ u_ws RX2 TX2 12, w ∈ wsX2_hold := by decide +kernel
  refine lv_aload_n hx hb dX2_hold_0 rfl (lv_at hl 0 rfl) ?_
  refine lv_iload_n hx hb dX2_hold_1 rfl (lv_at hl 1 rfl) ?_
  refine z_put (i := 0) (ty := .int) hx hb hts hin2 tyX2 tyX2_ok nmX2 hown hw (by decide) zG_0 rfl 3 (by decide) (hts (.fieldLink RX2 23 "SeedDrawers" "handKind" "I") (by decide +kernel)) rfl rfl (by decide +kernel) rfl rfl (Nat.le_of_ble_eq_true rfl) (zU0_3 E c mo k) dX2_hold_2 (fun H locs hw => ?_)
  refine lv_aload_n hx hb dX2_hold_5 rfl (lv_at hl 0 rfl) ?_
  refine lv_lload_n hx hb dX2_hold_6 rfl (lv_at hl 2 rfl) ?_
  refine z_put (i := 0) (ty := .long) hx hb hts hin2 tyX2 tyX2_ok nmX2 hown hw (by decide) zG_0 rfl 4 (by decide) (hts (.fieldLink RX2 86 "SeedDrawers" "handValue" "J") (by decide +kernel)) rfl rfl (by decide +kernel) rfl rfl (Nat.le_of_ble_eq_true rfl) (zU0_4 E (sI c 0 3 k) mo v) dX2_hold_7 (fun H locs hw => ?_)
  exact z_vret hx hb hr hlocks hw dX2_hold_10 (by first | (simp [hold]; done) | (simp_all [hold]; done)) rfl
set_option maxHeartbeats 4000000 in
set_option maxRecDepth 100000 in
theorem k_X2_fits (l : Launch) (E : zE) (c : zC) (mo : zM) (k : Int32) (r : Int32)  : Met l yX2_fits wsX2_fits (zR 0 0) (zP E c mo [.int k, .int r]) (cQi E (fFits k r) c mo) 0 0 (zA E) := by
  refine z_ent (cc := cX2_fits) (maxL := 2) (ret := (some .boolean)) (vs := [.int k, .int r]) (by decide) rfl (Nat.le_of_ble_eq_true rfl) ?_
  intro p e s m below meth cd ls hx hb hr hml hown hts hlocks hl hw
  have hl : lv_has ls 2 [(0, .int k), (1, .int r)] := hl
  have hown : s.vm.findClass RX2 = some m.cls := hown
  refine lv_iload_n hx hb dX2_fits_0 rfl (lv_at hl 0 rfl) ?_
  by_cases q_1 : k = (-9)
  · have _ := hx
    refine lv_tableIn (tgt := 68) hx hb dX2_fits_1 (by rw [q_1]; decide) (by rw [q_1]; decide) (by rw [q_1]; rfl) (by decide) ?_
    refine lv_iload_n hx hb dX2_fits_68 rfl (lv_at hl 1 rfl) ?_
    refine lv_bipush (v := 6) hx hb dX2_fits_69 (by decide) ?_
    refine lv_icmp_ne (tgt := 78) hx hb dX2_fits_71 (by decide) (fun q_2 => ?_) (fun q_2 => ?_)
    · have _ := hx
      refine lv_iconst (v := 0) hx hb dX2_fits_78 (by decide) ?_
      exact z_zret hx hb hr hlocks hw dX2_fits_79 rfl (by first | (simp [fFits, q_1, q_2]; done) | (simp_all [fFits]; done)) rfl rfl
    · have _ := hx
      refine lv_iconst (v := 1) hx hb dX2_fits_74 (by decide) ?_
      refine lv_goto (tgt := 79) hx hb dX2_fits_75 (by decide) ?_
      exact z_zret hx hb hr hlocks hw dX2_fits_79 rfl (by first | (simp [fFits, q_1, q_2]; done) | (simp_all [fFits]; done)) rfl rfl
  by_cases q_3 : k = 0
  · have _ := hx
    refine lv_tableIn (tgt := 80) hx hb dX2_fits_1 (by rw [q_3]; decide) (by rw [q_3]; decide) (by rw [q_3]; rfl) (by decide) ?_
    refine lv_iload_n hx hb dX2_fits_80 rfl (lv_at hl 1 rfl) ?_
    refine lv_if_eq (tgt := 99) hx hb dX2_fits_81 (by decide) (fun q_4 => ?_) (fun q_4 => ?_)
    · have _ := hx
      refine lv_iconst (v := 1) hx hb dX2_fits_99 (by decide) ?_
      refine lv_goto (tgt := 104) hx hb dX2_fits_100 (by decide) ?_
      exact z_zret hx hb hr hlocks hw dX2_fits_104 rfl (by first | (simp [fFits, q_1, q_3, q_4]; done) | (simp_all [fFits]; done)) rfl rfl
    · have _ := hx
      refine lv_iload_n hx hb dX2_fits_84 rfl (lv_at hl 1 rfl) ?_
      refine lv_iconst (v := 1) hx hb dX2_fits_85 (by decide) ?_
      refine lv_icmp_eq (tgt := 99) hx hb dX2_fits_86 (by decide) (fun q_5 => ?_) (fun q_5 => ?_)
      · have _ := hx
        refine lv_iconst (v := 1) hx hb dX2_fits_99 (by decide) ?_
        refine lv_goto (tgt := 104) hx hb dX2_fits_100 (by decide) ?_
        exact z_zret hx hb hr hlocks hw dX2_fits_104 rfl (by first | (simp [fFits, q_1, q_3, q_4, q_5]; done) | (simp_all [fFits]; done)) rfl rfl
      · have _ := hx
        refine lv_iload_n hx hb dX2_fits_89 rfl (lv_at hl 1 rfl) ?_
        refine lv_iconst (v := 3) hx hb dX2_fits_90 (by decide) ?_
        refine lv_icmp_eq (tgt := 99) hx hb dX2_fits_91 (by decide) (fun q_6 => ?_) (fun q_6 => ?_)
        · have _ := hx
          refine lv_iconst (v := 1) hx hb dX2_fits_99 (by decide) ?_
          refine lv_goto (tgt := 104) hx hb dX2_fits_100 (by decide) ?_
          exact z_zret hx hb hr hlocks hw dX2_fits_104 rfl (by first | (simp [fFits, q_1, q_3, q_4, q_5, q_6]; done) | (simp_all [fFits]; done)) rfl rfl
        · have _ := hx
          refine lv_iload_n hx hb dX2_fits_94 rfl (lv_at hl 1 rfl) ?_
          refine lv_iconst (v := 4) hx hb dX2_fits_95 (by decide) ?_
          refine lv_icmp_ne (tgt := 103) hx hb dX2_fits_96 (by decide) (fun q_7 => ?_) (fun q_7 => ?_)
          · have _ := hx
            refine lv_iconst (v := 0) hx hb dX2_fits_103 (by decide) ?_
            exact z_zret hx hb hr hlocks hw dX2_fits_104 rfl (by first | (simp [fFits, q_1, q_3, q_4, q_5, q_6, q_7]; done) | (simp_all [fFits]; done)) rfl rfl
          · have _ := hx
            refine lv_iconst (v := 1) hx hb dX2_fits_99 (by decide) ?_
            refine lv_goto (tgt := 104) hx hb dX2_fits_100 (by decide) ?_
            exact z_zret hx hb hr hlocks hw dX2_fits_104 rfl (by first | (simp [fFits, q_1, q_3, q_4, q_5, q_6, q_7]; done) | (simp_all [fFits]; done)) rfl rfl
  by_cases q_8 : k = 1
  · have _ := hx
    refine lv_tableIn (tgt := 105) hx hb dX2_fits_1 (by rw [q_8]; decide) (by rw [q_8]; decide) (by rw [q_8]; rfl) (by decide) ?_
    refine lv_iload_n hx hb dX2_fits_105 rfl (lv_at hl 1 rfl) ?_
    refine lv_iload_n hx hb dX2_fits_106 rfl (lv_at hl 0 rfl) ?_
    refine lv_icmp_eq (tgt := 120) hx hb dX2_fits_107 (by decide) (fun q_9 => ?_) (fun q_9 => ?_)
    · have _ := hx
      refine lv_iconst (v := 1) hx hb dX2_fits_120 (by decide) ?_
      refine lv_goto (tgt := 125) hx hb dX2_fits_121 (by decide) ?_
      exact z_zret hx hb hr hlocks hw dX2_fits_125 rfl (by first | (simp [fFits, q_1, q_3, q_8, q_9]; done) | (simp_all [fFits]; done)) rfl rfl
    · have _ := hx
      refine lv_iload_n hx hb dX2_fits_110 rfl (lv_at hl 1 rfl) ?_
      refine lv_iconst (v := 3) hx hb dX2_fits_111 (by decide) ?_
      refine lv_icmp_eq (tgt := 120) hx hb dX2_fits_112 (by decide) (fun q_10 => ?_) (fun q_10 => ?_)
      · have _ := hx
        refine lv_iconst (v := 1) hx hb dX2_fits_120 (by decide) ?_
        refine lv_goto (tgt := 125) hx hb dX2_fits_121 (by decide) ?_
        exact z_zret hx hb hr hlocks hw dX2_fits_125 rfl (by first | (simp [fFits, q_1, q_3, q_8, q_9, q_10]; done) | (simp_all [fFits]; done)) rfl rfl
      · have _ := hx
        refine lv_iload_n hx hb dX2_fits_115 rfl (lv_at hl 1 rfl) ?_
        refine lv_iconst (v := 4) hx hb dX2_fits_116 (by decide) ?_
        refine lv_icmp_ne (tgt := 124) hx hb dX2_fits_117 (by decide) (fun q_11 => ?_) (fun q_11 => ?_)
        · have _ := hx
          refine lv_iconst (v := 0) hx hb dX2_fits_124 (by decide) ?_
          exact z_zret hx hb hr hlocks hw dX2_fits_125 rfl (by first | (simp [fFits, q_1, q_3, q_8, q_9, q_10, q_11]; done) | (simp_all [fFits]; done)) rfl rfl
        · have _ := hx
          refine lv_iconst (v := 1) hx hb dX2_fits_120 (by decide) ?_
          refine lv_goto (tgt := 125) hx hb dX2_fits_121 (by decide) ?_
          exact z_zret hx hb hr hlocks hw dX2_fits_125 rfl (by first | (simp [fFits, q_1, q_3, q_8, q_9, q_10, q_11]; done) | (simp_all [fFits]; done)) rfl rfl
  by_cases q_12 : k = 2
  · have _ := hx
    refine lv_tableIn (tgt := 105) hx hb dX2_fits_1 (by rw [q_12]; decide) (by rw [q_12]; decide) (by rw [q_12]; rfl) (by decide) ?_
    refine lv_iload_n hx hb dX2_fits_105 rfl (lv_at hl 1 rfl) ?_
    refine lv_iload_n hx hb dX2_fits_106 rfl (lv_at hl 0 rfl) ?_
    refine lv_icmp_eq (tgt := 120) hx hb dX2_fits_107 (by decide) (fun q_13 => ?_) (fun q_13 => ?_)
    · have _ := hx
      refine lv_iconst (v := 1) hx hb dX2_fits_120 (by decide) ?_
      refine lv_goto (tgt := 125) hx hb dX2_fits_121 (by decide) ?_
      exact z_zret hx hb hr hlocks hw dX2_fits_125 rfl (by first | (simp [fFits, q_1, q_3, q_8, q_12, q_13]; done) | (simp_all [fFits]; done)) rfl rfl
    · have _ := hx
      refine lv_iload_n hx hb dX2_fits_110 rfl (lv_at hl 1 rfl) ?_
      refine lv_iconst (v := 3) hx hb dX2_fits_111 (by decide) ?_
      refine lv_icmp_eq (tgt := 120) hx hb dX2_fits_112 (by decide) (fun q_14 => ?_) (fun q_14 => ?_)
      · have _ := hx
        refine lv_iconst (v := 1) hx hb dX2_fits_120 (by decide) ?_
        refine lv_goto (tgt := 125) hx hb dX2_fits_121 (by decide) ?_
        exact z_zret hx hb hr hlocks hw dX2_fits_125 rfl (by first | (simp [fFits, q_1, q_3, q_8, q_12, q_13, q_14]; done) | (simp_all [fFits]; done)) rfl rfl
      · have _ := hx
        refine lv_iload_n hx hb dX2_fits_115 rfl (lv_at hl 1 rfl) ?_
        refine lv_iconst (v := 4) hx hb dX2_fits_116 (by decide) ?_
        refine lv_icmp_ne (tgt := 124) hx hb dX2_fits_117 (by decide) (fun q_15 => ?_) (fun q_15 => ?_)
        · have _ := hx
          refine lv_iconst (v := 0) hx hb dX2_fits_124 (by decide) ?_
          exact z_zret hx hb hr hlocks hw dX2_fits_125 rfl (by first | (simp [fFits, q_1, q_3, q_8, q_12, q_13, q_14, q_15]; done) | (simp_all [fFits]; done)) rfl rfl
        · have _ := hx
          refine lv_iconst (v := 1) hx hb dX2_fits_120 (by decide) ?_
          refine lv_goto (tgt := 125) hx hb dX2_fits_121 (by decide) ?_
          exact z_zret hx hb hr hlocks hw dX2_fits_125 rfl (by first | (simp [fFits, q_1, q_3, q_8, q_12, q_13, q_14, q_15]; done) | (simp_all [fFits]; done)) rfl rfl
  by_cases q_16 : k = 3
  · have _ := hx
    refine lv_tableIn (tgt := 126) hx hb dX2_fits_1 (by rw [q_16]; decide) (by rw [q_16]; decide) (by rw [q_16]; rfl) (by decide) ?_
    refine lv_iload_n hx hb dX2_fits_126 rfl (lv_at hl 1 rfl) ?_
    refine lv_iconst (v := 3) hx hb dX2_fits_127 (by decide) ?_
    refine lv_icmp_eq (tgt := 136) hx hb dX2_fits_128 (by decide) (fun q_17 => ?_) (fun q_17 => ?_)
    · have _ := hx
      refine lv_iconst (v := 1) hx hb dX2_fits_136 (by decide) ?_
      refine lv_goto (tgt := 141) hx hb dX2_fits_137 (by decide) ?_
      exact z_zret hx hb hr hlocks hw dX2_fits_141 rfl (by first | (simp [fFits, q_1, q_3, q_8, q_12, q_16, q_17]; done) | (simp_all [fFits]; done)) rfl rfl
    · have _ := hx
      refine lv_iload_n hx hb dX2_fits_131 rfl (lv_at hl 1 rfl) ?_
      refine lv_iconst (v := 4) hx hb dX2_fits_132 (by decide) ?_
      refine lv_icmp_ne (tgt := 140) hx hb dX2_fits_133 (by decide) (fun q_18 => ?_) (fun q_18 => ?_)
      · have _ := hx
        refine lv_iconst (v := 0) hx hb dX2_fits_140 (by decide) ?_
        exact z_zret hx hb hr hlocks hw dX2_fits_141 rfl (by first | (simp [fFits, q_1, q_3, q_8, q_12, q_16, q_17, q_18]; done) | (simp_all [fFits]; done)) rfl rfl
      · have _ := hx
        refine lv_iconst (v := 1) hx hb dX2_fits_136 (by decide) ?_
        refine lv_goto (tgt := 141) hx hb dX2_fits_137 (by decide) ?_
        exact z_zret hx hb hr hlocks hw dX2_fits_141 rfl (by first | (simp [fFits, q_1, q_3, q_8, q_12, q_16, q_17, q_18]; done) | (simp_all [fFits]; done)) rfl rfl
  by_cases q_19 : k.toInt < -9 ∨ 3 < k.toInt
  · have _ := hx
    refine lv_tableOut (tgt := 142) hx hb dX2_fits_1 q_19 (by decide) ?_
    refine lv_iload_n hx hb dX2_fits_142 rfl (lv_at hl 1 rfl) ?_
    refine lv_iload_n hx hb dX2_fits_143 rfl (lv_at hl 0 rfl) ?_
    refine lv_icmp_ne (tgt := 151) hx hb dX2_fits_144 (by decide) (fun q_20 => ?_) (fun q_20 => ?_)
    · have _ := hx
      refine lv_iconst (v := 0) hx hb dX2_fits_151 (by decide) ?_
      exact z_zret hx hb hr hlocks hw dX2_fits_152 rfl (by first | (simp [fFits, q_1, q_3, q_8, q_12, q_16, q_20]; done) | (simp_all [fFits]; done)) rfl rfl
    · have _ := hx
      refine lv_iconst (v := 1) hx hb dX2_fits_147 (by decide) ?_
      refine lv_goto (tgt := 152) hx hb dX2_fits_148 (by decide) ?_
      exact z_zret hx hb hr hlocks hw dX2_fits_152 rfl (by first | (simp [fFits, q_1, q_3, q_8, q_12, q_16, q_20]; done) | (simp_all [fFits]; done)) rfl rfl
  · have _ := hx
    refine lv_tableIn (off := 141) (tgt := 142) hx hb dX2_fits_1 (by omega) (by omega) (tb_in [-9, 0, 1, 2, 3] q_19 (by simp [q_1, q_3, q_8, q_12, q_16]) (by decide +kernel)) (by decide) ?_
    refine lv_iload_n hx hb dX2_fits_142 rfl (lv_at hl 1 rfl) ?_
    refine lv_iload_n hx hb dX2_fits_143 rfl (lv_at hl 0 rfl) ?_
    refine lv_icmp_ne (tgt := 151) hx hb dX2_fits_144 (by decide) (fun q_21 => ?_) (fun q_21 => ?_)
    · have _ := hx
      refine lv_iconst (v := 0) hx hb dX2_fits_151 (by decide) ?_
      exact z_zret hx hb hr hlocks hw dX2_fits_152 rfl (by first | (simp [fFits, q_1, q_3, q_8, q_12, q_16, q_21]; done) | (simp_all [fFits]; done)) rfl rfl
    · have _ := hx
      refine lv_iconst (v := 1) hx hb dX2_fits_147 (by decide) ?_
      refine lv_goto (tgt := 152) hx hb dX2_fits_148 (by decide) ?_
      exact z_zret hx hb hr hlocks hw dX2_fits_152 rfl (by first | (simp [fFits, q_1, q_3, q_8, q_12, q_16, q_21]; done) | (simp_all [fFits]; done)) rfl rfl
set_option maxHeartbeats 4000000 in
set_option maxRecDepth 100000 in
theorem k_X2_valueOfKind (l : Launch) (E : zE) (c : zC) (mo : zM) (k : Int32) (v : Int64)  : Met l yX2_valueOfKind wsX2_valueOfKind (zR 0 0) (zP E c mo [.int k, .long v]) (cQl E (fVok k v) c mo) 0 0 (zA E) := by
  refine z_ent (cc := cX2_valueOfKind) (maxL := 3) (ret := (some .long)) (vs := [.int k, .long v]) (by decide) rfl (Nat.le_of_ble_eq_true rfl) ?_
  intro p e s m below meth cd ls hx hb hr hml hown hts hlocks hl hw
  have hl : lv_has ls 3 [(0, .int k), (1, .long v)] := hl
  have hown : s.vm.findClass RX2 = some m.cls := hown
  refine lv_iload_n hx hb dX2_valueOfKind_0 rfl (lv_at hl 0 rfl) ?_
  by_cases q_1 : k = 0
  · have _ := hx
    refine lv_tableIn (tgt := 40) hx hb dX2_valueOfKind_1 (by rw [q_1]; decide) (by rw [q_1]; decide) (by rw [q_1]; rfl) (by decide) ?_
    refine lv_lload_n hx hb dX2_valueOfKind_40 rfl (lv_at hl 1 rfl) ?_
    refine lv_l2i (v := v.toInt32) hx hb dX2_valueOfKind_41 rfl ?_
    refine lv_i2b (v := v.toInt32.toInt8.toInt32) hx hb dX2_valueOfKind_42 rfl ?_
    refine lv_i2l (v := v.toInt32.toInt8.toInt32.toInt64) hx hb dX2_valueOfKind_43 rfl ?_
    exact z_lret hx hb hr hlocks hw dX2_valueOfKind_44 (by first | (simp [fVok, q_1]; done) | (simp_all [fVok]; done)) rfl rfl
  by_cases q_2 : k = 1
  · have _ := hx
    refine lv_tableIn (tgt := 45) hx hb dX2_valueOfKind_1 (by rw [q_2]; decide) (by rw [q_2]; decide) (by rw [q_2]; rfl) (by decide) ?_
    refine lv_lload_n hx hb dX2_valueOfKind_45 rfl (lv_at hl 1 rfl) ?_
    refine lv_l2i (v := v.toInt32) hx hb dX2_valueOfKind_46 rfl ?_
    refine lv_i2s (v := v.toInt32.toInt16.toInt32) hx hb dX2_valueOfKind_47 rfl ?_
    refine lv_i2l (v := v.toInt32.toInt16.toInt32.toInt64) hx hb dX2_valueOfKind_48 rfl ?_
    exact z_lret hx hb hr hlocks hw dX2_valueOfKind_49 (by first | (simp [fVok, q_1, q_2]; done) | (simp_all [fVok]; done)) rfl rfl
  by_cases q_3 : k = 2
  · have _ := hx
    refine lv_tableIn (tgt := 50) hx hb dX2_valueOfKind_1 (by rw [q_3]; decide) (by rw [q_3]; decide) (by rw [q_3]; rfl) (by decide) ?_
    refine lv_lload_n hx hb dX2_valueOfKind_50 rfl (lv_at hl 1 rfl) ?_
    refine lv_l2i (v := v.toInt32) hx hb dX2_valueOfKind_51 rfl ?_
    refine lv_i2c (v := (v.toInt32.toUInt32 % 65536).toInt32) hx hb dX2_valueOfKind_52 rfl ?_
    refine lv_i2l (v := ((v.toInt32.toUInt32 % 65536).toInt32).toInt64) hx hb dX2_valueOfKind_53 rfl ?_
    exact z_lret hx hb hr hlocks hw dX2_valueOfKind_54 (by first | (simp [fVok, q_1, q_2, q_3]; done) | (simp_all [fVok]; done)) rfl rfl
  by_cases q_4 : k = 3
  · have _ := hx
    refine lv_tableIn (tgt := 55) hx hb dX2_valueOfKind_1 (by rw [q_4]; decide) (by rw [q_4]; decide) (by rw [q_4]; rfl) (by decide) ?_
    refine lv_lload_n hx hb dX2_valueOfKind_55 rfl (lv_at hl 1 rfl) ?_
    refine lv_l2i (v := v.toInt32) hx hb dX2_valueOfKind_56 rfl ?_
    refine lv_i2l (v := v.toInt32.toInt64) hx hb dX2_valueOfKind_57 rfl ?_
    exact z_lret hx hb hr hlocks hw dX2_valueOfKind_58 (by first | (simp [fVok, q_1, q_2, q_3, q_4]; done) | (simp_all [fVok]; done)) rfl rfl
  by_cases q_5 : k = 5
  · have _ := hx
    refine lv_tableIn (tgt := 59) hx hb dX2_valueOfKind_1 (by rw [q_5]; decide) (by rw [q_5]; decide) (by rw [q_5]; rfl) (by decide) ?_
    refine lv_lload_n hx hb dX2_valueOfKind_59 rfl (lv_at hl 1 rfl) ?_
    refine lv_lconst (v := 0) hx hb dX2_valueOfKind_60 (by decide) ?_
    refine W.lcmp hx hb dX2_valueOfKind_61 ?_
    refine lv_if_eq (tgt := 69) hx hb dX2_valueOfKind_62 (by decide) (fun q_6 => ?_) (fun q_6 => ?_)
    · have _ := hx
      refine lv_lconst (v := 0) hx hb dX2_valueOfKind_69 (by decide) ?_
      exact z_lret hx hb hr hlocks hw dX2_valueOfKind_70 (by first | (simp [fVok, q_1, q_2, q_3, q_4, q_5, q_6]; done) | (simp_all [fVok]; done)) rfl rfl
    · have _ := hx
      refine lv_lconst (v := 1) hx hb dX2_valueOfKind_65 (by decide) ?_
      refine lv_goto (tgt := 70) hx hb dX2_valueOfKind_66 (by decide) ?_
      exact z_lret hx hb hr hlocks hw dX2_valueOfKind_70 (by first | (simp [fVok, q_1, q_2, q_3, q_4, q_5, q_6]; done) | (simp_all [fVok]; done)) rfl rfl
  by_cases q_7 : k.toInt < 0 ∨ 5 < k.toInt
  · have _ := hx
    refine lv_tableOut (tgt := 71) hx hb dX2_valueOfKind_1 q_7 (by decide) ?_
    refine lv_lload_n hx hb dX2_valueOfKind_71 rfl (lv_at hl 1 rfl) ?_
    exact z_lret hx hb hr hlocks hw dX2_valueOfKind_72 (by first | (simp [fVok, q_1, q_2, q_3, q_4, q_5]; done) | (simp_all [fVok]; done)) rfl rfl
  · have _ := hx
    refine lv_tableIn (off := 70) (tgt := 71) hx hb dX2_valueOfKind_1 (by omega) (by omega) (tb_in [0, 1, 2, 3, 5] q_7 (by simp [q_1, q_2, q_3, q_4, q_5]) (by decide +kernel)) (by decide) ?_
    refine lv_lload_n hx hb dX2_valueOfKind_71 rfl (lv_at hl 1 rfl) ?_
    exact z_lret hx hb hr hlocks hw dX2_valueOfKind_72 (by first | (simp [fVok, q_1, q_2, q_3, q_4, q_5]; done) | (simp_all [fVok]; done)) rfl rfl
set_option maxHeartbeats 4000000 in
set_option maxRecDepth 100000 in
theorem k_X2_meet (l : Launch) (E : zE) (c : zC) (mo : zM) (f : Int32) (hf : vp_in f 5) : Met l yX2_meet wsX2_meet (zR 0 0) (zP E c mo [.ref (zl E 0), .int f]) (cQi E ((-10) - f) (meet c f) mo) 0 0 (zA E) := by
  refine z_ent (cc := cX2_meet) (maxL := 2) (ret := (some .int)) (vs := [.ref (zl E 0), .int f]) (by decide) rfl (Nat.le_of_ble_eq_true rfl) ?_
  intro p e s m below meth cd ls hx hb hr hml hown hts hlocks hl hw
  have hl : lv_has ls 2 [(0, .ref (zl E 0)), (1, .int f)] := hl
  have hown : s.vm.findClass RX2 = some m.cls := hown
  have hin2 : ∀ w ∈ u_ws RX2 TX2 12, w ∈ wsX2_meet := by decide +kernel
  refine lv_aload_n hx hb dX2_meet_0 rfl (lv_at hl 0 rfl) ?_
  refine lv_iload_n hx hb dX2_meet_1 rfl (lv_at hl 1 rfl) ?_
  refine z_put (i := 0) (ty := .int) hx hb hts hin2 tyX2 tyX2_ok nmX2 hown hw (by decide) zG_0 rfl 10 (by decide) (hts (.fieldLink RX2 129 "SeedDrawers" "latestFault" "I") (by decide +kernel)) rfl rfl (by decide +kernel) rfl rfl (Nat.le_of_ble_eq_true rfl) (zU0_10 E c mo f) dX2_meet_2 (fun H locs hw => ?_)
  refine lv_aload_n hx hb dX2_meet_5 rfl (lv_at hl 0 rfl) ?_
  refine z_get (i := 0) hx hb hts hin2 hown hw (by decide) zG_0 rfl 11 (by decide) (hts (.fieldLink RX2 38 "SeedDrawers" "faultCounts" "[I") (by decide +kernel)) rfl rfl dX2_meet_6 ?_
  refine lv_iconst (v := 0) hx hb dX2_meet_9 (by decide) ?_
  refine lv_dup2_11 hx hb dX2_meet_10 rfl rfl ?_
  refine y_iald (i := 5) hx hb hw (by decide) (zG_4 (i := 5) (by decide)) (vp_in_iff.mpr (by decide)) (k := 0) rfl dX2_meet_11 ?_
  refine lv_iconst (v := 1) hx hb dX2_meet_12 (by decide) ?_
  refine lv_iadd hx hb dX2_meet_13 ?_
  refine y_iast4 (i := 5) hx hb hw (by decide) (by decide) (vp_in_iff.mpr (by decide)) (k := 0) rfl dX2_meet_14 (fun H locs hw => ?_)
  refine lv_aload_n hx hb dX2_meet_15 rfl (lv_at hl 0 rfl) ?_
  refine z_get (i := 0) hx hb hts hin2 hown hw (by decide) zG_0 rfl 11 (by decide) (hts (.fieldLink RX2 38 "SeedDrawers" "faultCounts" "[I") (by decide +kernel)) rfl rfl dX2_meet_16 ?_
  refine lv_iload_n hx hb dX2_meet_19 rfl (lv_at hl 1 rfl) ?_
  refine lv_dup2_11 hx hb dX2_meet_20 rfl rfl ?_
  refine y_iald (i := 5) hx hb hw (by decide) (zG_4 (i := 5) (by decide)) (by assumption) (k := f.toNatClampNeg) rfl dX2_meet_21 ?_
  refine lv_iconst (v := 1) hx hb dX2_meet_22 (by decide) ?_
  refine lv_iadd hx hb dX2_meet_23 ?_
  refine y_iast4 (i := 5) hx hb hw (by decide) (by decide) (by assumption) (k := f.toNatClampNeg) rfl dX2_meet_24 (fun H locs hw => ?_)
  refine lv_bipush (v := (-10)) hx hb dX2_meet_25 (by decide) ?_
  refine lv_iload_n hx hb dX2_meet_27 rfl (lv_at hl 1 rfl) ?_
  refine lv_isub hx hb dX2_meet_28 ?_
  exact z_iret hx hb hr hlocks hw dX2_meet_29 (by rfl) (by rfl) rfl
set_option maxHeartbeats 4000000 in
set_option maxRecDepth 100000 in
theorem k_X0_faultOfRow (l : Launch) (E : zE) (c : zC) (mo : zM) (j : Nat) (hj : kd j = 6) : Met l yX0_faultOfRow wsX0_faultOfRow (zR 0 0) (zP E c mo [.ref (zl E j)]) (cQi E (fRow c j) c mo) 0 0 (zA E) := by
  refine z_ent (cc := cX0_faultOfRow) (maxL := 1) (ret := (some .int)) (vs := [.ref (zl E j)]) (by decide) rfl (Nat.le_of_ble_eq_true rfl) ?_
  intro p e s m below meth cd ls hx hb hr hml hown hts hlocks hl hw
  have hl : lv_has ls 1 [(0, .ref (zl E j))] := hl
  have hown : s.vm.findClass RX0 = some m.cls := hown
  have hin0 : ∀ w ∈ u_ws RX0 TX0 4, w ∈ wsX0_faultOfRow := by decide +kernel
  refine lv_aload_n hx hb dX0_faultOfRow_0 rfl (lv_at hl 0 rfl) ?_
  refine z_get (i := j) hx hb hts hin0 hown hw (kd6l hj) (zG_6 hj) rfl 0 (by decide) (hts (.fieldLink RX0 15 "SeedDrawers$Content" "has" "I") (by decide +kernel)) rfl rfl dX0_faultOfRow_1 ?_
  refine lv_if_ne (tgt := 9) hx hb dX0_faultOfRow_4 (by decide) (fun q_1 => ?_) (fun q_1 => ?_)
  · have _ := hx
    refine lv_aload_n hx hb dX0_faultOfRow_9 rfl (lv_at hl 0 rfl) ?_
    refine z_get (i := j) hx hb hts hin0 hown hw (kd6l hj) (zG_6 hj) rfl 0 (by decide) (hts (.fieldLink RX0 15 "SeedDrawers$Content" "has" "I") (by decide +kernel)) rfl rfl dX0_faultOfRow_10 ?_
    refine lv_iconst (v := 1) hx hb dX0_faultOfRow_13 (by decide) ?_
    refine lv_icmp_ne (tgt := 21) hx hb dX0_faultOfRow_14 (by decide) (fun q_2 => ?_) (fun q_2 => ?_)
    · have _ := hx
      refine lv_iconst (v := 0) hx hb dX0_faultOfRow_21 (by decide) ?_
      exact z_iret hx hb hr hlocks hw dX0_faultOfRow_22 (by first | (simp [fRow, q_1, q_2]; done) | (simp_all [fRow]; done)) rfl rfl
    · have _ := hx
      refine lv_iconst (v := 2) hx hb dX0_faultOfRow_17 (by decide) ?_
      refine lv_goto (tgt := 22) hx hb dX0_faultOfRow_18 (by decide) ?_
      exact z_iret hx hb hr hlocks hw dX0_faultOfRow_22 (by first | (simp [fRow, q_1, q_2]; done) | (simp_all [fRow]; done)) rfl rfl
  · have _ := hx
    refine lv_iconst (v := 1) hx hb dX0_faultOfRow_7 (by decide) ?_
    exact z_iret hx hb hr hlocks hw dX0_faultOfRow_8 (by first | (simp [fRow, q_1]; done) | (simp_all [fRow]; done)) rfl rfl
set_option maxHeartbeats 4000000 in
set_option maxRecDepth 100000 in
theorem k_X0_faultOfComing (l : Launch) (E : zE) (c : zC) (mo : zM) (j : Nat) (i : Int32) (hj : kd j = 6) : Met l yX0_faultOfComing wsX0_faultOfComing (zR 1 20) (zP E c mo [.ref (zl E j), .int i]) (cQi E (fCome c j i) c mo) 0 0 (zA E) := by
  refine z_ent (cc := cX0_faultOfComing) (maxL := 3) (ret := (some .int)) (vs := [.ref (zl E j), .int i]) (by decide) rfl (Nat.le_of_ble_eq_true rfl) ?_
  intro p e s m below meth cd ls hx hb hr hml hown hts hlocks hl hw
  have hl : lv_has ls 3 [(0, .ref (zl E j)), (1, .int i)] := hl
  have hown : s.vm.findClass RX0 = some m.cls := hown
  have hin0 : ∀ w ∈ u_ws RX0 TX0 4, w ∈ wsX0_faultOfComing := by decide +kernel
  refine lv_aload_n hx hb dX0_faultOfComing_0 rfl (lv_at hl 0 rfl) ?_
  refine z_calli (rest := []) (va_runV (As := []) (rest := []) ⟨hx, hb, hml, hown, hts⟩ (k_X0_faultOfRow l E c mo j hj) (cwV 0 hts gX0_faultOfComing_X0_faultOfRow rfl rfl rfl (by decide +kernel) ⟨Nat.le_of_ble_eq_true rfl, Nat.le_of_ble_eq_true rfl⟩) (z_preV hw (kd6l hj) (zG_6 hj) rfl []) rfl rfl hl.1 rfl (lv_room (Nat.le_of_ble_eq_true rfl)) dX0_faultOfComing_1 ⟨Nat.le_of_ble_eq_true rfl, Nat.le_of_ble_eq_true rfl⟩) hw (fun H locs hw => ?_)
  refine lv_istore_n (lv' := [(2, .int (fRow c j)), (0, .ref (zl E j)), (1, .int i)]) hx hb dX0_faultOfComing_4 rfl hl (by decide) rfl (fun ls hl => ?_)
  refine lv_iload_n hx hb dX0_faultOfComing_5 rfl (lv_at hl 0 rfl) ?_
  refine lv_if_eq (tgt := 11) hx hb dX0_faultOfComing_6 (by decide) (fun q_1 => ?_) (fun q_1 => ?_)
  · have _ := hx
    refine lv_iload_n hx hb dX0_faultOfComing_11 rfl (lv_at hl 2 rfl) ?_
    refine lv_if_lt (tgt := 23) hx hb dX0_faultOfComing_12 (by decide) (fun q_2 => ?_) (fun q_2 => ?_)
    · have _ := hx
      refine lv_iconst (v := 3) hx hb dX0_faultOfComing_23 (by decide) ?_
      refine lv_goto (tgt := 28) hx hb dX0_faultOfComing_24 (by decide) ?_
      exact z_iret hx hb hr hlocks hw dX0_faultOfComing_28 (by first | (simp [fCome, q_1, q_2]; done) | (simp_all [fCome]; done)) rfl rfl
    · have _ := hx
      refine lv_iload_n hx hb dX0_faultOfComing_15 rfl (lv_at hl 2 rfl) ?_
      refine lv_aload_n hx hb dX0_faultOfComing_16 rfl (lv_at hl 1 rfl) ?_
      refine z_get (i := j) hx hb hts hin0 hown hw (kd6l hj) (zG_6 hj) rfl 2 (by decide) (hts (.fieldLink RX0 22 "SeedDrawers$Content" "places" "I") (by decide +kernel)) rfl rfl dX0_faultOfComing_17 ?_
      refine lv_icmp_lt (tgt := 27) hx hb dX0_faultOfComing_20 (by decide) (fun q_3 => ?_) (fun q_3 => ?_)
      · have _ := hx
        refine lv_iconst (v := 0) hx hb dX0_faultOfComing_27 (by decide) ?_
        exact z_iret hx hb hr hlocks hw dX0_faultOfComing_28 (by first | (simp [fCome, q_1, q_2, q_3]; done) | (simp_all [fCome]; done)) rfl rfl
      · have _ := hx
        refine lv_iconst (v := 3) hx hb dX0_faultOfComing_23 (by decide) ?_
        refine lv_goto (tgt := 28) hx hb dX0_faultOfComing_24 (by decide) ?_
        exact z_iret hx hb hr hlocks hw dX0_faultOfComing_28 (by first | (simp [fCome, q_1, q_2, q_3]; done) | (simp_all [fCome]; done)) rfl rfl
  · have _ := hx
    refine lv_iload_n hx hb dX0_faultOfComing_9 rfl (lv_at hl 0 rfl) ?_
    exact z_iret hx hb hr hlocks hw dX0_faultOfComing_10 (by first | (simp [fCome, q_1]; done) | (simp_all [fCome]; done)) rfl rfl
set_option maxHeartbeats 4000000 in
set_option maxRecDepth 100000 in
theorem k_X0_faultOfLaying (l : Launch) (E : zE) (c : zC) (mo : zM) (j : Nat) (i : Int32) (k : Int32) (hj : kd j = 6) : Met l yX0_faultOfLaying wsX0_faultOfLaying (zR 2 42) (zP E c mo [.ref (zl E j), .int i, .int k]) (cQi E (fLay c j i k) c mo) 0 0 (zA E) := by
  refine z_ent (cc := cX0_faultOfLaying) (maxL := 4) (ret := (some .int)) (vs := [.ref (zl E j), .int i, .int k]) (by decide) rfl (Nat.le_of_ble_eq_true rfl) ?_
  intro p e s m below meth cd ls hx hb hr hml hown hts hlocks hl hw
  have hl : lv_has ls 4 [(0, .ref (zl E j)), (1, .int i), (2, .int k)] := hl
  have hown : s.vm.findClass RX0 = some m.cls := hown
  have hin0 : ∀ w ∈ u_ws RX0 TX0 4, w ∈ wsX0_faultOfLaying := by decide +kernel
  refine lv_aload_n hx hb dX0_faultOfLaying_0 rfl (lv_at hl 0 rfl) ?_
  refine lv_iload_n hx hb dX0_faultOfLaying_1 rfl (lv_at hl 1 rfl) ?_
  refine z_calli (rest := []) (va_runV (As := [.int i]) (rest := []) ⟨hx, hb, hml, hown, hts⟩ (k_X0_faultOfComing l E c mo j i hj) (cwV 1 hts gX0_faultOfLaying_X0_faultOfComing rfl rfl rfl (by decide +kernel) ⟨Nat.le_of_ble_eq_true rfl, Nat.le_of_ble_eq_true rfl⟩) (z_preV hw (kd6l hj) (zG_6 hj) rfl [.int i]) rfl rfl hl.1 rfl (lv_room (Nat.le_of_ble_eq_true rfl)) dX0_faultOfLaying_2 ⟨Nat.le_of_ble_eq_true rfl, Nat.le_of_ble_eq_true rfl⟩) hw (fun H locs hw => ?_)
  refine lv_istore_n (lv' := [(3, .int (fCome c j i)), (0, .ref (zl E j)), (1, .int i), (2, .int k)]) hx hb dX0_faultOfLaying_5 rfl hl (by decide) rfl (fun ls hl => ?_)
  refine lv_iload_n hx hb dX0_faultOfLaying_6 rfl (lv_at hl 0 rfl) ?_
  refine lv_if_eq (tgt := 12) hx hb dX0_faultOfLaying_7 (by decide) (fun q_1 => ?_) (fun q_1 => ?_)
  · have _ := hx
    refine lv_iload_n hx hb dX0_faultOfLaying_12 rfl (lv_at hl 3 rfl) ?_
    refine lv_aload_n hx hb dX0_faultOfLaying_13 rfl (lv_at hl 1 rfl) ?_
    refine z_get (i := j) hx hb hts hin0 hown hw (kd6l hj) (zG_6 hj) rfl 0 (by decide) (hts (.fieldLink RX0 15 "SeedDrawers$Content" "has" "I") (by decide +kernel)) rfl rfl dX0_faultOfLaying_14 ?_
    refine lv_iconst (v := 2) hx hb dX0_faultOfLaying_17 (by decide) ?_
    refine lv_isub hx hb dX0_faultOfLaying_18 ?_
    refine z_calli (rest := []) (va_runSN (As := [.int k, .int ((c.1 j 0) - 2)]) (rest := []) ⟨hx, hb, hml, hown, hts⟩ (k_X2_fits l E c mo k ((c.1 j 0) - 2) ) ⟨va_cnB 2 hts gX0_faultOfLaying_X2_fits_n33 rfl rfl rfl hw.1.2.2.2.2 (hts (.initialized RX2) (by decide +kernel)) (by decide +kernel) ⟨Nat.le_of_ble_eq_true rfl, Nat.le_of_ble_eq_true rfl⟩, hts (.static yX2_fits) (by decide +kernel), trivial⟩ (z_preS hw [.int k, .int ((c.1 j 0) - 2)]) rfl rfl hl.1 rfl (lv_room (Nat.le_of_ble_eq_true rfl)) dX0_faultOfLaying_19 ⟨Nat.le_of_ble_eq_true rfl, Nat.le_of_ble_eq_true rfl⟩) hw (fun H locs hw => ?_)
    refine lv_if_eq (tgt := 29) hx hb dX0_faultOfLaying_22 (by decide) (fun q_2 => ?_) (fun q_2 => ?_)
    · have _ := hx
      refine lv_iconst (v := 4) hx hb dX0_faultOfLaying_29 (by decide) ?_
      exact z_iret hx hb hr hlocks hw dX0_faultOfLaying_30 (by first | (simp [fLay, q_1, q_2]; done) | (simp_all [fLay]; done)) rfl rfl
    · have _ := hx
      refine lv_iconst (v := 0) hx hb dX0_faultOfLaying_25 (by decide) ?_
      refine lv_goto (tgt := 30) hx hb dX0_faultOfLaying_26 (by decide) ?_
      exact z_iret hx hb hr hlocks hw dX0_faultOfLaying_30 (by first | (simp [fLay, q_1, q_2]; done) | (simp_all [fLay]; done)) rfl rfl
  · have _ := hx
    refine lv_iload_n hx hb dX0_faultOfLaying_10 rfl (lv_at hl 0 rfl) ?_
    exact z_iret hx hb hr hlocks hw dX0_faultOfLaying_11 (by first | (simp [fLay, q_1]; done) | (simp_all [fLay]; done)) rfl rfl
set_option maxHeartbeats 4000000 in
set_option maxRecDepth 100000 in
theorem k_X0_isRow (l : Launch) (E : zE) (c : zC) (mo : zM) (j : Nat) (hj : kd j = 6) : Met l yX0_isRow wsX0_isRow (zR 0 0) (zP E c mo [.ref (zl E j)]) (cQi E (fIsR c j) c mo) 0 0 (zA E) := by
  refine z_ent (cc := cX0_isRow) (maxL := 1) (ret := (some .boolean)) (vs := [.ref (zl E j)]) (by decide) rfl (Nat.le_of_ble_eq_true rfl) ?_
  intro p e s m below meth cd ls hx hb hr hml hown hts hlocks hl hw
  have hl : lv_has ls 1 [(0, .ref (zl E j))] := hl
  have hown : s.vm.findClass RX0 = some m.cls := hown
  have hin0 : ∀ w ∈ u_ws RX0 TX0 4, w ∈ wsX0_isRow := by decide +kernel
  refine lv_aload_n hx hb dX0_isRow_0 rfl (lv_at hl 0 rfl) ?_
  refine z_get (i := j) hx hb hts hin0 hown hw (kd6l hj) (zG_6 hj) rfl 0 (by decide) (hts (.fieldLink RX0 15 "SeedDrawers$Content" "has" "I") (by decide +kernel)) rfl rfl dX0_isRow_1 ?_
  refine lv_iconst (v := 2) hx hb dX0_isRow_4 (by decide) ?_
  refine lv_icmp_lt (tgt := 12) hx hb dX0_isRow_5 (by decide) (fun q_1 => ?_) (fun q_1 => ?_)
  · have _ := hx
    refine lv_iconst (v := 0) hx hb dX0_isRow_12 (by decide) ?_
    exact z_zret hx hb hr hlocks hw dX0_isRow_13 rfl (by first | (simp [fIsR, q_1]; done) | (simp_all [fIsR]; done)) rfl rfl
  · have _ := hx
    refine lv_iconst (v := 1) hx hb dX0_isRow_8 (by decide) ?_
    refine lv_goto (tgt := 13) hx hb dX0_isRow_9 (by decide) ?_
    exact z_zret hx hb hr hlocks hw dX0_isRow_13 rfl (by first | (simp [fIsR, q_1]; done) | (simp_all [fIsR]; done)) rfl rfl
set_option maxHeartbeats 4000000 in
set_option maxRecDepth 100000 in
theorem k_X0_kindAt (l : Launch) (E : zE) (c : zC) (mo : zM) (j : Nat) (i : Int32) (hj : kd j = 6) (hi : vp_in i 12) : Met l yX0_kindAt wsX0_kindAt (zR 0 0) (zP E c mo [.ref (zl E j), .int i]) (cQi E (fKind c j i) c mo) 0 0 (zA E) := by
  refine z_ent (cc := cX0_kindAt) (maxL := 3) (ret := (some .int)) (vs := [.ref (zl E j), .int i]) (by decide) rfl (Nat.le_of_ble_eq_true rfl) ?_
  intro p e s m below meth cd ls hx hb hr hml hown hts hlocks hl hw
  have hl : lv_has ls 3 [(0, .ref (zl E j)), (1, .int i)] := hl
  have hown : s.vm.findClass RX0 = some m.cls := hown
  have hin0 : ∀ w ∈ u_ws RX0 TX0 4, w ∈ wsX0_kindAt := by decide +kernel
  refine lv_aload_n hx hb dX0_kindAt_0 rfl (lv_at hl 0 rfl) ?_
  refine z_get (i := j) hx hb hts hin0 hown hw (kd6l hj) (zG_6 hj) rfl 0 (by decide) (hts (.fieldLink RX0 15 "SeedDrawers$Content" "has" "I") (by decide +kernel)) rfl rfl dX0_kindAt_1 ?_
  refine lv_iconst (v := 2) hx hb dX0_kindAt_4 (by decide) ?_
  refine lv_isub hx hb dX0_kindAt_5 ?_
  refine lv_istore_n (lv' := [(2, .int ((c.1 j 0) - 2)), (0, .ref (zl E j)), (1, .int i)]) hx hb dX0_kindAt_6 rfl hl (by decide) rfl (fun ls hl => ?_)
  refine lv_iload_n hx hb dX0_kindAt_7 rfl (lv_at hl 0 rfl) ?_
  refine lv_bipush (v := 6) hx hb dX0_kindAt_8 (by decide) ?_
  refine lv_icmp_ne (tgt := 29) hx hb dX0_kindAt_10 (by decide) (fun q_1 => ?_) (fun q_1 => ?_)
  · have _ := hx
    refine lv_iload_n hx hb dX0_kindAt_29 rfl (lv_at hl 0 rfl) ?_
    exact z_iret hx hb hr hlocks hw dX0_kindAt_30 (by first | (simp [fKind, q_1]; done) | (simp_all [fKind]; done)) rfl rfl
  · have _ := hx
    refine lv_aload_n hx hb dX0_kindAt_13 rfl (lv_at hl 1 rfl) ?_
    refine z_get (i := j) hx hb hts hin0 hown hw (kd6l hj) (zG_6 hj) rfl 3 (by decide) (hts (.fieldLink RX0 9 "SeedDrawers$Content" "values" "[J") (by decide +kernel)) rfl rfl dX0_kindAt_14 ?_
    refine lv_iload_n hx hb dX0_kindAt_17 rfl (lv_at hl 2 rfl) ?_
    refine y_lald (i := j + 9) hx hb hw (kd65l hj) (zG_5 (kd65 hj)) (by assumption) (k := i.toNatClampNeg) rfl dX0_kindAt_18 ?_
    refine lv_lconst (v := 0) hx hb dX0_kindAt_19 (by decide) ?_
    refine W.lcmp hx hb dX0_kindAt_20 ?_
    refine lv_if_ne (tgt := 29) hx hb dX0_kindAt_21 (by decide) (fun q_2 => ?_) (fun q_2 => ?_)
    · have _ := hx
      refine lv_iload_n hx hb dX0_kindAt_29 rfl (lv_at hl 0 rfl) ?_
      exact z_iret hx hb hr hlocks hw dX0_kindAt_30 (by first | (simp [fKind, q_1, q_2]; done) | (simp_all [fKind]; done)) rfl rfl
    · have _ := hx
      refine lv_bipush (v := (-9)) hx hb dX0_kindAt_24 (by decide) ?_
      refine lv_goto (tgt := 30) hx hb dX0_kindAt_26 (by decide) ?_
      exact z_iret hx hb hr hlocks hw dX0_kindAt_30 (by first | (simp [fKind, q_1, q_2]; done) | (simp_all [fKind]; done)) rfl rfl
set_option maxHeartbeats 4000000 in
set_option maxRecDepth 100000 in
theorem k_X0_becomeNote (l : Launch) (E : zE) (c : zC) (mo : zM) (j : Nat) (v : Int32) (hj : kd j = 6) : Met l yX0_becomeNote wsX0_becomeNote (zR 0 0) (zP E c mo [.ref (zl E j), .int v]) (cQv E (bNote c j v) mo) 0 0 (zA E) := by
  refine z_ent (cc := cX0_becomeNote) (maxL := 2) (ret := none) (vs := [.ref (zl E j), .int v]) (by decide) rfl (Nat.le_of_ble_eq_true rfl) ?_
  intro p e s m below meth cd ls hx hb hr hml hown hts hlocks hl hw
  have hl : lv_has ls 2 [(0, .ref (zl E j)), (1, .int v)] := hl
  have hown : s.vm.findClass RX0 = some m.cls := hown
  have hin0 : ∀ w ∈ u_ws RX0 TX0 4, w ∈ wsX0_becomeNote := by decide +kernel
  refine lv_aload_n hx hb dX0_becomeNote_0 rfl (lv_at hl 0 rfl) ?_
  refine lv_iconst (v := 1) hx hb dX0_becomeNote_1 (by decide) ?_
  refine z_put (i := j) (ty := .int) hx hb hts hin0 tyX0 tyX0_ok nmX0 hown hw (kd6l hj) (zG_6 hj) rfl 0 (by decide) (hts (.fieldLink RX0 15 "SeedDrawers$Content" "has" "I") (by decide +kernel)) rfl rfl (by decide +kernel) rfl rfl (Nat.le_of_ble_eq_true rfl) (zU6_0 E c mo hj 1) dX0_becomeNote_2 (fun H locs hw => ?_)
  refine lv_aload_n hx hb dX0_becomeNote_5 rfl (lv_at hl 0 rfl) ?_
  refine lv_iload_n hx hb dX0_becomeNote_6 rfl (lv_at hl 1 rfl) ?_
  refine z_put (i := j) (ty := .int) hx hb hts hin0 tyX0 tyX0_ok nmX0 hown hw (kd6l hj) (zG_6 hj) rfl 1 (by decide) (hts (.fieldLink RX0 19 "SeedDrawers$Content" "noteNumber" "I") (by decide +kernel)) rfl rfl (by decide +kernel) rfl rfl (Nat.le_of_ble_eq_true rfl) (zU6_1 E (sI c j 0 1) mo hj v) dX0_becomeNote_7 (fun H locs hw => ?_)
  exact z_vret hx hb hr hlocks hw dX0_becomeNote_10 (by first | (simp [bNote]; done) | (simp_all [bNote]; done)) rfl
set_option maxHeartbeats 4000000 in
set_option maxRecDepth 100000 in
theorem k_X0_becomeRow (l : Launch) (E : zE) (c : zC) (mo : zM) (j : Nat) (k : Int32) (n : Int32) (hj : kd j = 6) : Met l yX0_becomeRow wsX0_becomeRow (zR 0 0) (zP E c mo [.ref (zl E j), .int k, .int n]) (cQv E (bRow c j k n) mo) 0 0 (zA E) := by
  refine z_ent (cc := cX0_becomeRow) (maxL := 4) (ret := none) (vs := [.ref (zl E j), .int k, .int n]) (by decide) rfl (Nat.le_of_ble_eq_true rfl) ?_
  intro p e s m below meth cd ls hx hb hr hml hown hts hlocks hl hw
  have hl : lv_has ls 4 [(0, .ref (zl E j)), (1, .int k), (2, .int n)] := hl
  have hown : s.vm.findClass RX0 = some m.cls := hown
  have hin0 : ∀ w ∈ u_ws RX0 TX0 4, w ∈ wsX0_becomeRow := by decide +kernel
  have hi0 : True := trivial
  refine lv_aload_n hx hb dX0_becomeRow_0 rfl (lv_at hl 0 rfl) ?_
  refine lv_iconst (v := 2) hx hb dX0_becomeRow_1 (by decide) ?_
  refine lv_iload_n hx hb dX0_becomeRow_2 rfl (lv_at hl 1 rfl) ?_
  refine lv_iadd hx hb dX0_becomeRow_3 ?_
  refine z_put (i := j) (ty := .int) hx hb hts hin0 tyX0 tyX0_ok nmX0 hown hw (kd6l hj) (zG_6 hj) rfl 0 (by decide) (hts (.fieldLink RX0 15 "SeedDrawers$Content" "has" "I") (by decide +kernel)) rfl rfl (by decide +kernel) rfl rfl (Nat.le_of_ble_eq_true rfl) (zU6_0 E c mo hj (2 + k)) dX0_becomeRow_4 (fun H locs hw => ?_)
  refine lv_aload_n hx hb dX0_becomeRow_7 rfl (lv_at hl 0 rfl) ?_
  refine lv_iconst (v := 0) hx hb dX0_becomeRow_8 (by decide) ?_
  refine z_put (i := j) (ty := .int) hx hb hts hin0 tyX0 tyX0_ok nmX0 hown hw (kd6l hj) (zG_6 hj) rfl 1 (by decide) (hts (.fieldLink RX0 19 "SeedDrawers$Content" "noteNumber" "I") (by decide +kernel)) rfl rfl (by decide +kernel) rfl rfl (Nat.le_of_ble_eq_true rfl) (zU6_1 E (sI c j 0 (2 + k)) mo hj 0) dX0_becomeRow_9 (fun H locs hw => ?_)
  refine lv_aload_n hx hb dX0_becomeRow_12 rfl (lv_at hl 0 rfl) ?_
  refine lv_iload_n hx hb dX0_becomeRow_13 rfl (lv_at hl 2 rfl) ?_
  refine z_put (i := j) (ty := .int) hx hb hts hin0 tyX0 tyX0_ok nmX0 hown hw (kd6l hj) (zG_6 hj) rfl 2 (by decide) (hts (.fieldLink RX0 22 "SeedDrawers$Content" "places" "I") (by decide +kernel)) rfl rfl (by decide +kernel) rfl rfl (Nat.le_of_ble_eq_true rfl) (zU6_2 E (sI (sI c j 0 (2 + k)) j 1 0) mo hj n) dX0_becomeRow_14 (fun H locs hw => ?_)
  refine lv_iconst (v := 0) hx hb dX0_becomeRow_17 (by decide) ?_
  refine lv_istore_n (lv' := [(3, .int 0), (0, .ref (zl E j)), (1, .int k), (2, .int n)]) hx hb dX0_becomeRow_18 rfl hl (by decide) rfl (fun ls hl => ?_)
  have loop19 : ∀ (n_ : Nat) (i : Nat) (c1 : zC) (H : Heap) (locs : List Loc) (ls : Array Slot), 12 - i < n_ → (i ≤ 12) → (zer j (12 - i) i c1 = bRow c j k n) → zW E c1 mo s s.heap H locs → lv_has ls 4 [(3, .int (nI i)), (0, .ref (zl E j))] → W p l e (headSpec wsX0_becomeRow (zR 0 0)).room s m ([.ref (zl E j), .int k, .int n] : List Value).toArray below meth cd H locs 0 0 (MQ below (cQv E (bRow c j k n) mo) ([.ref (zl E j), .int k, .int n] : List Value).toArray s 0 0 (zA E)) (F0 m 19 ls []) := by
    intro n_
    induction n_ with
    | zero => intro i c1 H locs ls hn_; exact absurd hn_ (Nat.not_lt_zero _)
    | succ n_ ih =>
      intro i c1 H locs ls hn_ hi hR hw hl
      refine lv_iload_n hx hb dX0_becomeRow_19 rfl (lv_at hl 0 rfl) ?_
      refine lv_bipush (v := 12) hx hb dX0_becomeRow_20 (by decide) ?_
      refine lv_icmp_ge (tgt := 38) hx hb dX0_becomeRow_22 (by decide) (fun q_1 => ?_) (fun q_1 => ?_)
      · have _ := hx
        have hk : 12 ≤ i := le_le (b := 12) q_1 (by omega) (by omega)
        rw [show 12 - i = 0 by omega] at hR
        exact z_vret hx hb hr hlocks hw dX0_becomeRow_38 (by exact hR) rfl
      · have _ := hx
        have hk : i < 12 := nle_lt (b := 12) q_1 (by omega) (by omega)
        refine lv_aload_n hx hb dX0_becomeRow_25 rfl (lv_at hl 1 rfl) ?_
        refine z_get (i := j) hx hb hts hin0 hown hw (kd6l hj) (zG_6 hj) rfl 3 (by decide) (hts (.fieldLink RX0 9 "SeedDrawers$Content" "values" "[J") (by decide +kernel)) rfl rfl dX0_becomeRow_26 ?_
        refine lv_iload_n hx hb dX0_becomeRow_29 rfl (lv_at hl 0 rfl) ?_
        refine lv_lconst (v := 0) hx hb dX0_becomeRow_30 (by decide) ?_
        refine y_last5 (i := j + 9) hx hb hw (kd65l hj) (kd65 hj) (vp_in_nI (N := 12) (by omega) (by omega)) (k := i) (nI_clamp (by omega)) dX0_becomeRow_31 (fun H locs hw => ?_)
        refine lv_iinc (v := (nI (i + 1))) (lv' := [(3, .int (nI (i + 1))), (0, .ref (zl E j))]) hx hb dX0_becomeRow_32 hl (k := 0) rfl (nI_1 i) (by decide) rfl (fun ls hl => ?_)
        refine lv_goto (tgt := 19) hx hb dX0_becomeRow_35 (by decide) ?_
        rw [show 12 - i = (12 - (i + 1)) + 1 by omega] at hR
        exact ih (i + 1) (sJ c1 (j + 9) i 0) _ _ _ (by omega) (by omega) hR hw (lv_sub hl [0, 1] rfl)
  exact loop19 (12 + 1) 0 _ _ _ _ (by omega) (by omega) rfl hw (lv_sub hl [0, 1] rfl)
set_option maxHeartbeats 4000000 in
set_option maxRecDepth 100000 in
theorem k_X0_total (l : Launch) (E : zE) (c : zC) (mo : zM) (j : Nat) (hj : kd j = 6) (hp : plOk c j) : Met l yX0_total wsX0_total (zR 0 0) (zP E c mo [.ref (zl E j)]) (cQl E (fTot c j) c mo) 0 0 (zA E) := by
  refine z_ent (cc := cX0_total) (maxL := 4) (ret := (some .long)) (vs := [.ref (zl E j)]) (by decide) rfl (Nat.le_of_ble_eq_true rfl) ?_
  intro p e s m below meth cd ls hx hb hr hml hown hts hlocks hl hw
  have hl : lv_has ls 4 [(0, .ref (zl E j))] := hl
  have hown : s.vm.findClass RX0 = some m.cls := hown
  have hin0 : ∀ w ∈ u_ws RX0 TX0 4, w ∈ wsX0_total := by decide +kernel
  obtain ⟨hp1, hp2⟩ := hp
  refine lv_lconst (v := 0) hx hb dX0_total_0 (by decide) ?_
  refine lv_lstore_n (lv' := [(1, .long 0), (0, .ref (zl E j))]) hx hb dX0_total_1 rfl hl (by decide) rfl (fun ls hl => ?_)
  refine lv_iconst (v := 0) hx hb dX0_total_2 (by decide) ?_
  refine lv_istore_n (lv' := [(3, .int 0), (1, .long 0), (0, .ref (zl E j))]) hx hb dX0_total_3 rfl hl (by decide) rfl (fun ls hl => ?_)
  have loop4 : ∀ (n_ : Nat) (i : Nat) (a : Int64) (H : Heap) (locs : List Loc) (ls : Array Slot), pl c j - i < n_ → (i ≤ pl c j) → (sumN (c.2.1 (j + 9)) (pl c j - i) i a = fTot c j) → zW E c mo s s.heap H locs → lv_has ls 4 [(3, .int (nI i)), (1, .long a), (0, .ref (zl E j))] → W p l e (headSpec wsX0_total (zR 0 0)).room s m ([.ref (zl E j)] : List Value).toArray below meth cd H locs 0 0 (MQ below (cQl E (fTot c j) c mo) ([.ref (zl E j)] : List Value).toArray s 0 0 (zA E)) (F0 m 4 ls []) := by
    intro n_
    induction n_ with
    | zero => intro i a H locs ls hn_; exact absurd hn_ (Nat.not_lt_zero _)
    | succ n_ ih =>
      intro i a H locs ls hn_ hi hR hw hl
      refine lv_iload_n hx hb dX0_total_4 rfl (lv_at hl 0 rfl) ?_
      refine lv_aload_n hx hb dX0_total_5 rfl (lv_at hl 2 rfl) ?_
      refine z_get (i := j) hx hb hts hin0 hown hw (kd6l hj) (zG_6 hj) rfl 2 (by decide) (hts (.fieldLink RX0 22 "SeedDrawers$Content" "places" "I") (by decide +kernel)) rfl rfl dX0_total_6 ?_
      refine lv_icmp_ge (tgt := 27) hx hb dX0_total_9 (by decide) (fun q_1 => ?_) (fun q_1 => ?_)
      · have _ := hx
        rw [hp2] at q_1
        have hk : pl c j ≤ i := le_le q_1 (by omega) (by omega)
        rw [show pl c j - i = 0 by omega] at hR
        refine lv_lload_n hx hb dX0_total_27 rfl (lv_at hl 1 rfl) ?_
        exact z_lret hx hb hr hlocks hw dX0_total_28 (by exact hR) rfl rfl
      · have _ := hx
        rw [hp2] at q_1
        have hk : i < pl c j := nle_lt q_1 (by omega) (by omega)
        refine lv_lload_n hx hb dX0_total_12 rfl (lv_at hl 1 rfl) ?_
        refine lv_aload_n hx hb dX0_total_13 rfl (lv_at hl 2 rfl) ?_
        refine z_get (i := j) hx hb hts hin0 hown hw (kd6l hj) (zG_6 hj) rfl 3 (by decide) (hts (.fieldLink RX0 9 "SeedDrawers$Content" "values" "[J") (by decide +kernel)) rfl rfl dX0_total_14 ?_
        refine lv_iload_n hx hb dX0_total_17 rfl (lv_at hl 0 rfl) ?_
        refine y_lald (i := j + 9) hx hb hw (kd65l hj) (zG_5 (kd65 hj)) (vp_in_nI (by omega) (by omega)) (k := i) (nI_clamp (by omega)) dX0_total_18 ?_
        refine lv_ladd hx hb dX0_total_19 ?_
        refine lv_lstore_n (lv' := [(1, .long (a + (c.2.1 (j + 9) i))), (3, .int (nI i)), (0, .ref (zl E j))]) hx hb dX0_total_20 rfl hl (by decide) rfl (fun ls hl => ?_)
        refine lv_iinc (v := (nI (i + 1))) (lv' := [(3, .int (nI (i + 1))), (1, .long (a + (c.2.1 (j + 9) i))), (0, .ref (zl E j))]) hx hb dX0_total_21 hl (k := 1) rfl (nI_1 i) (by decide) rfl (fun ls hl => ?_)
        refine lv_goto (tgt := 4) hx hb dX0_total_24 (by decide) ?_
        rw [show pl c j - i = (pl c j - (i + 1)) + 1 by omega] at hR
        exact ih (i + 1) (a + (c.2.1 (j + 9) i)) _ _ _ (by omega) (by omega) hR hw (lv_sub hl [0, 1, 2] rfl)
  exact loop4 (pl c j + 1) 0 0 _ _ _ (by omega) (by omega) rfl hw (lv_sub hl [0, 1, 2] rfl)
set_option maxHeartbeats 4000000 in
set_option maxRecDepth 100000 in
theorem k_X0_firstPlaceOf (l : Launch) (E : zE) (c : zC) (mo : zM) (j : Nat) (k : Int32) (v : Int64) (hj : kd j = 6) (hp : plOk c j) : Met l yX0_firstPlaceOf wsX0_firstPlaceOf (zR 1 22) (zP E c mo [.ref (zl E j), .int k, .long v]) (cQi E (fFpl c j k v) c mo) 0 0 (zA E) := by
  refine z_ent (cc := cX0_firstPlaceOf) (maxL := 5) (ret := (some .int)) (vs := [.ref (zl E j), .int k, .long v]) (by decide) rfl (Nat.le_of_ble_eq_true rfl) ?_
  intro p e s m below meth cd ls hx hb hr hml hown hts hlocks hl hw
  have hl : lv_has ls 5 [(0, .ref (zl E j)), (1, .int k), (2, .long v)] := hl
  have hown : s.vm.findClass RX0 = some m.cls := hown
  have hin0 : ∀ w ∈ u_ws RX0 TX0 4, w ∈ wsX0_firstPlaceOf := by decide +kernel
  obtain ⟨hp1, hp2⟩ := hp
  refine lv_iconst (v := 0) hx hb dX0_firstPlaceOf_0 (by decide) ?_
  refine lv_istore (lv' := [(4, .int 0), (0, .ref (zl E j)), (1, .int k), (2, .long v)]) hx hb dX0_firstPlaceOf_1 hl (by decide) rfl (fun ls hl => ?_)
  have loop3 : ∀ (n_ : Nat) (i : Nat) (H : Heap) (locs : List Loc) (ls : Array Slot), pl c j - i < n_ → (i ≤ pl c j) → (fplN c j k v (pl c j - i) i = fFpl c j k v) → zW E c mo s s.heap H locs → lv_has ls 5 [(4, .int (nI i)), (0, .ref (zl E j)), (1, .int k), (2, .long v)] → W p l e (headSpec wsX0_firstPlaceOf (zR 1 22)).room s m ([.ref (zl E j), .int k, .long v] : List Value).toArray below meth cd H locs 0 0 (MQ below (cQi E (fFpl c j k v) c mo) ([.ref (zl E j), .int k, .long v] : List Value).toArray s 0 0 (zA E)) (F0 m 3 ls []) := by
    intro n_
    induction n_ with
    | zero => intro i H locs ls hn_; exact absurd hn_ (Nat.not_lt_zero _)
    | succ n_ ih =>
      intro i H locs ls hn_ hi hR hw hl
      refine lv_iload hx hb dX0_firstPlaceOf_3 (lv_at hl 0 rfl) ?_
      refine lv_aload_n hx hb dX0_firstPlaceOf_5 rfl (lv_at hl 1 rfl) ?_
      refine z_get (i := j) hx hb hts hin0 hown hw (kd6l hj) (zG_6 hj) rfl 2 (by decide) (hts (.fieldLink RX0 22 "SeedDrawers$Content" "places" "I") (by decide +kernel)) rfl rfl dX0_firstPlaceOf_6 ?_
      refine lv_icmp_ge (tgt := 43) hx hb dX0_firstPlaceOf_9 (by decide) (fun q_1 => ?_) (fun q_1 => ?_)
      · have _ := hx
        rw [hp2] at q_1
        have hk : pl c j ≤ i := le_le q_1 (by omega) (by omega)
        rw [show pl c j - i = 0 by omega] at hR
        refine lv_bipush (v := (-9)) hx hb dX0_firstPlaceOf_43 (by decide) ?_
        exact z_iret hx hb hr hlocks hw dX0_firstPlaceOf_45 (by exact hR) rfl rfl
      · have _ := hx
        rw [hp2] at q_1
        have hk : i < pl c j := nle_lt q_1 (by omega) (by omega)
        rw [show pl c j - i = (pl c j - (i + 1)) + 1 by omega] at hR
        refine lv_aload_n hx hb dX0_firstPlaceOf_12 rfl (lv_at hl 1 rfl) ?_
        refine lv_iload hx hb dX0_firstPlaceOf_13 (lv_at hl 0 rfl) ?_
        refine z_calli (rest := []) (va_runV (As := [.int (nI i)]) (rest := []) ⟨hx, hb, hml, hown, hts⟩ (k_X0_kindAt l E c mo j (nI i) hj (vp_in_nI (by omega) (by omega))) (cwV 1 hts gX0_firstPlaceOf_X0_kindAt rfl rfl rfl (by decide +kernel) ⟨Nat.le_of_ble_eq_true rfl, Nat.le_of_ble_eq_true rfl⟩) (z_preV hw (kd6l hj) (zG_6 hj) rfl [.int (nI i)]) rfl rfl hl.1 rfl (lv_room (Nat.le_of_ble_eq_true rfl)) dX0_firstPlaceOf_15 ⟨Nat.le_of_ble_eq_true rfl, Nat.le_of_ble_eq_true rfl⟩) hw (fun H locs hw => ?_)
        refine lv_iload_n hx hb dX0_firstPlaceOf_18 rfl (lv_at hl 2 rfl) ?_
        refine lv_icmp_ne (tgt := 37) hx hb dX0_firstPlaceOf_19 (by decide) (fun q_2 => ?_) (fun q_2 => ?_)
        · have _ := hx
          refine lv_iinc (v := (nI (i + 1))) (lv' := [(4, .int (nI (i + 1))), (0, .ref (zl E j)), (1, .int k), (2, .long v)]) hx hb dX0_firstPlaceOf_37 hl (k := 0) rfl (nI_1 i) (by decide) rfl (fun ls hl => ?_)
          refine lv_goto (tgt := 3) hx hb dX0_firstPlaceOf_40 (by decide) ?_
          exact ih (i + 1) _ _ _ (by omega) (by omega) (by simpa [fplN, q_2] using hR) hw (lv_sub hl [0, 1, 2, 3] rfl)
        · have _ := hx
          refine lv_aload_n hx hb dX0_firstPlaceOf_22 rfl (lv_at hl 1 rfl) ?_
          refine z_get (i := j) hx hb hts hin0 hown hw (kd6l hj) (zG_6 hj) rfl 3 (by decide) (hts (.fieldLink RX0 9 "SeedDrawers$Content" "values" "[J") (by decide +kernel)) rfl rfl dX0_firstPlaceOf_23 ?_
          refine lv_iload hx hb dX0_firstPlaceOf_26 (lv_at hl 0 rfl) ?_
          refine y_lald (i := j + 9) hx hb hw (kd65l hj) (zG_5 (kd65 hj)) (vp_in_nI (by omega) (by omega)) (k := i) (nI_clamp (by omega)) dX0_firstPlaceOf_28 ?_
          refine lv_lload_n hx hb dX0_firstPlaceOf_29 rfl (lv_at hl 3 rfl) ?_
          refine W.lcmp hx hb dX0_firstPlaceOf_30 ?_
          refine lv_if_ne (tgt := 37) hx hb dX0_firstPlaceOf_31 (by decide) (fun q_3 => ?_) (fun q_3 => ?_)
          · have _ := hx
            refine lv_iinc (v := (nI (i + 1))) (lv' := [(4, .int (nI (i + 1))), (0, .ref (zl E j)), (1, .int k), (2, .long v)]) hx hb dX0_firstPlaceOf_37 hl (k := 0) rfl (nI_1 i) (by decide) rfl (fun ls hl => ?_)
            refine lv_goto (tgt := 3) hx hb dX0_firstPlaceOf_40 (by decide) ?_
            exact ih (i + 1) _ _ _ (by omega) (by omega) (by simpa [fplN, q_2, q_3] using hR) hw (lv_sub hl [0, 1, 2, 3] rfl)
          · have _ := hx
            refine lv_iload hx hb dX0_firstPlaceOf_34 (lv_at hl 0 rfl) ?_
            exact z_iret hx hb hr hlocks hw dX0_firstPlaceOf_36 (by simpa [fplN, q_2, q_3] using hR) rfl rfl
  exact loop3 (pl c j + 1) 0 _ _ _ (by omega) (by omega) rfl hw (lv_sub hl [0, 1, 2, 3] rfl)
set_option maxHeartbeats 4000000 in
set_option maxRecDepth 100000 in
theorem k_X0_reverse (l : Launch) (E : zE) (c : zC) (mo : zM) (j : Nat) (hj : kd j = 6) (hp : plOk c j) : Met l yX0_reverse wsX0_reverse (zR 0 0) (zP E c mo [.ref (zl E j)]) (cQi E (c.1 j 2 / 2) (fRev c j) mo) 0 0 (zA E) := by
  refine z_ent (cc := cX0_reverse) (maxL := 5) (ret := (some .int)) (vs := [.ref (zl E j)]) (by decide) rfl (Nat.le_of_ble_eq_true rfl) ?_
  intro p e s m below meth cd ls hx hb hr hml hown hts hlocks hl hw
  have hl : lv_has ls 5 [(0, .ref (zl E j))] := hl
  have hown : s.vm.findClass RX0 = some m.cls := hown
  have hin0 : ∀ w ∈ u_ws RX0 TX0 4, w ∈ wsX0_reverse := by decide +kernel
  obtain ⟨hp1, hp2⟩ := hp
  have hpd : c.1 j 2 / 2 = nI (pl c j / 2) := by rw [hp2]; exact pk_div (a := pl c j) (d := 2) (by omega) (by omega) (by omega)
  refine lv_aload_n hx hb dX0_reverse_0 rfl (lv_at hl 0 rfl) ?_
  refine z_get (i := j) hx hb hts hin0 hown hw (kd6l hj) (zG_6 hj) rfl 2 (by decide) (hts (.fieldLink RX0 22 "SeedDrawers$Content" "places" "I") (by decide +kernel)) rfl rfl dX0_reverse_1 ?_
  refine lv_iconst (v := 2) hx hb dX0_reverse_4 (by decide) ?_
  refine lv_idiv hx hb dX0_reverse_5 (by decide) ?_
  refine lv_istore_n (lv' := [(1, .int ((c.1 j 2) / 2)), (0, .ref (zl E j))]) hx hb dX0_reverse_6 rfl hl (by decide) rfl (fun ls hl => ?_)
  refine lv_iconst (v := 0) hx hb dX0_reverse_7 (by decide) ?_
  refine lv_istore_n (lv' := [(2, .int 0), (1, .int ((c.1 j 2) / 2)), (0, .ref (zl E j))]) hx hb dX0_reverse_8 rfl hl (by decide) rfl (fun ls hl => ?_)
  have loop9 : ∀ (n_ : Nat) (k : Nat) (c1 : zC) (H : Heap) (locs : List Loc) (ls : Array Slot), pl c j / 2 - k < n_ → (k ≤ pl c j / 2) → (c1.1 j 2 = nI (pl c j)) → (revN j (pl c j) (pl c j / 2 - k) k c1 = fRev c j) → zW E c1 mo s s.heap H locs → lv_has ls 5 [(2, .int (nI k)), (1, .int (c.1 j 2 / 2)), (0, .ref (zl E j))] → W p l e (headSpec wsX0_reverse (zR 0 0)).room s m ([.ref (zl E j)] : List Value).toArray below meth cd H locs 0 0 (MQ below (cQi E (c.1 j 2 / 2) (fRev c j) mo) ([.ref (zl E j)] : List Value).toArray s 0 0 (zA E)) (F0 m 9 ls []) := by
    intro n_
    induction n_ with
    | zero => intro k c1 H locs ls hn_; exact absurd hn_ (Nat.not_lt_zero _)
    | succ n_ ih =>
      intro k c1 H locs ls hn_ hi hq hR hw hl
      refine lv_iload_n hx hb dX0_reverse_9 rfl (lv_at hl 0 rfl) ?_
      refine lv_iload_n hx hb dX0_reverse_10 rfl (lv_at hl 1 rfl) ?_
      refine lv_icmp_ge (tgt := 60) hx hb dX0_reverse_11 (by decide) (fun q_1 => ?_) (fun q_1 => ?_)
      · have _ := hx
        rw [hpd] at q_1
        have hk : pl c j / 2 ≤ k := le_le q_1 (by omega) (by omega)
        rw [show pl c j / 2 - k = 0 by omega] at hR
        refine lv_iload_n hx hb dX0_reverse_60 rfl (lv_at hl 1 rfl) ?_
        exact z_iret hx hb hr hlocks hw dX0_reverse_61 (by rfl) (by exact hR) rfl
      · have _ := hx
        rw [hpd] at q_1
        have hk : k < pl c j / 2 := nle_lt q_1 (by omega) (by omega)
        refine lv_aload_n hx hb dX0_reverse_14 rfl (lv_at hl 2 rfl) ?_
        refine z_get (i := j) hx hb hts hin0 hown hw (kd6l hj) (zG_6 hj) rfl 3 (by decide) (hts (.fieldLink RX0 9 "SeedDrawers$Content" "values" "[J") (by decide +kernel)) rfl rfl dX0_reverse_15 ?_
        refine lv_iload_n hx hb dX0_reverse_18 rfl (lv_at hl 0 rfl) ?_
        refine y_lald (i := j + 9) hx hb hw (kd65l hj) (zG_5 (kd65 hj)) (vp_in_nI (by omega) (by omega)) (k := k) (nI_clamp (by omega)) dX0_reverse_19 ?_
        refine lv_lstore_n (lv' := [(3, .long (c1.2.1 (j + 9) k)), (2, .int (nI k)), (1, .int (c.1 j 2 / 2)), (0, .ref (zl E j))]) hx hb dX0_reverse_20 rfl hl (by decide) rfl (fun ls hl => ?_)
        refine lv_aload_n hx hb dX0_reverse_21 rfl (lv_at hl 3 rfl) ?_
        refine z_get (i := j) hx hb hts hin0 hown hw (kd6l hj) (zG_6 hj) rfl 3 (by decide) (hts (.fieldLink RX0 9 "SeedDrawers$Content" "values" "[J") (by decide +kernel)) rfl rfl dX0_reverse_22 ?_
        refine lv_iload_n hx hb dX0_reverse_25 rfl (lv_at hl 1 rfl) ?_
        refine lv_aload_n hx hb dX0_reverse_26 rfl (lv_at hl 3 rfl) ?_
        refine z_get (i := j) hx hb hts hin0 hown hw (kd6l hj) (zG_6 hj) rfl 3 (by decide) (hts (.fieldLink RX0 9 "SeedDrawers$Content" "values" "[J") (by decide +kernel)) rfl rfl dX0_reverse_27 ?_
        refine lv_aload_n hx hb dX0_reverse_30 rfl (lv_at hl 3 rfl) ?_
        refine z_get (i := j) hx hb hts hin0 hown hw (kd6l hj) (zG_6 hj) rfl 2 (by decide) (hts (.fieldLink RX0 22 "SeedDrawers$Content" "places" "I") (by decide +kernel)) rfl rfl dX0_reverse_31 ?_
        refine lv_iconst (v := 1) hx hb dX0_reverse_34 (by decide) ?_
        refine lv_isub hx hb dX0_reverse_35 ?_
        refine lv_iload_n hx hb dX0_reverse_36 rfl (lv_at hl 1 rfl) ?_
        refine lv_isub hx hb dX0_reverse_37 ?_
        refine y_lald (i := j + 9) hx hb hw (kd65l hj) (zG_5 (kd65 hj)) (rv_in hq (by omega) (by omega)) (k := (pl c j - 1 - k)) (rv_k hq (by omega) (by omega)) dX0_reverse_38 ?_
        refine y_last5 (i := j + 9) hx hb hw (kd65l hj) (kd65 hj) (vp_in_nI (by omega) (by omega)) (k := k) (nI_clamp (by omega)) dX0_reverse_39 (fun H locs hw => ?_)
        refine lv_aload_n hx hb dX0_reverse_40 rfl (lv_at hl 3 rfl) ?_
        refine z_get (i := j) hx hb hts hin0 hown hw (kd6l hj) (zG_6 hj) rfl 3 (by decide) (hts (.fieldLink RX0 9 "SeedDrawers$Content" "values" "[J") (by decide +kernel)) rfl rfl dX0_reverse_41 ?_
        refine lv_aload_n hx hb dX0_reverse_44 rfl (lv_at hl 3 rfl) ?_
        refine z_get (i := j) hx hb hts hin0 hown hw (kd6l hj) (zG_6 hj) rfl 2 (by decide) (hts (.fieldLink RX0 22 "SeedDrawers$Content" "places" "I") (by decide +kernel)) rfl rfl dX0_reverse_45 ?_
        refine lv_iconst (v := 1) hx hb dX0_reverse_48 (by decide) ?_
        refine lv_isub hx hb dX0_reverse_49 ?_
        refine lv_iload_n hx hb dX0_reverse_50 rfl (lv_at hl 1 rfl) ?_
        refine lv_isub hx hb dX0_reverse_51 ?_
        refine lv_lload_n hx hb dX0_reverse_52 rfl (lv_at hl 0 rfl) ?_
        refine y_last5 (i := j + 9) hx hb hw (kd65l hj) (kd65 hj) (rv_in hq (by omega) (by omega)) (k := (pl c j - 1 - k)) (rv_k hq (by omega) (by omega)) dX0_reverse_53 (fun H locs hw => ?_)
        refine lv_iinc (v := (nI (k + 1))) (lv' := [(2, .int (nI (k + 1))), (3, .long (c1.2.1 (j + 9) k)), (1, .int (c.1 j 2 / 2)), (0, .ref (zl E j))]) hx hb dX0_reverse_54 hl (k := 1) rfl (nI_1 k) (by decide) rfl (fun ls hl => ?_)
        refine lv_goto (tgt := 9) hx hb dX0_reverse_57 (by decide) ?_
        rw [show pl c j / 2 - k = (pl c j / 2 - (k + 1)) + 1 by omega] at hR
        exact ih (k + 1) (sJ (sJ c1 (j + 9) k (c1.2.1 (j + 9) (pl c j - 1 - k))) (j + 9) (pl c j - 1 - k) (c1.2.1 (j + 9) k)) _ _ _ (by omega) (by omega) hq hR hw (lv_sub hl [0, 2, 3] rfl)
  exact loop9 (pl c j / 2 + 1) 0 c _ _ _ (by omega) (by omega) hp2 rfl hw (lv_sub hl [0, 1, 2] rfl)
set_option maxHeartbeats 4000000 in
set_option maxRecDepth 100000 in
theorem k_X2_holdersOf (l : Launch) (E : zE) (c : zC) (mo : zM) (j : Nat) (hj : kd j = 6) (hD : ∀ k, k < 8 → kd (c.2.2 k) = 6) : Met l yX2_holdersOf wsX2_holdersOf (zR 0 0) (zP E c mo [.ref (zl E 0), .ref (zl E j)]) (cQi E (fHol c j) c mo) 0 0 (zA E) := by
  refine z_ent (cc := cX2_holdersOf) (maxL := 4) (ret := (some .int)) (vs := [.ref (zl E 0), .ref (zl E j)]) (by decide) rfl (Nat.le_of_ble_eq_true rfl) ?_
  intro p e s m below meth cd ls hx hb hr hml hown hts hlocks hl hw
  have hl : lv_has ls 4 [(0, .ref (zl E 0)), (1, .ref (zl E j))] := hl
  have hown : s.vm.findClass RX2 = some m.cls := hown
  have hin2 : ∀ w ∈ u_ws RX2 TX2 12, w ∈ wsX2_holdersOf := by decide +kernel
  refine lv_iconst (v := 0) hx hb dX2_holdersOf_0 (by decide) ?_
  refine lv_istore_n (lv' := [(2, .int 0), (0, .ref (zl E 0)), (1, .ref (zl E j))]) hx hb dX2_holdersOf_1 rfl hl (by decide) rfl (fun ls hl => ?_)
  refine lv_iconst (v := 0) hx hb dX2_holdersOf_2 (by decide) ?_
  refine lv_istore_n (lv' := [(3, .int 0), (2, .int 0), (0, .ref (zl E 0)), (1, .ref (zl E j))]) hx hb dX2_holdersOf_3 rfl hl (by decide) rfl (fun ls hl => ?_)
  have loop4 : ∀ (n_ : Nat) (k : Nat) (a : Int32) (H : Heap) (locs : List Loc) (ls : Array Slot), 8 - k < n_ → (k ≤ 8) → (holN c.2.2 j (8 - k) k a = fHol c j) → zW E c mo s s.heap H locs → lv_has ls 4 [(3, .int (nI k)), (2, .int a), (0, .ref (zl E 0)), (1, .ref (zl E j))] → W p l e (headSpec wsX2_holdersOf (zR 0 0)).room s m ([.ref (zl E 0), .ref (zl E j)] : List Value).toArray below meth cd H locs 0 0 (MQ below (cQi E (fHol c j) c mo) ([.ref (zl E 0), .ref (zl E j)] : List Value).toArray s 0 0 (zA E)) (F0 m 4 ls []) := by
    intro n_
    induction n_ with
    | zero => intro k a H locs ls hn_; exact absurd hn_ (Nat.not_lt_zero _)
    | succ n_ ih =>
      intro k a H locs ls hn_ hi hR hw hl
      refine lv_iload_n hx hb dX2_holdersOf_4 rfl (lv_at hl 0 rfl) ?_
      refine lv_bipush (v := 8) hx hb dX2_holdersOf_5 (by decide) ?_
      refine lv_icmp_ge (tgt := 29) hx hb dX2_holdersOf_7 (by decide) (fun q_1 => ?_) (fun q_1 => ?_)
      · have _ := hx
        have hk : 8 ≤ k := le_le (b := 8) q_1 (by omega) (by omega)
        rw [show 8 - k = 0 by omega] at hR
        refine lv_iload_n hx hb dX2_holdersOf_29 rfl (lv_at hl 1 rfl) ?_
        exact z_iret hx hb hr hlocks hw dX2_holdersOf_30 (by exact hR) rfl rfl
      · have _ := hx
        have hk : k < 8 := nle_lt (b := 8) q_1 (by omega) (by omega)
        rw [show 8 - k = (8 - (k + 1)) + 1 by omega] at hR
        refine lv_aload_n hx hb dX2_holdersOf_10 rfl (lv_at hl 2 rfl) ?_
        refine z_get (i := 0) hx hb hts hin2 hown hw (by decide) zG_0 rfl 1 (by decide) (hts (.fieldLink RX2 16 "SeedDrawers" "drawers" "[LSeedDrawers$Content;") (by decide +kernel)) rfl rfl dX2_holdersOf_11 ?_
        refine lv_iload_n hx hb dX2_holdersOf_14 rfl (lv_at hl 0 rfl) ?_
        refine y_aald1 hx hb hw (vp_in_nI (by omega) (by omega)) (k := k) (nI_clamp (by omega)) dX2_holdersOf_15 ?_
        have hf_2 : kd (c.2.2 k) = 6 := hD k (by omega)
        refine lv_aload_n hx hb dX2_holdersOf_16 rfl (lv_at hl 3 rfl) ?_
        refine z_acmpne (tgt := 23) hx hb hw (kd6l hf_2) (kd6l hj) dX2_holdersOf_17 (by decide) (fun q_3 => ?_) (fun q_3 => ?_)
        · have _ := hx
          refine lv_iinc (v := (nI (k + 1))) (lv' := [(3, .int (nI (k + 1))), (2, .int a), (0, .ref (zl E 0)), (1, .ref (zl E j))]) hx hb dX2_holdersOf_23 hl (k := 0) rfl (nI_1 k) (by decide) rfl (fun ls hl => ?_)
          refine lv_goto (tgt := 4) hx hb dX2_holdersOf_26 (by decide) ?_
          exact ih (k + 1) a _ _ _ (by omega) (by omega) (by simpa [holN, q_3] using hR) hw (lv_sub hl [0, 1, 2, 3] rfl)
        · have _ := hx
          refine lv_iinc (v := (a + 1)) (lv' := [(2, .int (a + 1)), (3, .int (nI k)), (0, .ref (zl E 0)), (1, .ref (zl E j))]) hx hb dX2_holdersOf_20 hl (k := 1) rfl rfl (by decide) rfl (fun ls hl => ?_)
          refine lv_iinc (v := (nI (k + 1))) (lv' := [(3, .int (nI (k + 1))), (2, .int (a + 1)), (0, .ref (zl E 0)), (1, .ref (zl E j))]) hx hb dX2_holdersOf_23 hl (k := 1) rfl (nI_1 k) (by decide) rfl (fun ls hl => ?_)
          refine lv_goto (tgt := 4) hx hb dX2_holdersOf_26 (by decide) ?_
          exact ih (k + 1) (a + 1) _ _ _ (by omega) (by omega) (by simpa [holN, q_3] using hR) hw (lv_sub hl [0, 1, 2, 3] rfl)
  exact loop4 (8 + 1) 0 0 _ _ _ (by omega) (by omega) rfl hw (lv_sub hl [0, 1, 2, 3] rfl)
set_option maxHeartbeats 4000000 in
set_option maxRecDepth 100000 in
theorem k_X2_newContent (l : Launch) (E : zE) (c : zC) (mo : zM) (d : Int32) (hd : vp_in d 8) (hD : ∀ k, k < 8 → kd (c.2.2 k) = 6) : Met l yX2_newContent wsX2_newContent (zR 1 23) (zP E c mo [.ref (zl E 0), .int d]) (cQr E (nFree c d.toNatClampNeg) (newC c d.toNatClampNeg) mo) 0 0 (zA E) := by
  refine z_ent (cc := cX2_newContent) (maxL := 4) (ret := (some (.object "SeedDrawers$Content"))) (vs := [.ref (zl E 0), .int d]) (by decide) rfl (Nat.le_of_ble_eq_true rfl) ?_
  intro p e s m below meth cd ls hx hb hr hml hown hts hlocks hl hw
  have hl : lv_has ls 4 [(0, .ref (zl E 0)), (1, .int d)] := hl
  have hown : s.vm.findClass RX2 = some m.cls := hown
  have hin2 : ∀ w ∈ u_ws RX2 TX2 12, w ∈ wsX2_newContent := by decide +kernel
  have hD2 : ∀ k, k < 8 → kd ((sD c d.toNatClampNeg 6).2.2 k) = 6 := by
    intro k hk
    by_cases hq : k = d.toNatClampNeg
    · rw [hq]; simp [sD, va_up, kd]
    · simp only [sD, va_up_ne _ _ hq]; exact hD k hk
  refine lv_aload_n hx hb dX2_newContent_0 rfl (lv_at hl 0 rfl) ?_
  refine z_get (i := 0) hx hb hts hin2 hown hw (by decide) zG_0 rfl 1 (by decide) (hts (.fieldLink RX2 16 "SeedDrawers" "drawers" "[LSeedDrawers$Content;") (by decide +kernel)) rfl rfl dX2_newContent_1 ?_
  refine lv_iload_n hx hb dX2_newContent_4 rfl (lv_at hl 1 rfl) ?_
  refine lv_aload_n hx hb dX2_newContent_5 rfl (lv_at hl 0 rfl) ?_
  refine z_get (i := 0) hx hb hts hin2 hown hw (by decide) zG_0 rfl 0 (by decide) (hts (.fieldLink RX2 10 "SeedDrawers" "nothing" "LSeedDrawers$Content;") (by decide +kernel)) rfl rfl dX2_newContent_6 ?_
  refine y_aast1 (j := 6) hx hb hw (by decide) hd (k := d.toNatClampNeg) rfl dX2_newContent_9 (fun H locs hw => ?_)
  refine lv_aload_n hx hb dX2_newContent_10 rfl (lv_at hl 0 rfl) ?_
  refine z_get (i := 0) hx hb hts hin2 hown hw (by decide) zG_0 rfl 2 (by decide) (hts (.fieldLink RX2 20 "SeedDrawers" "contents" "[LSeedDrawers$Content;") (by decide +kernel)) rfl rfl dX2_newContent_11 ?_
  refine lv_iconst (v := 0) hx hb dX2_newContent_14 (by decide) ?_
  refine y_aald2 hx hb hw (vp_in_iff.mpr (by decide)) (k := 0) rfl dX2_newContent_15 ?_
  have hf_1 : kd (7 + 0) = 6 := (by decide)
  refine lv_astore_n (lv' := [(2, .ref (zl E (7 + 0))), (0, .ref (zl E 0)), (1, .int d)]) hx hb dX2_newContent_16 rfl hl (by decide) rfl (fun ls hl => ?_)
  refine lv_iconst (v := 1) hx hb dX2_newContent_17 (by decide) ?_
  refine lv_istore_n (lv' := [(3, .int 1), (2, .ref (zl E (7 + 0))), (0, .ref (zl E 0)), (1, .int d)]) hx hb dX2_newContent_18 rfl hl (by decide) rfl (fun ls hl => ?_)
  have loop19 : ∀ (n_ : Nat) (k : Nat) (f : Nat) (H : Heap) (locs : List Loc) (ls : Array Slot), 8 - k < n_ → (k ≤ 8 ∧ 1 ≤ k) → (kd f = 6) → (freN (sD c d.toNatClampNeg 6) (8 - k) k f = nFree c d.toNatClampNeg) → zW E (sD c d.toNatClampNeg 6) mo s s.heap H locs → lv_has ls 4 [(3, .int (nI k)), (2, .ref (zl E f)), (0, .ref (zl E 0)), (1, .int d)] → W p l e (headSpec wsX2_newContent (zR 1 23)).room s m ([.ref (zl E 0), .int d] : List Value).toArray below meth cd H locs 0 0 (MQ below (cQr E (nFree c d.toNatClampNeg) (newC c d.toNatClampNeg) mo) ([.ref (zl E 0), .int d] : List Value).toArray s 0 0 (zA E)) (F0 m 19 ls []) := by
    intro n_
    induction n_ with
    | zero => intro k f H locs ls hn_; exact absurd hn_ (Nat.not_lt_zero _)
    | succ n_ ih =>
      intro k f H locs ls hn_ hi hf hR hw hl
      refine lv_iload_n hx hb dX2_newContent_19 rfl (lv_at hl 0 rfl) ?_
      refine lv_bipush (v := 8) hx hb dX2_newContent_20 (by decide) ?_
      refine lv_icmp_ge (tgt := 51) hx hb dX2_newContent_22 (by decide) (fun q_2 => ?_) (fun q_2 => ?_)
      · have _ := hx
        have hk : 8 ≤ k := le_le (b := 8) q_2 (by omega) (by omega)
        rw [show 8 - k = 0 by omega] at hR
        refine lv_aload_n hx hb dX2_newContent_51 rfl (lv_at hl 2 rfl) ?_
        refine z_get (i := 0) hx hb hts hin2 hown hw (by decide) zG_0 rfl 1 (by decide) (hts (.fieldLink RX2 16 "SeedDrawers" "drawers" "[LSeedDrawers$Content;") (by decide +kernel)) rfl rfl dX2_newContent_52 ?_
        refine lv_iload_n hx hb dX2_newContent_55 rfl (lv_at hl 3 rfl) ?_
        refine lv_aload_n hx hb dX2_newContent_56 rfl (lv_at hl 1 rfl) ?_
        refine y_aast1 (j := f) hx hb hw hf hd (k := d.toNatClampNeg) rfl dX2_newContent_57 (fun H locs hw => ?_)
        refine lv_aload_n hx hb dX2_newContent_58 rfl (lv_at hl 1 rfl) ?_
        exact z_rret hx hb hr ⟨_, rfl⟩ hlocks hw dX2_newContent_59 (by exact hR) (by rw [newC, ← show f = nFree c d.toNatClampNeg from hR]) rfl
      · have _ := hx
        have hk : k < 8 := nle_lt (b := 8) q_2 (by omega) (by omega)
        rw [show 8 - k = (8 - (k + 1)) + 1 by omega] at hR
        refine lv_aload_n hx hb dX2_newContent_25 rfl (lv_at hl 2 rfl) ?_
        refine lv_aload_n hx hb dX2_newContent_26 rfl (lv_at hl 2 rfl) ?_
        refine z_get (i := 0) hx hb hts hin2 hown hw (by decide) zG_0 rfl 2 (by decide) (hts (.fieldLink RX2 20 "SeedDrawers" "contents" "[LSeedDrawers$Content;") (by decide +kernel)) rfl rfl dX2_newContent_27 ?_
        refine lv_iload_n hx hb dX2_newContent_30 rfl (lv_at hl 0 rfl) ?_
        refine y_aald2 hx hb hw (vp_in_nI (by omega) (by omega)) (k := k) (nI_clamp (by omega)) dX2_newContent_31 ?_
        have hf_3 : kd (7 + k) = 6 := kd6o (by omega) (by omega)
        refine z_calli (rest := []) (va_runV (As := [.ref (zl E (7 + k))]) (rest := []) ⟨hx, hb, hml, hown, hts⟩ (k_X2_holdersOf l E (sD c d.toNatClampNeg 6) mo (7 + k) hf_3 hD2) (cwV 1 hts gX2_newContent_X2_holdersOf rfl rfl rfl (by decide +kernel) ⟨Nat.le_of_ble_eq_true rfl, Nat.le_of_ble_eq_true rfl⟩) (z_preV hw (by decide) zG_0 rfl [.ref (zl E (7 + k))]) rfl rfl hl.1 rfl (lv_room (Nat.le_of_ble_eq_true rfl)) dX2_newContent_32 ⟨Nat.le_of_ble_eq_true rfl, Nat.le_of_ble_eq_true rfl⟩) hw (fun H locs hw => ?_)
        refine lv_if_ne (tgt := 45) hx hb dX2_newContent_35 (by decide) (fun q_4 => ?_) (fun q_4 => ?_)
        · have _ := hx
          refine lv_iinc (v := (nI (k + 1))) (lv' := [(3, .int (nI (k + 1))), (2, .ref (zl E f)), (0, .ref (zl E 0)), (1, .int d)]) hx hb dX2_newContent_45 hl (k := 0) rfl (nI_1 k) (by decide) rfl (fun ls hl => ?_)
          refine lv_goto (tgt := 19) hx hb dX2_newContent_48 (by decide) ?_
          exact ih (k + 1) f _ _ _ (by omega) (by omega) hf (by simpa [freN, q_4] using hR) hw (lv_sub hl [0, 1, 2, 3] rfl)
        · have _ := hx
          refine lv_aload_n hx hb dX2_newContent_38 rfl (lv_at hl 2 rfl) ?_
          refine z_get (i := 0) hx hb hts hin2 hown hw (by decide) zG_0 rfl 2 (by decide) (hts (.fieldLink RX2 20 "SeedDrawers" "contents" "[LSeedDrawers$Content;") (by decide +kernel)) rfl rfl dX2_newContent_39 ?_
          refine lv_iload_n hx hb dX2_newContent_42 rfl (lv_at hl 0 rfl) ?_
          refine y_aald2 hx hb hw (vp_in_nI (by omega) (by omega)) (k := k) (nI_clamp (by omega)) dX2_newContent_43 ?_
          refine lv_astore_n (lv' := [(2, .ref (zl E (7 + k))), (3, .int (nI k)), (0, .ref (zl E 0)), (1, .int d)]) hx hb dX2_newContent_44 rfl hl (by decide) rfl (fun ls hl => ?_)
          refine lv_iinc (v := (nI (k + 1))) (lv' := [(3, .int (nI (k + 1))), (2, .ref (zl E (7 + k))), (0, .ref (zl E 0)), (1, .int d)]) hx hb dX2_newContent_45 hl (k := 1) rfl (nI_1 k) (by decide) rfl (fun ls hl => ?_)
          refine lv_goto (tgt := 19) hx hb dX2_newContent_48 (by decide) ?_
          exact ih (k + 1) (7 + k) _ _ _ (by omega) (by omega) hf_3 (by simpa [freN, q_4] using hR) hw (lv_sub hl [0, 1, 2, 3] rfl)
  exact loop19 (7 + 1) 1 7 _ _ _ (by omega) (by omega) (by decide) rfl hw (lv_sub hl [0, 1, 2, 3] rfl)
end
section
def wfC (c : zC) : Prop := (∀ k, k < 8 → kd (c.2.2 k) = 6) ∧ (∀ j, kd j = 6 → plOk c j) ∧ (∃ n, n ≤ 8 ∧ c.1 0 7 = nI n) ∧ (∃ n, n ≤ 8 ∧ c.1 0 9 = nI n)
theorem in_lt {x : Int32} {n : Nat} (h : vp_in x n) : x.toNatClampNeg < n := Nat.not_le.mp fun q => h (Or.inr q)
theorem in_mono {x : Int32} {n k : Nat} (h : vp_in x n) (hk : n ≤ k) : vp_in x k := fun q => h (q.elim Or.inl (fun z => Or.inr (by omega)))
theorem fRow_5 (c : zC) (j : Nat) : vp_in (fRow c j) 5 := by
  unfold fRow
  (repeat' split) <;> exact vp_in_iff.mpr (by decide)
theorem fCome_5 (c : zC) (j : Nat) (i : Int32) : vp_in (fCome c j i) 5 := by
  unfold fCome
  (repeat' split) <;> first | exact vp_in_iff.mpr (by decide) | exact fRow_5 c j
theorem fLay_5 (c : zC) (j : Nat) (i k : Int32) : vp_in (fLay c j i k) 5 := by
  unfold fLay
  (repeat' split) <;> first | exact vp_in_iff.mpr (by decide) | exact fCome_5 c j i
theorem fCome_pl {c : zC} {j : Nat} {i : Int32} (h : fCome c j i = 0) (hp : plOk c j) : vp_in i (pl c j) := by
  unfold fCome at h
  split at h
  · split at h
    · exact absurd h (by decide)
    · split at h
      · rename_i h0 h1 h2
        rw [hp.2, Int32.lt_iff_toInt_lt, nI_toInt (by have := hp.1; omega)] at h2
        have e1 : ¬ i.toInt < 0 := fun q => h1 (Int32.lt_iff_toInt_lt.mpr q)
        exact vp_in_iff.mpr ⟨by omega, h2⟩
      · exact absurd h (by decide)
  · contradiction
theorem fCome_in {c : zC} {j : Nat} {i : Int32} (h : fCome c j i = 0) (hp : plOk c j) : vp_in i 12 := in_mono (fCome_pl h hp) hp.1
theorem fLay_come {c : zC} {j : Nat} {i k : Int32} (h : fLay c j i k = 0) : fCome c j i = 0 := by
  unfold fLay at h
  split at h
  · assumption
  · contradiction
theorem fLay_in {c : zC} {j : Nat} {i k : Int32} (h : fLay c j i k = 0) (hp : plOk c j) : vp_in i 12 := fCome_in (fLay_come h) hp
abbrev cj (c : zC) (d : Int32) : Nat := c.2.2 d.toNatClampNeg
def rRow (d k n : Int32) : Int32 := if isDr d = 0 then -1 else if k < 0 then -2 else if 6 < k then -2 else if n < 0 then -2 else if n ≤ 12 then n else -2
def sRow (c : zC) (d k n : Int32) : zC := if isDr d = 0 then c else if k < 0 then c else if 6 < k then c else if n < 0 then c else if n ≤ 12 then bRow (newC c d.toNatClampNeg) (nFree c d.toNatClampNeg) k n else c
def rNote (d : Int32) : Int32 := if isDr d = 0 then -1 else 1
def sNote (c : zC) (d v : Int32) : zC := if isDr d = 0 then c else bNote (newC c d.toNatClampNeg) (nFree c d.toNatClampNeg) v
def rShare (d f : Int32) : Int32 := if isDr d = 0 then -1 else if isDr f = 0 then -1 else 1
def sShare (c : zC) (d f : Int32) : zC := if isDr d = 0 then c else if isDr f = 0 then c else sD c d.toNatClampNeg (cj c f)
def rClear (c : zC) (d : Int32) : Int32 := if isDr d = 0 then -1 else if cj c d = 6 then 0 else 1
def sClear (c : zC) (d : Int32) : zC := if isDr d = 0 then c else sD c d.toNatClampNeg 6
def rThink (k : Int32) : Int32 := if k < 0 then -2 else if k ≤ 5 then 1 else -2
def sThink (c : zC) (k : Int32) (v : Int64) : zC := if k < 0 then c else if k ≤ 5 then hold c k (fVok k v) else c
def rCard (c : zC) : Int32 := if c.1 0 5 < 30 then c.1 0 5 + 1 else -3
def sCard (c : zC) : zC := if c.1 0 5 < 30 then hold (sI c 0 5 (c.1 0 5 + 1)) 6 (c.1 0 5 + 1).toInt64 else c
def rTake (c : zC) (d i : Int32) : Int32 := if isDr d = 0 then -1 else if fCome c (cj c d) i = 0 then fKind c (cj c d) i else -10 - fCome c (cj c d) i
def sTake (c : zC) (d i : Int32) : zC := if isDr d = 0 then c else if fCome c (cj c d) i = 0 then hold c (fKind c (cj c d) i) (c.2.1 (cj c d + 9) i.toNatClampNeg) else meet c (fCome c (cj c d) i)
def rLay (c : zC) (d i : Int32) : Int32 := if isDr d = 0 then -1 else if c.1 0 3 = -9 then -3 else if fLay c (cj c d) i (c.1 0 3) = 0 then 1 else -10 - fLay c (cj c d) i (c.1 0 3)
def sLay (c : zC) (d i : Int32) : zC := if isDr d = 0 then c else if c.1 0 3 = -9 then c else if fLay c (cj c d) i (c.1 0 3) = 0 then sJ c (cj c d + 9) i.toNatClampNeg (c.2.1 0 4) else meet c (fLay c (cj c d) i (c.1 0 3))
def sFau (c : zC) (d : Int32) : zC := if isDr d = 0 then c else if fRow c (cj c d) = 0 then c else meet c (fRow c (cj c d))
def rSize (c : zC) (d : Int32) : Int32 := if isDr d = 0 then -1 else if fRow c (cj c d) = 0 then c.1 (cj c d) 2 else -10 - fRow c (cj c d)
def rTurn (c : zC) (d : Int32) : Int32 := if isDr d = 0 then -1 else if fRow c (cj c d) = 0 then c.1 (cj c d) 2 / 2 else -10 - fRow c (cj c d)
def sTurn (c : zC) (d : Int32) : zC := if isDr d = 0 then c else if fRow c (cj c d) = 0 then fRev c (cj c d) else meet c (fRow c (cj c d))
def rSum (c : zC) (d : Int32) : Int64 := if isDr d = 0 then 0 else if fRow c (cj c d) = 0 then fTot c (cj c d) else 0
def rFind (c : zC) (d : Int32) : Int32 := if isDr d = 0 then -1 else if fRow c (cj c d) = 0 then fFpl c (cj c d) (c.1 0 3) (c.2.1 0 4) else -10 - fRow c (cj c d)
def fPo (c : zC) (a : Nat) (i : Int32) (b : Nat) (j : Int32) : Int32 := if fCome c a i = 0 then fLay c b j (fKind c a i) else fCome c a i
def sPo (c : zC) (a : Nat) (i : Int32) (b : Nat) (j : Int32) : zC := if fCome c a i = 0 then (if fLay c b j (fKind c a i) = 0 then sJ c (b + 9) j.toNatClampNeg (c.2.1 (a + 9) i.toNatClampNeg) else c) else c
theorem fPo_5 (c : zC) (a : Nat) (i : Int32) (b : Nat) (j : Int32) : vp_in (fPo c a i b j) 5 := by
  unfold fPo
  split
  · exact fLay_5 _ _ _ _
  · exact fCome_5 _ _ _
def fSw (c : zC) (a : Nat) (i : Int32) (b : Nat) (j : Int32) : Int32 := if fCome c a i = 0 then (if fCome c b j = 0 then (if fLay c a i (fKind c b j) = 0 then fLay c b j (fKind c a i) else fLay c a i (fKind c b j)) else fCome c b j) else fCome c a i
theorem fSw_5 (c : zC) (a : Nat) (i : Int32) (b : Nat) (j : Int32) : vp_in (fSw c a i b j) 5 := by
  unfold fSw
  split
  · split
    · split
      · exact fLay_5 c b j (fKind c a i)
      · exact fLay_5 c a i (fKind c b j)
    · exact fCome_5 c b j
  · exact fCome_5 c a i
theorem fSw_a {c : zC} {a : Nat} {i : Int32} {b : Nat} {j : Int32} (h : fSw c a i b j = 0) : fCome c a i = 0 ∧ fCome c b j = 0 := by
  unfold fSw at h
  split at h
  · split at h
    · exact ⟨by assumption, by assumption⟩
    · contradiction
  · contradiction
def rSwap (c : zC) (a i b j : Int32) : Int32 := if isDr a = 0 then -1 else if isDr b = 0 then -1 else if fSw c (cj c a) i (cj c b) j = 0 then 1 else -10 - fSw c (cj c a) i (cj c b) j
def sSwap (c : zC) (a i b j : Int32) : zC := if isDr a = 0 then c else if isDr b = 0 then c else if fSw c (cj c a) i (cj c b) j = 0 then sJ (sJ c (cj c a + 9) i.toNatClampNeg (c.2.1 (cj c b + 9) j.toNatClampNeg)) (cj c b + 9) j.toNatClampNeg (c.2.1 (cj c a + 9) i.toNatClampNeg) else meet c (fSw c (cj c a) i (cj c b) j)
def porN (d t : Nat) (i j n : Int32) : Nat → Nat → zC → Int32 × zC
  | 0, _, c => (n, c)
  | m + 1, k, c => if fPo c (c.2.2 d) (i + nI k) (c.2.2 t) (j + nI k) = 0 then porN d t i j n m (k + 1) (sPo c (c.2.2 d) (i + nI k) (c.2.2 t) (j + nI k)) else (-100 + nI k, meet c (fPo c (c.2.2 d) (i + nI k) (c.2.2 t) (j + nI k)))
def pPour (c : zC) (d i t j n : Int32) : Int32 × zC := if isDr d = 0 then (-1, c) else if isDr t = 0 then (-1, c) else if isTi i = 0 then (-2, c) else if isTi j = 0 then (-2, c) else if n < 0 then (-2, c) else if n ≤ 12 then porN d.toNatClampNeg t.toNatClampNeg i j n n.toNatClampNeg 0 c else (-2, c)
def wr (c : zC) (o : Nat) (p a i b j : Int32) : zC := sI (sI (sI (sI (sI c o 0 p) o 1 a) o 2 i) o 3 b) o 4 j
def rOrd (c : zC) (p a i b j : Int32) : Int32 := if isDr a = 0 then -1 else if isDr b = 0 then -1 else if p < 0 then -2 else if 4 < p then -2 else if isTi i = 0 then -2 else if isTi j = 0 then -2 else if c.1 0 7 < 8 then (wr c (24 + (c.1 0 7).toNatClampNeg) p a i b j).1 0 7 + 1 else -3
def sOrd (c : zC) (p a i b j : Int32) : zC := if isDr a = 0 then c else if isDr b = 0 then c else if p < 0 then c else if 4 < p then c else if isTi i = 0 then c else if isTi j = 0 then c else if c.1 0 7 < 8 then sI (wr c (24 + (c.1 0 7).toNatClampNeg) p a i b j) 0 7 ((wr c (24 + (c.1 0 7).toNatClampNeg) p a i b j).1 0 7 + 1) else c
def sPerf (c : zC) (o : Nat) : zC := if c.1 o 0 = 0 then sTake c (c.1 o 1) (c.1 o 2) else if c.1 o 0 = 1 then sLay c (c.1 o 3) (c.1 o 4) else if c.1 o 0 = 2 then sSwap c (c.1 o 1) (c.1 o 2) (c.1 o 3) (c.1 o 4) else if c.1 o 0 = 3 then sTurn c (c.1 o 1) else (pPour c (c.1 o 1) (c.1 o 2) (c.1 o 3) (c.1 o 4) 3).2
def rMet (c : zC) (k : Int32) : Int32 := if k < 0 then -9 else if k < c.1 0 9 then c.1 4 k.toNatClampNeg else -9
def rFaus (c : zC) (f : Int32) : Int32 := if f < 0 then -9 else if f ≤ 4 then c.1 5 f.toNatClampNeg else -9
def rTold (c : zC) (d w : Int32) : Int32 := if isDr d = 0 then -1 else if w = 0 then c.1 (cj c d) 0 else if w = 1 then (if fIsR c (cj c d) = 0 then 0 else fHol c (cj c d)) else if w = 2 then c.1 (cj c d) 1 else -2
theorem lt_in {x : Int32} {n : Nat} (h0 : ¬ x < 0) (h : x < nI n) (hn : n < 2 ^ 31) : vp_in x n := by
  rw [Int32.lt_iff_toInt_lt, nI_toInt hn] at h
  have e1 : ¬ x.toInt < 0 := fun q => h0 (Int32.lt_iff_toInt_lt.mpr q)
  exact vp_in_iff.mpr ⟨by omega, h⟩
theorem le_in {x : Int32} {n : Nat} (h0 : ¬ x < 0) (h : x ≤ nI n) (hn : n < 2 ^ 31) : vp_in x (n + 1) := by
  rw [Int32.le_iff_toInt_le, nI_toInt hn] at h
  have e1 : ¬ x.toInt < 0 := fun q => h0 (Int32.lt_iff_toInt_lt.mpr q)
  exact vp_in_iff.mpr ⟨by omega, by omega⟩
theorem in_nI {x : Int32} {n : Nat} (h : vp_in x n) (hn : n < 2 ^ 31) : x = nI x.toNatClampNeg := by
  obtain ⟨k, hk, rfl⟩ := vp_in_of h hn
  rw [nI_clamp (by omega)]
set_option maxHeartbeats 4000000 in
set_option maxRecDepth 100000 in
theorem k_X1_write (l : Launch) (E : zE) (c : zC) (mo : zM) (o : Nat) (op : Int32) (a : Int32) (i : Int32) (b : Int32) (j : Int32) (ho : kd o = 7) : Met l yX1_write wsX1_write (zR 0 0) (zP E c mo [.ref (zl E o), .int op, .int a, .int i, .int b, .int j]) (cQv E (wr c o op a i b j) mo) 0 0 (zA E) := by
  refine z_ent (cc := cX1_write) (maxL := 6) (ret := none) (vs := [.ref (zl E o), .int op, .int a, .int i, .int b, .int j]) (by decide) rfl (Nat.le_of_ble_eq_true rfl) ?_
  intro p e s m below meth cd ls hx hb hr hml hown hts hlocks hl hw
  have hl : lv_has ls 6 [(0, .ref (zl E o)), (1, .int op), (2, .int a), (3, .int i), (4, .int b), (5, .int j)] := hl
  have hown : s.vm.findClass RX1 = some m.cls := hown
  have hin1 : ∀ w ∈ u_ws RX1 TX1 5, w ∈ wsX1_write := by decide +kernel
  refine lv_aload_n hx hb dX1_write_0 rfl (lv_at hl 0 rfl) ?_
  refine lv_iload_n hx hb dX1_write_1 rfl (lv_at hl 1 rfl) ?_
  refine z_put (i := o) (ty := .int) hx hb hts hin1 tyX1 tyX1_ok nmX1 hown hw (kd7l ho) (zG_7 ho) rfl 0 (by decide) (hts (.fieldLink RX1 7 "SeedDrawers$Order" "op" "I") (by decide +kernel)) rfl rfl (by decide +kernel) rfl rfl (Nat.le_of_ble_eq_true rfl) (zU7_0 E c mo ho op) dX1_write_2 (fun H locs hw => ?_)
  refine lv_aload_n hx hb dX1_write_5 rfl (lv_at hl 0 rfl) ?_
  refine lv_iload_n hx hb dX1_write_6 rfl (lv_at hl 2 rfl) ?_
  refine z_put (i := o) (ty := .int) hx hb hts hin1 tyX1 tyX1_ok nmX1 hown hw (kd7l ho) (zG_7 ho) rfl 1 (by decide) (hts (.fieldLink RX1 13 "SeedDrawers$Order" "a" "I") (by decide +kernel)) rfl rfl (by decide +kernel) rfl rfl (Nat.le_of_ble_eq_true rfl) (zU7_1 E (sI c o 0 op) mo ho a) dX1_write_7 (fun H locs hw => ?_)
  refine lv_aload_n hx hb dX1_write_10 rfl (lv_at hl 0 rfl) ?_
  refine lv_iload_n hx hb dX1_write_11 rfl (lv_at hl 3 rfl) ?_
  refine z_put (i := o) (ty := .int) hx hb hts hin1 tyX1 tyX1_ok nmX1 hown hw (kd7l ho) (zG_7 ho) rfl 2 (by decide) (hts (.fieldLink RX1 16 "SeedDrawers$Order" "i" "I") (by decide +kernel)) rfl rfl (by decide +kernel) rfl rfl (Nat.le_of_ble_eq_true rfl) (zU7_2 E (sI (sI c o 0 op) o 1 a) mo ho i) dX1_write_12 (fun H locs hw => ?_)
  refine lv_aload_n hx hb dX1_write_15 rfl (lv_at hl 0 rfl) ?_
  refine lv_iload hx hb dX1_write_16 (lv_at hl 4 rfl) ?_
  refine z_put (i := o) (ty := .int) hx hb hts hin1 tyX1 tyX1_ok nmX1 hown hw (kd7l ho) (zG_7 ho) rfl 3 (by decide) (hts (.fieldLink RX1 19 "SeedDrawers$Order" "b" "I") (by decide +kernel)) rfl rfl (by decide +kernel) rfl rfl (Nat.le_of_ble_eq_true rfl) (zU7_3 E (sI (sI (sI c o 0 op) o 1 a) o 2 i) mo ho b) dX1_write_18 (fun H locs hw => ?_)
  refine lv_aload_n hx hb dX1_write_21 rfl (lv_at hl 0 rfl) ?_
  refine lv_iload hx hb dX1_write_22 (lv_at hl 5 rfl) ?_
  refine z_put (i := o) (ty := .int) hx hb hts hin1 tyX1 tyX1_ok nmX1 hown hw (kd7l ho) (zG_7 ho) rfl 4 (by decide) (hts (.fieldLink RX1 22 "SeedDrawers$Order" "j" "I") (by decide +kernel)) rfl rfl (by decide +kernel) rfl rfl (Nat.le_of_ble_eq_true rfl) (zU7_4 E (sI (sI (sI (sI c o 0 op) o 1 a) o 2 i) o 3 b) mo ho j) dX1_write_24 (fun H locs hw => ?_)
  exact z_vret hx hb hr hlocks hw dX1_write_27 (by rfl) rfl
set_option maxHeartbeats 4000000 in
set_option maxRecDepth 100000 in
theorem k_X2_row (l : Launch) (E : zE) (c : zC) (mo : zM) (d : Int32) (k : Int32) (n : Int32) (hwf : wfC c) : Met l yX2_row wsX2_row (zR 2 46) (zP E c mo [.ref (zl E 0), .int d, .int k, .int n]) (cQi E (rRow d k n) (sRow c d k n) mo) 0 0 (zA E) := by
  refine z_ent (cc := cX2_row) (maxL := 4) (ret := (some .int)) (vs := [.ref (zl E 0), .int d, .int k, .int n]) (by decide) rfl (Nat.le_of_ble_eq_true rfl) ?_
  intro p e s m below meth cd ls hx hb hr hml hown hts hlocks hl hw
  have hl : lv_has ls 4 [(0, .ref (zl E 0)), (1, .int d), (2, .int k), (3, .int n)] := hl
  have hown : s.vm.findClass RX2 = some m.cls := hown
  refine lv_iload_n hx hb dX2_row_0 rfl (lv_at hl 1 rfl) ?_
  refine z_calli (rest := []) (va_runS (As := [.int d]) (rest := []) ⟨hx, hb, hml, hown, hts⟩ (k_X2_isDrawer l E c mo d ) (va_cwS 1 hts gX2_row_X2_isDrawer rfl rfl rfl (by decide +kernel) ⟨Nat.le_of_ble_eq_true rfl, Nat.le_of_ble_eq_true rfl⟩) (z_preS hw [.int d]) rfl rfl hl.1 rfl (lv_room (Nat.le_of_ble_eq_true rfl)) dX2_row_1 ⟨Nat.le_of_ble_eq_true rfl, Nat.le_of_ble_eq_true rfl⟩) hw (fun H locs hw => ?_)
  refine lv_if_ne (tgt := 9) hx hb dX2_row_4 (by decide) (fun q_1 => ?_) (fun q_1 => ?_)
  · have _ := hx
    refine lv_iload_n hx hb dX2_row_9 rfl (lv_at hl 2 rfl) ?_
    refine lv_if_lt (tgt := 29) hx hb dX2_row_10 (by decide) (fun q_2 => ?_) (fun q_2 => ?_)
    · have _ := hx
      refine lv_bipush (v := (-2)) hx hb dX2_row_29 (by decide) ?_
      exact z_iret hx hb hr hlocks hw dX2_row_31 (by first | (simp [rRow, sRow, q_1, q_2]; done) | (simp_all [rRow, sRow]; done)) (by first | (simp [rRow, sRow, q_1, q_2]; done) | (simp_all [rRow, sRow]; done)) rfl
    · have _ := hx
      refine lv_iload_n hx hb dX2_row_13 rfl (lv_at hl 2 rfl) ?_
      refine lv_bipush (v := 6) hx hb dX2_row_14 (by decide) ?_
      refine lv_icmp_gt (tgt := 29) hx hb dX2_row_16 (by decide) (fun q_3 => ?_) (fun q_3 => ?_)
      · have _ := hx
        refine lv_bipush (v := (-2)) hx hb dX2_row_29 (by decide) ?_
        exact z_iret hx hb hr hlocks hw dX2_row_31 (by first | (simp [rRow, sRow, q_1, q_2, q_3]; done) | (simp_all [rRow, sRow]; done)) (by first | (simp [rRow, sRow, q_1, q_2, q_3]; done) | (simp_all [rRow, sRow]; done)) rfl
      · have _ := hx
        refine lv_iload_n hx hb dX2_row_19 rfl (lv_at hl 3 rfl) ?_
        refine lv_if_lt (tgt := 29) hx hb dX2_row_20 (by decide) (fun q_4 => ?_) (fun q_4 => ?_)
        · have _ := hx
          refine lv_bipush (v := (-2)) hx hb dX2_row_29 (by decide) ?_
          exact z_iret hx hb hr hlocks hw dX2_row_31 (by first | (simp [rRow, sRow, q_1, q_2, q_3, q_4]; done) | (simp_all [rRow, sRow]; done)) (by first | (simp [rRow, sRow, q_1, q_2, q_3, q_4]; done) | (simp_all [rRow, sRow]; done)) rfl
        · have _ := hx
          refine lv_iload_n hx hb dX2_row_23 rfl (lv_at hl 3 rfl) ?_
          refine lv_bipush (v := 12) hx hb dX2_row_24 (by decide) ?_
          refine lv_icmp_le (tgt := 32) hx hb dX2_row_26 (by decide) (fun q_5 => ?_) (fun q_5 => ?_)
          · have _ := hx
            refine lv_aload_n hx hb dX2_row_32 rfl (lv_at hl 0 rfl) ?_
            refine lv_iload_n hx hb dX2_row_33 rfl (lv_at hl 1 rfl) ?_
            refine z_callr (rest := []) (va_runV (As := [.int d]) (rest := []) ⟨hx, hb, hml, hown, hts⟩ (k_X2_newContent l E c mo d (isDr_in (by assumption)) hwf.1) (cwV 1 hts gX2_row_X2_newContent rfl rfl rfl (by decide +kernel) ⟨Nat.le_of_ble_eq_true rfl, Nat.le_of_ble_eq_true rfl⟩) (z_preV hw (by decide) zG_0 rfl [.int d]) rfl rfl hl.1 rfl (lv_room (Nat.le_of_ble_eq_true rfl)) dX2_row_34 ⟨Nat.le_of_ble_eq_true rfl, Nat.le_of_ble_eq_true rfl⟩) hw (fun H locs hw => ?_)
            have hf_6 : kd (nFree c d.toNatClampNeg) = 6 := nFree_in _ _
            refine lv_iload_n hx hb dX2_row_37 rfl (lv_at hl 2 rfl) ?_
            refine lv_iload_n hx hb dX2_row_38 rfl (lv_at hl 3 rfl) ?_
            refine z_callv (rest := []) (va_runV (As := [.int k, .int n]) (rest := []) ⟨hx, hb, hml, hown, hts⟩ (k_X0_becomeRow l E (newC c d.toNatClampNeg) mo (nFree c d.toNatClampNeg) k n hf_6) (cwV 2 hts gX2_row_X0_becomeRow rfl rfl rfl (by decide +kernel) ⟨Nat.le_of_ble_eq_true rfl, Nat.le_of_ble_eq_true rfl⟩) (z_preV hw (kd6l hf_6) (zG_6 hf_6) rfl [.int k, .int n]) rfl rfl hl.1 rfl (lv_room (Nat.le_of_ble_eq_true rfl)) dX2_row_39 ⟨Nat.le_of_ble_eq_true rfl, Nat.le_of_ble_eq_true rfl⟩) hw (fun H locs hw => ?_)
            refine lv_iload_n hx hb dX2_row_42 rfl (lv_at hl 3 rfl) ?_
            exact z_iret hx hb hr hlocks hw dX2_row_43 (by first | (simp [rRow, sRow, q_1, q_2, q_3, q_4, q_5]; done) | (simp_all [rRow, sRow]; done)) (by first | (simp [rRow, sRow, q_1, q_2, q_3, q_4, q_5]; done) | (simp_all [rRow, sRow]; done)) rfl
          · have _ := hx
            refine lv_bipush (v := (-2)) hx hb dX2_row_29 (by decide) ?_
            exact z_iret hx hb hr hlocks hw dX2_row_31 (by first | (simp [rRow, sRow, q_1, q_2, q_3, q_4, q_5]; done) | (simp_all [rRow, sRow]; done)) (by first | (simp [rRow, sRow, q_1, q_2, q_3, q_4, q_5]; done) | (simp_all [rRow, sRow]; done)) rfl
  · have _ := hx
    refine lv_iconst (v := (-1)) hx hb dX2_row_7 (by decide) ?_
    exact z_iret hx hb hr hlocks hw dX2_row_8 (by first | (simp [rRow, sRow, q_1]; done) | (simp_all [rRow, sRow]; done)) (by first | (simp [rRow, sRow, q_1]; done) | (simp_all [rRow, sRow]; done)) rfl
set_option maxHeartbeats 4000000 in
set_option maxRecDepth 100000 in
theorem k_X2_note (l : Launch) (E : zE) (c : zC) (mo : zM) (d : Int32) (v : Int32) (hwf : wfC c) : Met l yX2_note wsX2_note (zR 2 46) (zP E c mo [.ref (zl E 0), .int d, .int v]) (cQi E (rNote d) (sNote c d v) mo) 0 0 (zA E) := by
  refine z_ent (cc := cX2_note) (maxL := 3) (ret := (some .int)) (vs := [.ref (zl E 0), .int d, .int v]) (by decide) rfl (Nat.le_of_ble_eq_true rfl) ?_
  intro p e s m below meth cd ls hx hb hr hml hown hts hlocks hl hw
  have hl : lv_has ls 3 [(0, .ref (zl E 0)), (1, .int d), (2, .int v)] := hl
  have hown : s.vm.findClass RX2 = some m.cls := hown
  refine lv_iload_n hx hb dX2_note_0 rfl (lv_at hl 1 rfl) ?_
  refine z_calli (rest := []) (va_runS (As := [.int d]) (rest := []) ⟨hx, hb, hml, hown, hts⟩ (k_X2_isDrawer l E c mo d ) (va_cwS 1 hts gX2_note_X2_isDrawer rfl rfl rfl (by decide +kernel) ⟨Nat.le_of_ble_eq_true rfl, Nat.le_of_ble_eq_true rfl⟩) (z_preS hw [.int d]) rfl rfl hl.1 rfl (lv_room (Nat.le_of_ble_eq_true rfl)) dX2_note_1 ⟨Nat.le_of_ble_eq_true rfl, Nat.le_of_ble_eq_true rfl⟩) hw (fun H locs hw => ?_)
  refine lv_if_ne (tgt := 9) hx hb dX2_note_4 (by decide) (fun q_1 => ?_) (fun q_1 => ?_)
  · have _ := hx
    refine lv_aload_n hx hb dX2_note_9 rfl (lv_at hl 0 rfl) ?_
    refine lv_iload_n hx hb dX2_note_10 rfl (lv_at hl 1 rfl) ?_
    refine z_callr (rest := []) (va_runV (As := [.int d]) (rest := []) ⟨hx, hb, hml, hown, hts⟩ (k_X2_newContent l E c mo d (isDr_in (by assumption)) hwf.1) (cwV 1 hts gX2_note_X2_newContent rfl rfl rfl (by decide +kernel) ⟨Nat.le_of_ble_eq_true rfl, Nat.le_of_ble_eq_true rfl⟩) (z_preV hw (by decide) zG_0 rfl [.int d]) rfl rfl hl.1 rfl (lv_room (Nat.le_of_ble_eq_true rfl)) dX2_note_11 ⟨Nat.le_of_ble_eq_true rfl, Nat.le_of_ble_eq_true rfl⟩) hw (fun H locs hw => ?_)
    have hf_2 : kd (nFree c d.toNatClampNeg) = 6 := nFree_in _ _
    refine lv_iload_n hx hb dX2_note_14 rfl (lv_at hl 2 rfl) ?_
    refine z_callv (rest := []) (va_runV (As := [.int v]) (rest := []) ⟨hx, hb, hml, hown, hts⟩ (k_X0_becomeNote l E (newC c d.toNatClampNeg) mo (nFree c d.toNatClampNeg) v hf_2) (cwV 1 hts gX2_note_X0_becomeNote rfl rfl rfl (by decide +kernel) ⟨Nat.le_of_ble_eq_true rfl, Nat.le_of_ble_eq_true rfl⟩) (z_preV hw (kd6l hf_2) (zG_6 hf_2) rfl [.int v]) rfl rfl hl.1 rfl (lv_room (Nat.le_of_ble_eq_true rfl)) dX2_note_15 ⟨Nat.le_of_ble_eq_true rfl, Nat.le_of_ble_eq_true rfl⟩) hw (fun H locs hw => ?_)
    refine lv_iconst (v := 1) hx hb dX2_note_18 (by decide) ?_
    exact z_iret hx hb hr hlocks hw dX2_note_19 (by first | (simp [rNote, sNote, q_1]; done) | (simp_all [rNote, sNote]; done)) (by first | (simp [rNote, sNote, q_1]; done) | (simp_all [rNote, sNote]; done)) rfl
  · have _ := hx
    refine lv_iconst (v := (-1)) hx hb dX2_note_7 (by decide) ?_
    exact z_iret hx hb hr hlocks hw dX2_note_8 (by first | (simp [rNote, sNote, q_1]; done) | (simp_all [rNote, sNote]; done)) (by first | (simp [rNote, sNote, q_1]; done) | (simp_all [rNote, sNote]; done)) rfl
set_option maxHeartbeats 4000000 in
set_option maxRecDepth 100000 in
theorem k_X2_share (l : Launch) (E : zE) (c : zC) (mo : zM) (d : Int32) (f : Int32) (hwf : wfC c) : Met l yX2_share wsX2_share (zR 1 20) (zP E c mo [.ref (zl E 0), .int d, .int f]) (cQi E (rShare d f) (sShare c d f) mo) 0 0 (zA E) := by
  refine z_ent (cc := cX2_share) (maxL := 3) (ret := (some .int)) (vs := [.ref (zl E 0), .int d, .int f]) (by decide) rfl (Nat.le_of_ble_eq_true rfl) ?_
  intro p e s m below meth cd ls hx hb hr hml hown hts hlocks hl hw
  have hl : lv_has ls 3 [(0, .ref (zl E 0)), (1, .int d), (2, .int f)] := hl
  have hown : s.vm.findClass RX2 = some m.cls := hown
  have hin2 : ∀ w ∈ u_ws RX2 TX2 12, w ∈ wsX2_share := by decide +kernel
  refine lv_iload_n hx hb dX2_share_0 rfl (lv_at hl 1 rfl) ?_
  refine z_calli (rest := []) (va_runS (As := [.int d]) (rest := []) ⟨hx, hb, hml, hown, hts⟩ (k_X2_isDrawer l E c mo d ) (va_cwS 1 hts gX2_share_X2_isDrawer rfl rfl rfl (by decide +kernel) ⟨Nat.le_of_ble_eq_true rfl, Nat.le_of_ble_eq_true rfl⟩) (z_preS hw [.int d]) rfl rfl hl.1 rfl (lv_room (Nat.le_of_ble_eq_true rfl)) dX2_share_1 ⟨Nat.le_of_ble_eq_true rfl, Nat.le_of_ble_eq_true rfl⟩) hw (fun H locs hw => ?_)
  refine lv_if_eq (tgt := 14) hx hb dX2_share_4 (by decide) (fun q_1 => ?_) (fun q_1 => ?_)
  · have _ := hx
    refine lv_iconst (v := (-1)) hx hb dX2_share_14 (by decide) ?_
    exact z_iret hx hb hr hlocks hw dX2_share_15 (by first | (simp [rShare, sShare, q_1]; done) | (simp_all [rShare, sShare]; done)) (by first | (simp [rShare, sShare, q_1]; done) | (simp_all [rShare, sShare]; done)) rfl
  · have _ := hx
    refine lv_iload_n hx hb dX2_share_7 rfl (lv_at hl 2 rfl) ?_
    refine z_calli (rest := []) (va_runS (As := [.int f]) (rest := []) ⟨hx, hb, hml, hown, hts⟩ (k_X2_isDrawer l E c mo f ) (va_cwS 1 hts gX2_share_X2_isDrawer rfl rfl rfl (by decide +kernel) ⟨Nat.le_of_ble_eq_true rfl, Nat.le_of_ble_eq_true rfl⟩) (z_preS hw [.int f]) rfl rfl hl.1 rfl (lv_room (Nat.le_of_ble_eq_true rfl)) dX2_share_8 ⟨Nat.le_of_ble_eq_true rfl, Nat.le_of_ble_eq_true rfl⟩) hw (fun H locs hw => ?_)
    refine lv_if_ne (tgt := 16) hx hb dX2_share_11 (by decide) (fun q_2 => ?_) (fun q_2 => ?_)
    · have _ := hx
      refine lv_aload_n hx hb dX2_share_16 rfl (lv_at hl 0 rfl) ?_
      refine z_get (i := 0) hx hb hts hin2 hown hw (by decide) zG_0 rfl 1 (by decide) (hts (.fieldLink RX2 16 "SeedDrawers" "drawers" "[LSeedDrawers$Content;") (by decide +kernel)) rfl rfl dX2_share_17 ?_
      refine lv_iload_n hx hb dX2_share_20 rfl (lv_at hl 1 rfl) ?_
      refine lv_aload_n hx hb dX2_share_21 rfl (lv_at hl 0 rfl) ?_
      refine z_get (i := 0) hx hb hts hin2 hown hw (by decide) zG_0 rfl 1 (by decide) (hts (.fieldLink RX2 16 "SeedDrawers" "drawers" "[LSeedDrawers$Content;") (by decide +kernel)) rfl rfl dX2_share_22 ?_
      refine lv_iload_n hx hb dX2_share_25 rfl (lv_at hl 2 rfl) ?_
      refine y_aald1 hx hb hw (isDr_in (by assumption)) (k := f.toNatClampNeg) rfl dX2_share_26 ?_
      have hf_3 : kd (c.2.2 f.toNatClampNeg) = 6 := hwf.1 _ (in_lt (isDr_in (by assumption)))
      refine y_aast1 (j := c.2.2 f.toNatClampNeg) hx hb hw hf_3 (isDr_in (by assumption)) (k := d.toNatClampNeg) rfl dX2_share_27 (fun H locs hw => ?_)
      refine lv_iconst (v := 1) hx hb dX2_share_28 (by decide) ?_
      exact z_iret hx hb hr hlocks hw dX2_share_29 (by first | (simp [rShare, sShare, q_1, q_2]; done) | (simp_all [rShare, sShare]; done)) (by first | (simp [rShare, sShare, q_1, q_2]; done) | (simp_all [rShare, sShare]; done)) rfl
    · have _ := hx
      refine lv_iconst (v := (-1)) hx hb dX2_share_14 (by decide) ?_
      exact z_iret hx hb hr hlocks hw dX2_share_15 (by first | (simp [rShare, sShare, q_1, q_2]; done) | (simp_all [rShare, sShare]; done)) (by first | (simp [rShare, sShare, q_1, q_2]; done) | (simp_all [rShare, sShare]; done)) rfl
set_option maxHeartbeats 4000000 in
set_option maxRecDepth 100000 in
theorem k_X2_clear (l : Launch) (E : zE) (c : zC) (mo : zM) (d : Int32) (hwf : wfC c) : Met l yX2_clear wsX2_clear (zR 1 20) (zP E c mo [.ref (zl E 0), .int d]) (cQi E (rClear c d) (sClear c d) mo) 0 0 (zA E) := by
  refine z_ent (cc := cX2_clear) (maxL := 3) (ret := (some .int)) (vs := [.ref (zl E 0), .int d]) (by decide) rfl (Nat.le_of_ble_eq_true rfl) ?_
  intro p e s m below meth cd ls hx hb hr hml hown hts hlocks hl hw
  have hl : lv_has ls 3 [(0, .ref (zl E 0)), (1, .int d)] := hl
  have hown : s.vm.findClass RX2 = some m.cls := hown
  have hin2 : ∀ w ∈ u_ws RX2 TX2 12, w ∈ wsX2_clear := by decide +kernel
  refine lv_iload_n hx hb dX2_clear_0 rfl (lv_at hl 1 rfl) ?_
  refine z_calli (rest := []) (va_runS (As := [.int d]) (rest := []) ⟨hx, hb, hml, hown, hts⟩ (k_X2_isDrawer l E c mo d ) (va_cwS 1 hts gX2_clear_X2_isDrawer rfl rfl rfl (by decide +kernel) ⟨Nat.le_of_ble_eq_true rfl, Nat.le_of_ble_eq_true rfl⟩) (z_preS hw [.int d]) rfl rfl hl.1 rfl (lv_room (Nat.le_of_ble_eq_true rfl)) dX2_clear_1 ⟨Nat.le_of_ble_eq_true rfl, Nat.le_of_ble_eq_true rfl⟩) hw (fun H locs hw => ?_)
  refine lv_if_ne (tgt := 9) hx hb dX2_clear_4 (by decide) (fun q_1 => ?_) (fun q_1 => ?_)
  · have _ := hx
    refine lv_aload_n hx hb dX2_clear_9 rfl (lv_at hl 0 rfl) ?_
    refine z_get (i := 0) hx hb hts hin2 hown hw (by decide) zG_0 rfl 1 (by decide) (hts (.fieldLink RX2 16 "SeedDrawers" "drawers" "[LSeedDrawers$Content;") (by decide +kernel)) rfl rfl dX2_clear_10 ?_
    refine lv_iload_n hx hb dX2_clear_13 rfl (lv_at hl 1 rfl) ?_
    refine y_aald1 hx hb hw (isDr_in (by assumption)) (k := d.toNatClampNeg) rfl dX2_clear_14 ?_
    have hf_2 : kd (c.2.2 d.toNatClampNeg) = 6 := hwf.1 _ (in_lt (isDr_in (by assumption)))
    refine lv_aload_n hx hb dX2_clear_15 rfl (lv_at hl 0 rfl) ?_
    refine z_get (i := 0) hx hb hts hin2 hown hw (by decide) zG_0 rfl 0 (by decide) (hts (.fieldLink RX2 10 "SeedDrawers" "nothing" "LSeedDrawers$Content;") (by decide +kernel)) rfl rfl dX2_clear_16 ?_
    refine z_acmpne (tgt := 26) hx hb hw (kd6l hf_2) (by decide) dX2_clear_19 (by decide) (fun q_3 => ?_) (fun q_3 => ?_)
    · have _ := hx
      refine lv_iconst (v := 1) hx hb dX2_clear_26 (by decide) ?_
      refine lv_istore_n (lv' := [(2, .int 1), (0, .ref (zl E 0)), (1, .int d)]) hx hb dX2_clear_27 rfl hl (by decide) rfl (fun ls hl => ?_)
      refine lv_aload_n hx hb dX2_clear_28 rfl (lv_at hl 1 rfl) ?_
      refine z_get (i := 0) hx hb hts hin2 hown hw (by decide) zG_0 rfl 1 (by decide) (hts (.fieldLink RX2 16 "SeedDrawers" "drawers" "[LSeedDrawers$Content;") (by decide +kernel)) rfl rfl dX2_clear_29 ?_
      refine lv_iload_n hx hb dX2_clear_32 rfl (lv_at hl 2 rfl) ?_
      refine lv_aload_n hx hb dX2_clear_33 rfl (lv_at hl 1 rfl) ?_
      refine z_get (i := 0) hx hb hts hin2 hown hw (by decide) zG_0 rfl 0 (by decide) (hts (.fieldLink RX2 10 "SeedDrawers" "nothing" "LSeedDrawers$Content;") (by decide +kernel)) rfl rfl dX2_clear_34 ?_
      refine y_aast1 (j := 6) hx hb hw (by decide) (isDr_in (by assumption)) (k := d.toNatClampNeg) rfl dX2_clear_37 (fun H locs hw => ?_)
      refine lv_iload_n hx hb dX2_clear_38 rfl (lv_at hl 0 rfl) ?_
      exact z_iret hx hb hr hlocks hw dX2_clear_39 (by first | (simp [rClear, sClear, q_1, q_3]; done) | (simp_all [rClear, sClear]; done)) (by first | (simp [rClear, sClear, q_1, q_3]; done) | (simp_all [rClear, sClear]; done)) rfl
    · have _ := hx
      refine lv_iconst (v := 0) hx hb dX2_clear_22 (by decide) ?_
      refine lv_goto (tgt := 27) hx hb dX2_clear_23 (by decide) ?_
      refine lv_istore_n (lv' := [(2, .int 0), (0, .ref (zl E 0)), (1, .int d)]) hx hb dX2_clear_27 rfl hl (by decide) rfl (fun ls hl => ?_)
      refine lv_aload_n hx hb dX2_clear_28 rfl (lv_at hl 1 rfl) ?_
      refine z_get (i := 0) hx hb hts hin2 hown hw (by decide) zG_0 rfl 1 (by decide) (hts (.fieldLink RX2 16 "SeedDrawers" "drawers" "[LSeedDrawers$Content;") (by decide +kernel)) rfl rfl dX2_clear_29 ?_
      refine lv_iload_n hx hb dX2_clear_32 rfl (lv_at hl 2 rfl) ?_
      refine lv_aload_n hx hb dX2_clear_33 rfl (lv_at hl 1 rfl) ?_
      refine z_get (i := 0) hx hb hts hin2 hown hw (by decide) zG_0 rfl 0 (by decide) (hts (.fieldLink RX2 10 "SeedDrawers" "nothing" "LSeedDrawers$Content;") (by decide +kernel)) rfl rfl dX2_clear_34 ?_
      refine y_aast1 (j := 6) hx hb hw (by decide) (isDr_in (by assumption)) (k := d.toNatClampNeg) rfl dX2_clear_37 (fun H locs hw => ?_)
      refine lv_iload_n hx hb dX2_clear_38 rfl (lv_at hl 0 rfl) ?_
      exact z_iret hx hb hr hlocks hw dX2_clear_39 (by first | (simp [rClear, sClear, q_1, q_3]; done) | (simp_all [rClear, sClear]; done)) (by first | (simp [rClear, sClear, q_1, q_3]; done) | (simp_all [rClear, sClear]; done)) rfl
  · have _ := hx
    refine lv_iconst (v := (-1)) hx hb dX2_clear_7 (by decide) ?_
    exact z_iret hx hb hr hlocks hw dX2_clear_8 (by first | (simp [rClear, sClear, q_1]; done) | (simp_all [rClear, sClear]; done)) (by first | (simp [rClear, sClear, q_1]; done) | (simp_all [rClear, sClear]; done)) rfl
set_option maxHeartbeats 4000000 in
set_option maxRecDepth 100000 in
theorem k_X2_think (l : Launch) (E : zE) (c : zC) (mo : zM) (k : Int32) (v : Int64)  : Met l yX2_think wsX2_think (zR 1 23) (zP E c mo [.ref (zl E 0), .int k, .long v]) (cQi E (rThink k) (sThink c k v) mo) 0 0 (zA E) := by
  refine z_ent (cc := cX2_think) (maxL := 4) (ret := (some .int)) (vs := [.ref (zl E 0), .int k, .long v]) (by decide) rfl (Nat.le_of_ble_eq_true rfl) ?_
  intro p e s m below meth cd ls hx hb hr hml hown hts hlocks hl hw
  have hl : lv_has ls 4 [(0, .ref (zl E 0)), (1, .int k), (2, .long v)] := hl
  have hown : s.vm.findClass RX2 = some m.cls := hown
  refine lv_iload_n hx hb dX2_think_0 rfl (lv_at hl 1 rfl) ?_
  refine lv_if_lt (tgt := 9) hx hb dX2_think_1 (by decide) (fun q_1 => ?_) (fun q_1 => ?_)
  · have _ := hx
    refine lv_bipush (v := (-2)) hx hb dX2_think_9 (by decide) ?_
    exact z_iret hx hb hr hlocks hw dX2_think_11 (by first | (simp [rThink, sThink, q_1]; done) | (simp_all [rThink, sThink]; done)) (by first | (simp [rThink, sThink, q_1]; done) | (simp_all [rThink, sThink]; done)) rfl
  · have _ := hx
    refine lv_iload_n hx hb dX2_think_4 rfl (lv_at hl 1 rfl) ?_
    refine lv_iconst (v := 5) hx hb dX2_think_5 (by decide) ?_
    refine lv_icmp_le (tgt := 12) hx hb dX2_think_6 (by decide) (fun q_2 => ?_) (fun q_2 => ?_)
    · have _ := hx
      refine lv_aload_n hx hb dX2_think_12 rfl (lv_at hl 0 rfl) ?_
      refine lv_iload_n hx hb dX2_think_13 rfl (lv_at hl 1 rfl) ?_
      refine lv_iload_n hx hb dX2_think_14 rfl (lv_at hl 1 rfl) ?_
      refine lv_lload_n hx hb dX2_think_15 rfl (lv_at hl 2 rfl) ?_
      refine z_calll (rest := [.int k, .ref (zl E 0)]) (va_runS (As := [.int k, .long v]) (rest := [.int k, .ref (zl E 0)]) ⟨hx, hb, hml, hown, hts⟩ (k_X2_valueOfKind l E c mo k v ) (va_cwS 2 hts gX2_think_X2_valueOfKind rfl rfl rfl (by decide +kernel) ⟨Nat.le_of_ble_eq_true rfl, Nat.le_of_ble_eq_true rfl⟩) (z_preS hw [.int k, .long v]) rfl rfl hl.1 rfl (lv_room (Nat.le_of_ble_eq_true rfl)) dX2_think_16 ⟨Nat.le_of_ble_eq_true rfl, Nat.le_of_ble_eq_true rfl⟩) hw (fun H locs hw => ?_)
      refine z_callv (rest := []) (va_runV (As := [.int k, .long (fVok k v)]) (rest := []) ⟨hx, hb, hml, hown, hts⟩ (k_X2_hold l E c mo k (fVok k v) ) (cwV 2 hts gX2_think_X2_hold rfl rfl rfl (by decide +kernel) ⟨Nat.le_of_ble_eq_true rfl, Nat.le_of_ble_eq_true rfl⟩) (z_preV hw (by decide) zG_0 rfl [.int k, .long (fVok k v)]) rfl rfl hl.1 rfl (lv_room (Nat.le_of_ble_eq_true rfl)) dX2_think_19 ⟨Nat.le_of_ble_eq_true rfl, Nat.le_of_ble_eq_true rfl⟩) hw (fun H locs hw => ?_)
      refine lv_iconst (v := 1) hx hb dX2_think_22 (by decide) ?_
      exact z_iret hx hb hr hlocks hw dX2_think_23 (by first | (simp [rThink, sThink, q_1, q_2]; done) | (simp_all [rThink, sThink]; done)) (by first | (simp [rThink, sThink, q_1, q_2]; done) | (simp_all [rThink, sThink]; done)) rfl
    · have _ := hx
      refine lv_bipush (v := (-2)) hx hb dX2_think_9 (by decide) ?_
      exact z_iret hx hb hr hlocks hw dX2_think_11 (by first | (simp [rThink, sThink, q_1, q_2]; done) | (simp_all [rThink, sThink]; done)) (by first | (simp [rThink, sThink, q_1, q_2]; done) | (simp_all [rThink, sThink]; done)) rfl
set_option maxHeartbeats 4000000 in
set_option maxRecDepth 100000 in
theorem k_X2_card (l : Launch) (E : zE) (c : zC) (mo : zM)   : Met l yX2_card wsX2_card (zR 1 23) (zP E c mo [.ref (zl E 0)]) (cQi E (rCard c) (sCard c) mo) 0 0 (zA E) := by
  refine z_ent (cc := cX2_card) (maxL := 1) (ret := (some .int)) (vs := [.ref (zl E 0)]) (by decide) rfl (Nat.le_of_ble_eq_true rfl) ?_
  intro p e s m below meth cd ls hx hb hr hml hown hts hlocks hl hw
  have hl : lv_has ls 1 [(0, .ref (zl E 0))] := hl
  have hown : s.vm.findClass RX2 = some m.cls := hown
  have hin2 : ∀ w ∈ u_ws RX2 TX2 12, w ∈ wsX2_card := by decide +kernel
  refine lv_aload_n hx hb dX2_card_0 rfl (lv_at hl 0 rfl) ?_
  refine z_get (i := 0) hx hb hts hin2 hown hw (by decide) zG_0 rfl 5 (by decide) (hts (.fieldLink RX2 65 "SeedDrawers" "cardCount" "I") (by decide +kernel)) rfl rfl dX2_card_1 ?_
  refine lv_bipush (v := 30) hx hb dX2_card_4 (by decide) ?_
  refine lv_icmp_lt (tgt := 12) hx hb dX2_card_6 (by decide) (fun q_1 => ?_) (fun q_1 => ?_)
  · have _ := hx
    refine lv_aload_n hx hb dX2_card_12 rfl (lv_at hl 0 rfl) ?_
    refine lv_dup hx hb dX2_card_13 rfl ?_
    refine z_get (i := 0) hx hb hts hin2 hown hw (by decide) zG_0 rfl 5 (by decide) (hts (.fieldLink RX2 65 "SeedDrawers" "cardCount" "I") (by decide +kernel)) rfl rfl dX2_card_14 ?_
    refine lv_iconst (v := 1) hx hb dX2_card_17 (by decide) ?_
    refine lv_iadd hx hb dX2_card_18 ?_
    refine z_put (i := 0) (ty := .int) hx hb hts hin2 tyX2 tyX2_ok nmX2 hown hw (by decide) zG_0 rfl 5 (by decide) (hts (.fieldLink RX2 65 "SeedDrawers" "cardCount" "I") (by decide +kernel)) rfl rfl (by decide +kernel) rfl rfl (Nat.le_of_ble_eq_true rfl) (zU0_5 E c mo ((c.1 0 5) + 1)) dX2_card_19 (fun H locs hw => ?_)
    refine lv_aload_n hx hb dX2_card_22 rfl (lv_at hl 0 rfl) ?_
    refine lv_bipush (v := 6) hx hb dX2_card_23 (by decide) ?_
    refine lv_aload_n hx hb dX2_card_25 rfl (lv_at hl 0 rfl) ?_
    refine z_get (i := 0) hx hb hts hin2 hown hw (by decide) zG_0 rfl 5 (by decide) (hts (.fieldLink RX2 65 "SeedDrawers" "cardCount" "I") (by decide +kernel)) rfl rfl dX2_card_26 ?_
    refine lv_i2l (v := ((sI c 0 5 ((c.1 0 5) + 1)).1 0 5).toInt64) hx hb dX2_card_29 rfl ?_
    refine z_callv (rest := []) (va_runV (As := [.int 6, .long (((sI c 0 5 ((c.1 0 5) + 1)).1 0 5).toInt64)]) (rest := []) ⟨hx, hb, hml, hown, hts⟩ (k_X2_hold l E (sI c 0 5 ((c.1 0 5) + 1)) mo 6 (((sI c 0 5 ((c.1 0 5) + 1)).1 0 5).toInt64) ) (cwV 2 hts gX2_card_X2_hold rfl rfl rfl (by decide +kernel) ⟨Nat.le_of_ble_eq_true rfl, Nat.le_of_ble_eq_true rfl⟩) (z_preV hw (by decide) zG_0 rfl [.int 6, .long (((sI c 0 5 ((c.1 0 5) + 1)).1 0 5).toInt64)]) rfl rfl hl.1 rfl (lv_room (Nat.le_of_ble_eq_true rfl)) dX2_card_30 ⟨Nat.le_of_ble_eq_true rfl, Nat.le_of_ble_eq_true rfl⟩) hw (fun H locs hw => ?_)
    refine lv_aload_n hx hb dX2_card_33 rfl (lv_at hl 0 rfl) ?_
    refine z_get (i := 0) hx hb hts hin2 hown hw (by decide) zG_0 rfl 5 (by decide) (hts (.fieldLink RX2 65 "SeedDrawers" "cardCount" "I") (by decide +kernel)) rfl rfl dX2_card_34 ?_
    exact z_iret hx hb hr hlocks hw dX2_card_37 (by first | (simp [rCard, sCard, q_1]; done) | (simp [rCard, sCard, q_1, sI, sJ, hold]; done)) (by first | (simp [rCard, sCard, q_1]; done) | (simp [rCard, sCard, q_1, sI, sJ, hold]; done)) rfl
  · have _ := hx
    refine lv_bipush (v := (-3)) hx hb dX2_card_9 (by decide) ?_
    exact z_iret hx hb hr hlocks hw dX2_card_11 (by first | (simp [rCard, sCard, q_1]; done) | (simp [rCard, sCard, q_1, sI, sJ, hold]; done)) (by first | (simp [rCard, sCard, q_1]; done) | (simp [rCard, sCard, q_1, sI, sJ, hold]; done)) rfl
set_option maxHeartbeats 4000000 in
set_option maxRecDepth 100000 in
theorem k_X2_drop (l : Launch) (E : zE) (c : zC) (mo : zM)   : Met l yX2_drop wsX2_drop (zR 1 23) (zP E c mo [.ref (zl E 0)]) (cQi E (c.1 0 3) (hold c (-9) 0) mo) 0 0 (zA E) := by
  refine z_ent (cc := cX2_drop) (maxL := 2) (ret := (some .int)) (vs := [.ref (zl E 0)]) (by decide) rfl (Nat.le_of_ble_eq_true rfl) ?_
  intro p e s m below meth cd ls hx hb hr hml hown hts hlocks hl hw
  have hl : lv_has ls 2 [(0, .ref (zl E 0))] := hl
  have hown : s.vm.findClass RX2 = some m.cls := hown
  have hin2 : ∀ w ∈ u_ws RX2 TX2 12, w ∈ wsX2_drop := by decide +kernel
  refine lv_aload_n hx hb dX2_drop_0 rfl (lv_at hl 0 rfl) ?_
  refine z_get (i := 0) hx hb hts hin2 hown hw (by decide) zG_0 rfl 3 (by decide) (hts (.fieldLink RX2 23 "SeedDrawers" "handKind" "I") (by decide +kernel)) rfl rfl dX2_drop_1 ?_
  refine lv_istore_n (lv' := [(1, .int (c.1 0 3)), (0, .ref (zl E 0))]) hx hb dX2_drop_4 rfl hl (by decide) rfl (fun ls hl => ?_)
  refine lv_aload_n hx hb dX2_drop_5 rfl (lv_at hl 1 rfl) ?_
  refine lv_bipush (v := (-9)) hx hb dX2_drop_6 (by decide) ?_
  refine lv_lconst (v := 0) hx hb dX2_drop_8 (by decide) ?_
  refine z_callv (rest := []) (va_runV (As := [.int (-9), .long 0]) (rest := []) ⟨hx, hb, hml, hown, hts⟩ (k_X2_hold l E c mo (-9) 0 ) (cwV 2 hts gX2_drop_X2_hold rfl rfl rfl (by decide +kernel) ⟨Nat.le_of_ble_eq_true rfl, Nat.le_of_ble_eq_true rfl⟩) (z_preV hw (by decide) zG_0 rfl [.int (-9), .long 0]) rfl rfl hl.1 rfl (lv_room (Nat.le_of_ble_eq_true rfl)) dX2_drop_9 ⟨Nat.le_of_ble_eq_true rfl, Nat.le_of_ble_eq_true rfl⟩) hw (fun H locs hw => ?_)
  refine lv_iload_n hx hb dX2_drop_12 rfl (lv_at hl 0 rfl) ?_
  exact z_iret hx hb hr hlocks hw dX2_drop_13 (by rfl) (by rfl) rfl
set_option maxHeartbeats 4000000 in
set_option maxRecDepth 100000 in
theorem k_X2_take (l : Launch) (E : zE) (c : zC) (mo : zM) (d : Int32) (i : Int32) (hwf : wfC c) : Met l yX2_take wsX2_take (zR 2 42) (zP E c mo [.ref (zl E 0), .int d, .int i]) (cQi E (rTake c d i) (sTake c d i) mo) 0 0 (zA E) := by
  refine z_ent (cc := cX2_take) (maxL := 5) (ret := (some .int)) (vs := [.ref (zl E 0), .int d, .int i]) (by decide) rfl (Nat.le_of_ble_eq_true rfl) ?_
  intro p e s m below meth cd ls hx hb hr hml hown hts hlocks hl hw
  have hl : lv_has ls 5 [(0, .ref (zl E 0)), (1, .int d), (2, .int i)] := hl
  have hown : s.vm.findClass RX2 = some m.cls := hown
  have hin0 : ∀ w ∈ u_ws RX0 TX0 4, w ∈ wsX2_take := by decide +kernel
  have hin2 : ∀ w ∈ u_ws RX2 TX2 12, w ∈ wsX2_take := by decide +kernel
  refine lv_iload_n hx hb dX2_take_0 rfl (lv_at hl 1 rfl) ?_
  refine z_calli (rest := []) (va_runS (As := [.int d]) (rest := []) ⟨hx, hb, hml, hown, hts⟩ (k_X2_isDrawer l E c mo d ) (va_cwS 1 hts gX2_take_X2_isDrawer rfl rfl rfl (by decide +kernel) ⟨Nat.le_of_ble_eq_true rfl, Nat.le_of_ble_eq_true rfl⟩) (z_preS hw [.int d]) rfl rfl hl.1 rfl (lv_room (Nat.le_of_ble_eq_true rfl)) dX2_take_1 ⟨Nat.le_of_ble_eq_true rfl, Nat.le_of_ble_eq_true rfl⟩) hw (fun H locs hw => ?_)
  refine lv_if_ne (tgt := 9) hx hb dX2_take_4 (by decide) (fun q_1 => ?_) (fun q_1 => ?_)
  · have _ := hx
    refine lv_aload_n hx hb dX2_take_9 rfl (lv_at hl 0 rfl) ?_
    refine z_get (i := 0) hx hb hts hin2 hown hw (by decide) zG_0 rfl 1 (by decide) (hts (.fieldLink RX2 16 "SeedDrawers" "drawers" "[LSeedDrawers$Content;") (by decide +kernel)) rfl rfl dX2_take_10 ?_
    refine lv_iload_n hx hb dX2_take_13 rfl (lv_at hl 1 rfl) ?_
    refine y_aald1 hx hb hw (isDr_in (by assumption)) (k := d.toNatClampNeg) rfl dX2_take_14 ?_
    have hf_2 : kd (c.2.2 d.toNatClampNeg) = 6 := hwf.1 _ (in_lt (isDr_in (by assumption)))
    refine lv_astore_n (lv' := [(3, .ref (zl E (c.2.2 d.toNatClampNeg))), (0, .ref (zl E 0)), (1, .int d), (2, .int i)]) hx hb dX2_take_15 rfl hl (by decide) rfl (fun ls hl => ?_)
    refine lv_aload_n hx hb dX2_take_16 rfl (lv_at hl 0 rfl) ?_
    refine lv_iload_n hx hb dX2_take_17 rfl (lv_at hl 3 rfl) ?_
    refine z_calli (rest := []) (va_runV (As := [.int i]) (rest := []) ⟨hx, hb, hml, hown, hts⟩ (k_X0_faultOfComing l E c mo (c.2.2 d.toNatClampNeg) i hf_2) (cwV 1 hts gX2_take_X0_faultOfComing rfl rfl rfl (by decide +kernel) ⟨Nat.le_of_ble_eq_true rfl, Nat.le_of_ble_eq_true rfl⟩) (z_preV hw (kd6l hf_2) (zG_6 hf_2) rfl [.int i]) rfl rfl hl.1 rfl (lv_room (Nat.le_of_ble_eq_true rfl)) dX2_take_18 ⟨Nat.le_of_ble_eq_true rfl, Nat.le_of_ble_eq_true rfl⟩) hw (fun H locs hw => ?_)
    refine lv_istore (lv' := [(4, .int (fCome c (c.2.2 d.toNatClampNeg) i)), (3, .ref (zl E (c.2.2 d.toNatClampNeg))), (0, .ref (zl E 0)), (1, .int d), (2, .int i)]) hx hb dX2_take_21 hl (by decide) rfl (fun ls hl => ?_)
    refine lv_iload hx hb dX2_take_23 (lv_at hl 0 rfl) ?_
    refine lv_if_eq (tgt := 35) hx hb dX2_take_25 (by decide) (fun q_3 => ?_) (fun q_3 => ?_)
    · have _ := hx
      refine lv_aload_n hx hb dX2_take_35 rfl (lv_at hl 2 rfl) ?_
      refine lv_aload_n hx hb dX2_take_36 rfl (lv_at hl 1 rfl) ?_
      refine lv_iload_n hx hb dX2_take_37 rfl (lv_at hl 4 rfl) ?_
      refine z_calli (rest := [.ref (zl E 0)]) (va_runV (As := [.int i]) (rest := [.ref (zl E 0)]) ⟨hx, hb, hml, hown, hts⟩ (k_X0_kindAt l E c mo (c.2.2 d.toNatClampNeg) i hf_2 (fCome_in (by assumption) (hwf.2.1 _ hf_2))) (cwV 1 hts gX2_take_X0_kindAt rfl rfl rfl (by decide +kernel) ⟨Nat.le_of_ble_eq_true rfl, Nat.le_of_ble_eq_true rfl⟩) (z_preV hw (kd6l hf_2) (zG_6 hf_2) rfl [.int i]) rfl rfl hl.1 rfl (lv_room (Nat.le_of_ble_eq_true rfl)) dX2_take_38 ⟨Nat.le_of_ble_eq_true rfl, Nat.le_of_ble_eq_true rfl⟩) hw (fun H locs hw => ?_)
      refine lv_aload_n hx hb dX2_take_41 rfl (lv_at hl 1 rfl) ?_
      refine z_get (i := c.2.2 d.toNatClampNeg) hx hb hts hin0 hown hw (kd6l hf_2) (zG_6 hf_2) rfl 3 (by decide) (hts (.fieldLink RX2 78 "SeedDrawers$Content" "values" "[J") (by decide +kernel)) rfl rfl dX2_take_42 ?_
      refine lv_iload_n hx hb dX2_take_45 rfl (lv_at hl 4 rfl) ?_
      refine y_lald (i := (c.2.2 d.toNatClampNeg) + 9) hx hb hw (kd65l hf_2) (zG_5 (kd65 hf_2)) (fCome_in (by assumption) (hwf.2.1 _ (by assumption))) (k := i.toNatClampNeg) rfl dX2_take_46 ?_
      refine z_callv (rest := []) (va_runV (As := [.int (fKind c (c.2.2 d.toNatClampNeg) i), .long (c.2.1 ((c.2.2 d.toNatClampNeg) + 9) i.toNatClampNeg)]) (rest := []) ⟨hx, hb, hml, hown, hts⟩ (k_X2_hold l E c mo (fKind c (c.2.2 d.toNatClampNeg) i) (c.2.1 ((c.2.2 d.toNatClampNeg) + 9) i.toNatClampNeg) ) (cwV 2 hts gX2_take_X2_hold rfl rfl rfl (by decide +kernel) ⟨Nat.le_of_ble_eq_true rfl, Nat.le_of_ble_eq_true rfl⟩) (z_preV hw (by decide) zG_0 rfl [.int (fKind c (c.2.2 d.toNatClampNeg) i), .long (c.2.1 ((c.2.2 d.toNatClampNeg) + 9) i.toNatClampNeg)]) rfl rfl hl.1 rfl (lv_room (Nat.le_of_ble_eq_true rfl)) dX2_take_47 ⟨Nat.le_of_ble_eq_true rfl, Nat.le_of_ble_eq_true rfl⟩) hw (fun H locs hw => ?_)
      refine lv_aload_n hx hb dX2_take_50 rfl (lv_at hl 2 rfl) ?_
      refine z_get (i := 0) hx hb hts hin2 hown hw (by decide) zG_0 rfl 3 (by decide) (hts (.fieldLink RX2 23 "SeedDrawers" "handKind" "I") (by decide +kernel)) rfl rfl dX2_take_51 ?_
      exact z_iret hx hb hr hlocks hw dX2_take_54 (by first | (simp [rTake, sTake, q_1, q_3]; done) | (simp [rTake, sTake, q_1, q_3, hold, sI, sJ]; done)) (by first | (simp [rTake, sTake, q_1, q_3]; done) | (simp [rTake, sTake, q_1, q_3, hold, sI, sJ]; done)) rfl
    · have _ := hx
      refine lv_aload_n hx hb dX2_take_28 rfl (lv_at hl 2 rfl) ?_
      refine lv_iload hx hb dX2_take_29 (lv_at hl 0 rfl) ?_
      refine z_calli (rest := []) (va_runV (As := [.int (fCome c (c.2.2 d.toNatClampNeg) i)]) (rest := []) ⟨hx, hb, hml, hown, hts⟩ (k_X2_meet l E c mo (fCome c (c.2.2 d.toNatClampNeg) i) (fCome_5 _ _ _)) (cwV 1 hts gX2_take_X2_meet rfl rfl rfl (by decide +kernel) ⟨Nat.le_of_ble_eq_true rfl, Nat.le_of_ble_eq_true rfl⟩) (z_preV hw (by decide) zG_0 rfl [.int (fCome c (c.2.2 d.toNatClampNeg) i)]) rfl rfl hl.1 rfl (lv_room (Nat.le_of_ble_eq_true rfl)) dX2_take_31 ⟨Nat.le_of_ble_eq_true rfl, Nat.le_of_ble_eq_true rfl⟩) hw (fun H locs hw => ?_)
      exact z_iret hx hb hr hlocks hw dX2_take_34 (by first | (simp [rTake, sTake, q_1, q_3]; done) | (simp [rTake, sTake, q_1, q_3, hold, sI, sJ]; done)) (by first | (simp [rTake, sTake, q_1, q_3]; done) | (simp [rTake, sTake, q_1, q_3, hold, sI, sJ]; done)) rfl
  · have _ := hx
    refine lv_iconst (v := (-1)) hx hb dX2_take_7 (by decide) ?_
    exact z_iret hx hb hr hlocks hw dX2_take_8 (by first | (simp [rTake, sTake, q_1]; done) | (simp [rTake, sTake, q_1, hold, sI, sJ]; done)) (by first | (simp [rTake, sTake, q_1]; done) | (simp [rTake, sTake, q_1, hold, sI, sJ]; done)) rfl
set_option maxHeartbeats 4000000 in
set_option maxRecDepth 100000 in
theorem k_X2_lay (l : Launch) (E : zE) (c : zC) (mo : zM) (d : Int32) (i : Int32) (hwf : wfC c) : Met l yX2_lay wsX2_lay (zR 3 65) (zP E c mo [.ref (zl E 0), .int d, .int i]) (cQi E (rLay c d i) (sLay c d i) mo) 0 0 (zA E) := by
  refine z_ent (cc := cX2_lay) (maxL := 5) (ret := (some .int)) (vs := [.ref (zl E 0), .int d, .int i]) (by decide) rfl (Nat.le_of_ble_eq_true rfl) ?_
  intro p e s m below meth cd ls hx hb hr hml hown hts hlocks hl hw
  have hl : lv_has ls 5 [(0, .ref (zl E 0)), (1, .int d), (2, .int i)] := hl
  have hown : s.vm.findClass RX2 = some m.cls := hown
  have hin0 : ∀ w ∈ u_ws RX0 TX0 4, w ∈ wsX2_lay := by decide +kernel
  have hin2 : ∀ w ∈ u_ws RX2 TX2 12, w ∈ wsX2_lay := by decide +kernel
  refine lv_iload_n hx hb dX2_lay_0 rfl (lv_at hl 1 rfl) ?_
  refine z_calli (rest := []) (va_runS (As := [.int d]) (rest := []) ⟨hx, hb, hml, hown, hts⟩ (k_X2_isDrawer l E c mo d ) (va_cwS 1 hts gX2_lay_X2_isDrawer rfl rfl rfl (by decide +kernel) ⟨Nat.le_of_ble_eq_true rfl, Nat.le_of_ble_eq_true rfl⟩) (z_preS hw [.int d]) rfl rfl hl.1 rfl (lv_room (Nat.le_of_ble_eq_true rfl)) dX2_lay_1 ⟨Nat.le_of_ble_eq_true rfl, Nat.le_of_ble_eq_true rfl⟩) hw (fun H locs hw => ?_)
  refine lv_if_ne (tgt := 9) hx hb dX2_lay_4 (by decide) (fun q_1 => ?_) (fun q_1 => ?_)
  · have _ := hx
    refine lv_aload_n hx hb dX2_lay_9 rfl (lv_at hl 0 rfl) ?_
    refine z_get (i := 0) hx hb hts hin2 hown hw (by decide) zG_0 rfl 3 (by decide) (hts (.fieldLink RX2 23 "SeedDrawers" "handKind" "I") (by decide +kernel)) rfl rfl dX2_lay_10 ?_
    refine lv_bipush (v := (-9)) hx hb dX2_lay_13 (by decide) ?_
    refine lv_icmp_ne (tgt := 21) hx hb dX2_lay_15 (by decide) (fun q_2 => ?_) (fun q_2 => ?_)
    · have _ := hx
      refine lv_aload_n hx hb dX2_lay_21 rfl (lv_at hl 0 rfl) ?_
      refine z_get (i := 0) hx hb hts hin2 hown hw (by decide) zG_0 rfl 1 (by decide) (hts (.fieldLink RX2 16 "SeedDrawers" "drawers" "[LSeedDrawers$Content;") (by decide +kernel)) rfl rfl dX2_lay_22 ?_
      refine lv_iload_n hx hb dX2_lay_25 rfl (lv_at hl 1 rfl) ?_
      refine y_aald1 hx hb hw (isDr_in (by assumption)) (k := d.toNatClampNeg) rfl dX2_lay_26 ?_
      have hf_3 : kd (c.2.2 d.toNatClampNeg) = 6 := hwf.1 _ (in_lt (isDr_in (by assumption)))
      refine lv_astore_n (lv' := [(3, .ref (zl E (c.2.2 d.toNatClampNeg))), (0, .ref (zl E 0)), (1, .int d), (2, .int i)]) hx hb dX2_lay_27 rfl hl (by decide) rfl (fun ls hl => ?_)
      refine lv_aload_n hx hb dX2_lay_28 rfl (lv_at hl 0 rfl) ?_
      refine lv_iload_n hx hb dX2_lay_29 rfl (lv_at hl 3 rfl) ?_
      refine lv_aload_n hx hb dX2_lay_30 rfl (lv_at hl 1 rfl) ?_
      refine z_get (i := 0) hx hb hts hin2 hown hw (by decide) zG_0 rfl 3 (by decide) (hts (.fieldLink RX2 23 "SeedDrawers" "handKind" "I") (by decide +kernel)) rfl rfl dX2_lay_31 ?_
      refine z_calli (rest := []) (va_runV (As := [.int i, .int (c.1 0 3)]) (rest := []) ⟨hx, hb, hml, hown, hts⟩ (k_X0_faultOfLaying l E c mo (c.2.2 d.toNatClampNeg) i (c.1 0 3) hf_3) (cwV 2 hts gX2_lay_X0_faultOfLaying rfl rfl rfl (by decide +kernel) ⟨Nat.le_of_ble_eq_true rfl, Nat.le_of_ble_eq_true rfl⟩) (z_preV hw (kd6l hf_3) (zG_6 hf_3) rfl [.int i, .int (c.1 0 3)]) rfl rfl hl.1 rfl (lv_room (Nat.le_of_ble_eq_true rfl)) dX2_lay_34 ⟨Nat.le_of_ble_eq_true rfl, Nat.le_of_ble_eq_true rfl⟩) hw (fun H locs hw => ?_)
      refine lv_istore (lv' := [(4, .int (fLay c (c.2.2 d.toNatClampNeg) i (c.1 0 3))), (3, .ref (zl E (c.2.2 d.toNatClampNeg))), (0, .ref (zl E 0)), (1, .int d), (2, .int i)]) hx hb dX2_lay_37 hl (by decide) rfl (fun ls hl => ?_)
      refine lv_iload hx hb dX2_lay_39 (lv_at hl 0 rfl) ?_
      refine lv_if_eq (tgt := 51) hx hb dX2_lay_41 (by decide) (fun q_4 => ?_) (fun q_4 => ?_)
      · have _ := hx
        refine lv_aload_n hx hb dX2_lay_51 rfl (lv_at hl 1 rfl) ?_
        refine z_get (i := c.2.2 d.toNatClampNeg) hx hb hts hin0 hown hw (kd6l hf_3) (zG_6 hf_3) rfl 3 (by decide) (hts (.fieldLink RX2 78 "SeedDrawers$Content" "values" "[J") (by decide +kernel)) rfl rfl dX2_lay_52 ?_
        refine lv_iload_n hx hb dX2_lay_55 rfl (lv_at hl 4 rfl) ?_
        refine lv_aload_n hx hb dX2_lay_56 rfl (lv_at hl 2 rfl) ?_
        refine z_get (i := 0) hx hb hts hin2 hown hw (by decide) zG_0 rfl 4 (by decide) (hts (.fieldLink RX2 86 "SeedDrawers" "handValue" "J") (by decide +kernel)) rfl rfl dX2_lay_57 ?_
        refine y_last5 (i := (c.2.2 d.toNatClampNeg) + 9) hx hb hw (kd65l hf_3) (kd65 hf_3) (fLay_in (by assumption) (hwf.2.1 _ (by assumption))) (k := i.toNatClampNeg) rfl dX2_lay_60 (fun H locs hw => ?_)
        refine lv_iconst (v := 1) hx hb dX2_lay_61 (by decide) ?_
        exact z_iret hx hb hr hlocks hw dX2_lay_62 (by first | (simp [rLay, sLay, q_1, q_2, q_4]; done) | (simp_all [rLay, sLay]; done)) (by first | (simp [rLay, sLay, q_1, q_2, q_4]; done) | (simp_all [rLay, sLay]; done)) rfl
      · have _ := hx
        refine lv_aload_n hx hb dX2_lay_44 rfl (lv_at hl 2 rfl) ?_
        refine lv_iload hx hb dX2_lay_45 (lv_at hl 0 rfl) ?_
        refine z_calli (rest := []) (va_runV (As := [.int (fLay c (c.2.2 d.toNatClampNeg) i (c.1 0 3))]) (rest := []) ⟨hx, hb, hml, hown, hts⟩ (k_X2_meet l E c mo (fLay c (c.2.2 d.toNatClampNeg) i (c.1 0 3)) (fLay_5 _ _ _ _)) (cwV 1 hts gX2_lay_X2_meet rfl rfl rfl (by decide +kernel) ⟨Nat.le_of_ble_eq_true rfl, Nat.le_of_ble_eq_true rfl⟩) (z_preV hw (by decide) zG_0 rfl [.int (fLay c (c.2.2 d.toNatClampNeg) i (c.1 0 3))]) rfl rfl hl.1 rfl (lv_room (Nat.le_of_ble_eq_true rfl)) dX2_lay_47 ⟨Nat.le_of_ble_eq_true rfl, Nat.le_of_ble_eq_true rfl⟩) hw (fun H locs hw => ?_)
        exact z_iret hx hb hr hlocks hw dX2_lay_50 (by first | (simp [rLay, sLay, q_1, q_2, q_4]; done) | (simp_all [rLay, sLay]; done)) (by first | (simp [rLay, sLay, q_1, q_2, q_4]; done) | (simp_all [rLay, sLay]; done)) rfl
    · have _ := hx
      refine lv_bipush (v := (-3)) hx hb dX2_lay_18 (by decide) ?_
      exact z_iret hx hb hr hlocks hw dX2_lay_20 (by first | (simp [rLay, sLay, q_1, q_2]; done) | (simp_all [rLay, sLay]; done)) (by first | (simp [rLay, sLay, q_1, q_2]; done) | (simp_all [rLay, sLay]; done)) rfl
  · have _ := hx
    refine lv_iconst (v := (-1)) hx hb dX2_lay_7 (by decide) ?_
    exact z_iret hx hb hr hlocks hw dX2_lay_8 (by first | (simp [rLay, sLay, q_1]; done) | (simp_all [rLay, sLay]; done)) (by first | (simp [rLay, sLay, q_1]; done) | (simp_all [rLay, sLay]; done)) rfl
set_option maxHeartbeats 4000000 in
set_option maxRecDepth 100000 in
theorem k_X2_size (l : Launch) (E : zE) (c : zC) (mo : zM) (d : Int32) (hwf : wfC c) : Met l yX2_size wsX2_size (zR 1 21) (zP E c mo [.ref (zl E 0), .int d]) (cQi E (rSize c d) (sFau c d) mo) 0 0 (zA E) := by
  refine z_ent (cc := cX2_size) (maxL := 3) (ret := (some .int)) (vs := [.ref (zl E 0), .int d]) (by decide) rfl (Nat.le_of_ble_eq_true rfl) ?_
  intro p e s m below meth cd ls hx hb hr hml hown hts hlocks hl hw
  have hl : lv_has ls 3 [(0, .ref (zl E 0)), (1, .int d)] := hl
  have hown : s.vm.findClass RX2 = some m.cls := hown
  have hin0 : ∀ w ∈ u_ws RX0 TX0 4, w ∈ wsX2_size := by decide +kernel
  have hin2 : ∀ w ∈ u_ws RX2 TX2 12, w ∈ wsX2_size := by decide +kernel
  refine lv_iload_n hx hb dX2_size_0 rfl (lv_at hl 1 rfl) ?_
  refine z_calli (rest := []) (va_runS (As := [.int d]) (rest := []) ⟨hx, hb, hml, hown, hts⟩ (k_X2_isDrawer l E c mo d ) (va_cwS 1 hts gX2_size_X2_isDrawer rfl rfl rfl (by decide +kernel) ⟨Nat.le_of_ble_eq_true rfl, Nat.le_of_ble_eq_true rfl⟩) (z_preS hw [.int d]) rfl rfl hl.1 rfl (lv_room (Nat.le_of_ble_eq_true rfl)) dX2_size_1 ⟨Nat.le_of_ble_eq_true rfl, Nat.le_of_ble_eq_true rfl⟩) hw (fun H locs hw => ?_)
  refine lv_if_ne (tgt := 9) hx hb dX2_size_4 (by decide) (fun q_1 => ?_) (fun q_1 => ?_)
  · have _ := hx
    refine lv_aload_n hx hb dX2_size_9 rfl (lv_at hl 0 rfl) ?_
    refine z_get (i := 0) hx hb hts hin2 hown hw (by decide) zG_0 rfl 1 (by decide) (hts (.fieldLink RX2 16 "SeedDrawers" "drawers" "[LSeedDrawers$Content;") (by decide +kernel)) rfl rfl dX2_size_10 ?_
    refine lv_iload_n hx hb dX2_size_13 rfl (lv_at hl 1 rfl) ?_
    refine y_aald1 hx hb hw (isDr_in (by assumption)) (k := d.toNatClampNeg) rfl dX2_size_14 ?_
    have hf_2 : kd (c.2.2 d.toNatClampNeg) = 6 := hwf.1 _ (in_lt (isDr_in (by assumption)))
    refine z_calli (rest := []) (va_runV (As := []) (rest := []) ⟨hx, hb, hml, hown, hts⟩ (k_X0_faultOfRow l E c mo (c.2.2 d.toNatClampNeg) hf_2) (cwV 0 hts gX2_size_X0_faultOfRow rfl rfl rfl (by decide +kernel) ⟨Nat.le_of_ble_eq_true rfl, Nat.le_of_ble_eq_true rfl⟩) (z_preV hw (kd6l hf_2) (zG_6 hf_2) rfl []) rfl rfl hl.1 rfl (lv_room (Nat.le_of_ble_eq_true rfl)) dX2_size_15 ⟨Nat.le_of_ble_eq_true rfl, Nat.le_of_ble_eq_true rfl⟩) hw (fun H locs hw => ?_)
    refine lv_istore_n (lv' := [(2, .int (fRow c (c.2.2 d.toNatClampNeg))), (0, .ref (zl E 0)), (1, .int d)]) hx hb dX2_size_18 rfl hl (by decide) rfl (fun ls hl => ?_)
    refine lv_iload_n hx hb dX2_size_19 rfl (lv_at hl 0 rfl) ?_
    refine lv_if_eq (tgt := 31) hx hb dX2_size_20 (by decide) (fun q_3 => ?_) (fun q_3 => ?_)
    · have _ := hx
      refine lv_aload_n hx hb dX2_size_31 rfl (lv_at hl 1 rfl) ?_
      refine z_get (i := 0) hx hb hts hin2 hown hw (by decide) zG_0 rfl 1 (by decide) (hts (.fieldLink RX2 16 "SeedDrawers" "drawers" "[LSeedDrawers$Content;") (by decide +kernel)) rfl rfl dX2_size_32 ?_
      refine lv_iload_n hx hb dX2_size_35 rfl (lv_at hl 2 rfl) ?_
      refine y_aald1 hx hb hw (isDr_in (by assumption)) (k := d.toNatClampNeg) rfl dX2_size_36 ?_
      refine z_get (i := c.2.2 d.toNatClampNeg) hx hb hts hin0 hown hw (kd6l hf_2) (zG_6 hf_2) rfl 2 (by decide) (hts (.fieldLink RX2 94 "SeedDrawers$Content" "places" "I") (by decide +kernel)) rfl rfl dX2_size_37 ?_
      exact z_iret hx hb hr hlocks hw dX2_size_40 (by first | (simp [rSize, sFau, q_1, q_3]; done) | (simp_all [rSize, sFau]; done)) (by first | (simp [rSize, sFau, q_1, q_3]; done) | (simp_all [rSize, sFau]; done)) rfl
    · have _ := hx
      refine lv_aload_n hx hb dX2_size_23 rfl (lv_at hl 1 rfl) ?_
      refine lv_iload_n hx hb dX2_size_24 rfl (lv_at hl 0 rfl) ?_
      refine z_calli (rest := []) (va_runV (As := [.int (fRow c (c.2.2 d.toNatClampNeg))]) (rest := []) ⟨hx, hb, hml, hown, hts⟩ (k_X2_meet l E c mo (fRow c (c.2.2 d.toNatClampNeg)) (fRow_5 _ _)) (cwV 1 hts gX2_size_X2_meet rfl rfl rfl (by decide +kernel) ⟨Nat.le_of_ble_eq_true rfl, Nat.le_of_ble_eq_true rfl⟩) (z_preV hw (by decide) zG_0 rfl [.int (fRow c (c.2.2 d.toNatClampNeg))]) rfl rfl hl.1 rfl (lv_room (Nat.le_of_ble_eq_true rfl)) dX2_size_25 ⟨Nat.le_of_ble_eq_true rfl, Nat.le_of_ble_eq_true rfl⟩) hw (fun H locs hw => ?_)
      refine lv_goto (tgt := 40) hx hb dX2_size_28 (by decide) ?_
      exact z_iret hx hb hr hlocks hw dX2_size_40 (by first | (simp [rSize, sFau, q_1, q_3]; done) | (simp_all [rSize, sFau]; done)) (by first | (simp [rSize, sFau, q_1, q_3]; done) | (simp_all [rSize, sFau]; done)) rfl
  · have _ := hx
    refine lv_iconst (v := (-1)) hx hb dX2_size_7 (by decide) ?_
    exact z_iret hx hb hr hlocks hw dX2_size_8 (by first | (simp [rSize, sFau, q_1]; done) | (simp_all [rSize, sFau]; done)) (by first | (simp [rSize, sFau, q_1]; done) | (simp_all [rSize, sFau]; done)) rfl
set_option maxHeartbeats 4000000 in
set_option maxRecDepth 100000 in
theorem k_X2_turn (l : Launch) (E : zE) (c : zC) (mo : zM) (d : Int32) (hwf : wfC c) : Met l yX2_turn wsX2_turn (zR 1 24) (zP E c mo [.ref (zl E 0), .int d]) (cQi E (rTurn c d) (sTurn c d) mo) 0 0 (zA E) := by
  refine z_ent (cc := cX2_turn) (maxL := 3) (ret := (some .int)) (vs := [.ref (zl E 0), .int d]) (by decide) rfl (Nat.le_of_ble_eq_true rfl) ?_
  intro p e s m below meth cd ls hx hb hr hml hown hts hlocks hl hw
  have hl : lv_has ls 3 [(0, .ref (zl E 0)), (1, .int d)] := hl
  have hown : s.vm.findClass RX2 = some m.cls := hown
  have hin2 : ∀ w ∈ u_ws RX2 TX2 12, w ∈ wsX2_turn := by decide +kernel
  refine lv_iload_n hx hb dX2_turn_0 rfl (lv_at hl 1 rfl) ?_
  refine z_calli (rest := []) (va_runS (As := [.int d]) (rest := []) ⟨hx, hb, hml, hown, hts⟩ (k_X2_isDrawer l E c mo d ) (va_cwS 1 hts gX2_turn_X2_isDrawer rfl rfl rfl (by decide +kernel) ⟨Nat.le_of_ble_eq_true rfl, Nat.le_of_ble_eq_true rfl⟩) (z_preS hw [.int d]) rfl rfl hl.1 rfl (lv_room (Nat.le_of_ble_eq_true rfl)) dX2_turn_1 ⟨Nat.le_of_ble_eq_true rfl, Nat.le_of_ble_eq_true rfl⟩) hw (fun H locs hw => ?_)
  refine lv_if_ne (tgt := 9) hx hb dX2_turn_4 (by decide) (fun q_1 => ?_) (fun q_1 => ?_)
  · have _ := hx
    refine lv_aload_n hx hb dX2_turn_9 rfl (lv_at hl 0 rfl) ?_
    refine z_get (i := 0) hx hb hts hin2 hown hw (by decide) zG_0 rfl 1 (by decide) (hts (.fieldLink RX2 16 "SeedDrawers" "drawers" "[LSeedDrawers$Content;") (by decide +kernel)) rfl rfl dX2_turn_10 ?_
    refine lv_iload_n hx hb dX2_turn_13 rfl (lv_at hl 1 rfl) ?_
    refine y_aald1 hx hb hw (isDr_in (by assumption)) (k := d.toNatClampNeg) rfl dX2_turn_14 ?_
    have hf_2 : kd (c.2.2 d.toNatClampNeg) = 6 := hwf.1 _ (in_lt (isDr_in (by assumption)))
    refine z_calli (rest := []) (va_runV (As := []) (rest := []) ⟨hx, hb, hml, hown, hts⟩ (k_X0_faultOfRow l E c mo (c.2.2 d.toNatClampNeg) hf_2) (cwV 0 hts gX2_turn_X0_faultOfRow rfl rfl rfl (by decide +kernel) ⟨Nat.le_of_ble_eq_true rfl, Nat.le_of_ble_eq_true rfl⟩) (z_preV hw (kd6l hf_2) (zG_6 hf_2) rfl []) rfl rfl hl.1 rfl (lv_room (Nat.le_of_ble_eq_true rfl)) dX2_turn_15 ⟨Nat.le_of_ble_eq_true rfl, Nat.le_of_ble_eq_true rfl⟩) hw (fun H locs hw => ?_)
    refine lv_istore_n (lv' := [(2, .int (fRow c (c.2.2 d.toNatClampNeg))), (0, .ref (zl E 0)), (1, .int d)]) hx hb dX2_turn_18 rfl hl (by decide) rfl (fun ls hl => ?_)
    refine lv_iload_n hx hb dX2_turn_19 rfl (lv_at hl 0 rfl) ?_
    refine lv_if_eq (tgt := 31) hx hb dX2_turn_20 (by decide) (fun q_3 => ?_) (fun q_3 => ?_)
    · have _ := hx
      refine lv_aload_n hx hb dX2_turn_31 rfl (lv_at hl 1 rfl) ?_
      refine z_get (i := 0) hx hb hts hin2 hown hw (by decide) zG_0 rfl 1 (by decide) (hts (.fieldLink RX2 16 "SeedDrawers" "drawers" "[LSeedDrawers$Content;") (by decide +kernel)) rfl rfl dX2_turn_32 ?_
      refine lv_iload_n hx hb dX2_turn_35 rfl (lv_at hl 2 rfl) ?_
      refine y_aald1 hx hb hw (isDr_in (by assumption)) (k := d.toNatClampNeg) rfl dX2_turn_36 ?_
      refine z_calli (rest := []) (va_runV (As := []) (rest := []) ⟨hx, hb, hml, hown, hts⟩ (k_X0_reverse l E c mo (c.2.2 d.toNatClampNeg) hf_2 (hwf.2.1 _ hf_2)) (cwV 0 hts gX2_turn_X0_reverse rfl rfl rfl (by decide +kernel) ⟨Nat.le_of_ble_eq_true rfl, Nat.le_of_ble_eq_true rfl⟩) (z_preV hw (kd6l hf_2) (zG_6 hf_2) rfl []) rfl rfl hl.1 rfl (lv_room (Nat.le_of_ble_eq_true rfl)) dX2_turn_37 ⟨Nat.le_of_ble_eq_true rfl, Nat.le_of_ble_eq_true rfl⟩) hw (fun H locs hw => ?_)
      exact z_iret hx hb hr hlocks hw dX2_turn_40 (by first | (simp [rTurn, sTurn, q_1, q_3]; done) | (simp_all [rTurn, sTurn]; done)) (by first | (simp [rTurn, sTurn, q_1, q_3]; done) | (simp_all [rTurn, sTurn]; done)) rfl
    · have _ := hx
      refine lv_aload_n hx hb dX2_turn_23 rfl (lv_at hl 1 rfl) ?_
      refine lv_iload_n hx hb dX2_turn_24 rfl (lv_at hl 0 rfl) ?_
      refine z_calli (rest := []) (va_runV (As := [.int (fRow c (c.2.2 d.toNatClampNeg))]) (rest := []) ⟨hx, hb, hml, hown, hts⟩ (k_X2_meet l E c mo (fRow c (c.2.2 d.toNatClampNeg)) (fRow_5 _ _)) (cwV 1 hts gX2_turn_X2_meet rfl rfl rfl (by decide +kernel) ⟨Nat.le_of_ble_eq_true rfl, Nat.le_of_ble_eq_true rfl⟩) (z_preV hw (by decide) zG_0 rfl [.int (fRow c (c.2.2 d.toNatClampNeg))]) rfl rfl hl.1 rfl (lv_room (Nat.le_of_ble_eq_true rfl)) dX2_turn_25 ⟨Nat.le_of_ble_eq_true rfl, Nat.le_of_ble_eq_true rfl⟩) hw (fun H locs hw => ?_)
      refine lv_goto (tgt := 40) hx hb dX2_turn_28 (by decide) ?_
      exact z_iret hx hb hr hlocks hw dX2_turn_40 (by first | (simp [rTurn, sTurn, q_1, q_3]; done) | (simp_all [rTurn, sTurn]; done)) (by first | (simp [rTurn, sTurn, q_1, q_3]; done) | (simp_all [rTurn, sTurn]; done)) rfl
  · have _ := hx
    refine lv_iconst (v := (-1)) hx hb dX2_turn_7 (by decide) ?_
    exact z_iret hx hb hr hlocks hw dX2_turn_8 (by first | (simp [rTurn, sTurn, q_1]; done) | (simp_all [rTurn, sTurn]; done)) (by first | (simp [rTurn, sTurn, q_1]; done) | (simp_all [rTurn, sTurn]; done)) rfl
set_option maxHeartbeats 4000000 in
set_option maxRecDepth 100000 in
theorem k_X2_sum (l : Launch) (E : zE) (c : zC) (mo : zM) (d : Int32) (hwf : wfC c) : Met l yX2_sum wsX2_sum (zR 1 23) (zP E c mo [.ref (zl E 0), .int d]) (cQl E (rSum c d) (sFau c d) mo) 0 0 (zA E) := by
  refine z_ent (cc := cX2_sum) (maxL := 3) (ret := (some .long)) (vs := [.ref (zl E 0), .int d]) (by decide) rfl (Nat.le_of_ble_eq_true rfl) ?_
  intro p e s m below meth cd ls hx hb hr hml hown hts hlocks hl hw
  have hl : lv_has ls 3 [(0, .ref (zl E 0)), (1, .int d)] := hl
  have hown : s.vm.findClass RX2 = some m.cls := hown
  have hin2 : ∀ w ∈ u_ws RX2 TX2 12, w ∈ wsX2_sum := by decide +kernel
  refine lv_iload_n hx hb dX2_sum_0 rfl (lv_at hl 1 rfl) ?_
  refine z_calli (rest := []) (va_runS (As := [.int d]) (rest := []) ⟨hx, hb, hml, hown, hts⟩ (k_X2_isDrawer l E c mo d ) (va_cwS 1 hts gX2_sum_X2_isDrawer rfl rfl rfl (by decide +kernel) ⟨Nat.le_of_ble_eq_true rfl, Nat.le_of_ble_eq_true rfl⟩) (z_preS hw [.int d]) rfl rfl hl.1 rfl (lv_room (Nat.le_of_ble_eq_true rfl)) dX2_sum_1 ⟨Nat.le_of_ble_eq_true rfl, Nat.le_of_ble_eq_true rfl⟩) hw (fun H locs hw => ?_)
  refine lv_if_ne (tgt := 9) hx hb dX2_sum_4 (by decide) (fun q_1 => ?_) (fun q_1 => ?_)
  · have _ := hx
    refine lv_aload_n hx hb dX2_sum_9 rfl (lv_at hl 0 rfl) ?_
    refine z_get (i := 0) hx hb hts hin2 hown hw (by decide) zG_0 rfl 1 (by decide) (hts (.fieldLink RX2 16 "SeedDrawers" "drawers" "[LSeedDrawers$Content;") (by decide +kernel)) rfl rfl dX2_sum_10 ?_
    refine lv_iload_n hx hb dX2_sum_13 rfl (lv_at hl 1 rfl) ?_
    refine y_aald1 hx hb hw (isDr_in (by assumption)) (k := d.toNatClampNeg) rfl dX2_sum_14 ?_
    have hf_2 : kd (c.2.2 d.toNatClampNeg) = 6 := hwf.1 _ (in_lt (isDr_in (by assumption)))
    refine z_calli (rest := []) (va_runV (As := []) (rest := []) ⟨hx, hb, hml, hown, hts⟩ (k_X0_faultOfRow l E c mo (c.2.2 d.toNatClampNeg) hf_2) (cwV 0 hts gX2_sum_X0_faultOfRow rfl rfl rfl (by decide +kernel) ⟨Nat.le_of_ble_eq_true rfl, Nat.le_of_ble_eq_true rfl⟩) (z_preV hw (kd6l hf_2) (zG_6 hf_2) rfl []) rfl rfl hl.1 rfl (lv_room (Nat.le_of_ble_eq_true rfl)) dX2_sum_15 ⟨Nat.le_of_ble_eq_true rfl, Nat.le_of_ble_eq_true rfl⟩) hw (fun H locs hw => ?_)
    refine lv_istore_n (lv' := [(2, .int (fRow c (c.2.2 d.toNatClampNeg))), (0, .ref (zl E 0)), (1, .int d)]) hx hb dX2_sum_18 rfl hl (by decide) rfl (fun ls hl => ?_)
    refine lv_iload_n hx hb dX2_sum_19 rfl (lv_at hl 0 rfl) ?_
    refine lv_if_eq (tgt := 31) hx hb dX2_sum_20 (by decide) (fun q_3 => ?_) (fun q_3 => ?_)
    · have _ := hx
      refine lv_aload_n hx hb dX2_sum_31 rfl (lv_at hl 1 rfl) ?_
      refine z_get (i := 0) hx hb hts hin2 hown hw (by decide) zG_0 rfl 1 (by decide) (hts (.fieldLink RX2 16 "SeedDrawers" "drawers" "[LSeedDrawers$Content;") (by decide +kernel)) rfl rfl dX2_sum_32 ?_
      refine lv_iload_n hx hb dX2_sum_35 rfl (lv_at hl 2 rfl) ?_
      refine y_aald1 hx hb hw (isDr_in (by assumption)) (k := d.toNatClampNeg) rfl dX2_sum_36 ?_
      refine z_calll (rest := []) (va_runV (As := []) (rest := []) ⟨hx, hb, hml, hown, hts⟩ (k_X0_total l E c mo (c.2.2 d.toNatClampNeg) hf_2 (hwf.2.1 _ hf_2)) (cwV 0 hts gX2_sum_X0_total rfl rfl rfl (by decide +kernel) ⟨Nat.le_of_ble_eq_true rfl, Nat.le_of_ble_eq_true rfl⟩) (z_preV hw (kd6l hf_2) (zG_6 hf_2) rfl []) rfl rfl hl.1 rfl (lv_room (Nat.le_of_ble_eq_true rfl)) dX2_sum_37 ⟨Nat.le_of_ble_eq_true rfl, Nat.le_of_ble_eq_true rfl⟩) hw (fun H locs hw => ?_)
      exact z_lret hx hb hr hlocks hw dX2_sum_40 (by first | (simp [rSum, sFau, q_1, q_3]; done) | (simp_all [rSum, sFau]; done)) (by first | (simp [rSum, sFau, q_1, q_3]; done) | (simp_all [rSum, sFau]; done)) rfl
    · have _ := hx
      refine lv_aload_n hx hb dX2_sum_23 rfl (lv_at hl 1 rfl) ?_
      refine lv_iload_n hx hb dX2_sum_24 rfl (lv_at hl 0 rfl) ?_
      refine z_calli (rest := []) (va_runV (As := [.int (fRow c (c.2.2 d.toNatClampNeg))]) (rest := []) ⟨hx, hb, hml, hown, hts⟩ (k_X2_meet l E c mo (fRow c (c.2.2 d.toNatClampNeg)) (fRow_5 _ _)) (cwV 1 hts gX2_sum_X2_meet rfl rfl rfl (by decide +kernel) ⟨Nat.le_of_ble_eq_true rfl, Nat.le_of_ble_eq_true rfl⟩) (z_preV hw (by decide) zG_0 rfl [.int (fRow c (c.2.2 d.toNatClampNeg))]) rfl rfl hl.1 rfl (lv_room (Nat.le_of_ble_eq_true rfl)) dX2_sum_25 ⟨Nat.le_of_ble_eq_true rfl, Nat.le_of_ble_eq_true rfl⟩) hw (fun H locs hw => ?_)
      refine lv_pop hx hb dX2_sum_28 rfl ?_
      refine lv_lconst (v := 0) hx hb dX2_sum_29 (by decide) ?_
      exact z_lret hx hb hr hlocks hw dX2_sum_30 (by first | (simp [rSum, sFau, q_1, q_3]; done) | (simp_all [rSum, sFau]; done)) (by first | (simp [rSum, sFau, q_1, q_3]; done) | (simp_all [rSum, sFau]; done)) rfl
  · have _ := hx
    refine lv_lconst (v := 0) hx hb dX2_sum_7 (by decide) ?_
    exact z_lret hx hb hr hlocks hw dX2_sum_8 (by first | (simp [rSum, sFau, q_1]; done) | (simp_all [rSum, sFau]; done)) (by first | (simp [rSum, sFau, q_1]; done) | (simp_all [rSum, sFau]; done)) rfl
set_option maxHeartbeats 4000000 in
set_option maxRecDepth 100000 in
theorem k_X2_find (l : Launch) (E : zE) (c : zC) (mo : zM) (d : Int32) (hwf : wfC c) : Met l yX2_find wsX2_find (zR 2 46) (zP E c mo [.ref (zl E 0), .int d]) (cQi E (rFind c d) (sFau c d) mo) 0 0 (zA E) := by
  refine z_ent (cc := cX2_find) (maxL := 3) (ret := (some .int)) (vs := [.ref (zl E 0), .int d]) (by decide) rfl (Nat.le_of_ble_eq_true rfl) ?_
  intro p e s m below meth cd ls hx hb hr hml hown hts hlocks hl hw
  have hl : lv_has ls 3 [(0, .ref (zl E 0)), (1, .int d)] := hl
  have hown : s.vm.findClass RX2 = some m.cls := hown
  have hin2 : ∀ w ∈ u_ws RX2 TX2 12, w ∈ wsX2_find := by decide +kernel
  refine lv_iload_n hx hb dX2_find_0 rfl (lv_at hl 1 rfl) ?_
  refine z_calli (rest := []) (va_runS (As := [.int d]) (rest := []) ⟨hx, hb, hml, hown, hts⟩ (k_X2_isDrawer l E c mo d ) (va_cwS 1 hts gX2_find_X2_isDrawer rfl rfl rfl (by decide +kernel) ⟨Nat.le_of_ble_eq_true rfl, Nat.le_of_ble_eq_true rfl⟩) (z_preS hw [.int d]) rfl rfl hl.1 rfl (lv_room (Nat.le_of_ble_eq_true rfl)) dX2_find_1 ⟨Nat.le_of_ble_eq_true rfl, Nat.le_of_ble_eq_true rfl⟩) hw (fun H locs hw => ?_)
  refine lv_if_ne (tgt := 9) hx hb dX2_find_4 (by decide) (fun q_1 => ?_) (fun q_1 => ?_)
  · have _ := hx
    refine lv_aload_n hx hb dX2_find_9 rfl (lv_at hl 0 rfl) ?_
    refine z_get (i := 0) hx hb hts hin2 hown hw (by decide) zG_0 rfl 1 (by decide) (hts (.fieldLink RX2 16 "SeedDrawers" "drawers" "[LSeedDrawers$Content;") (by decide +kernel)) rfl rfl dX2_find_10 ?_
    refine lv_iload_n hx hb dX2_find_13 rfl (lv_at hl 1 rfl) ?_
    refine y_aald1 hx hb hw (isDr_in (by assumption)) (k := d.toNatClampNeg) rfl dX2_find_14 ?_
    have hf_2 : kd (c.2.2 d.toNatClampNeg) = 6 := hwf.1 _ (in_lt (isDr_in (by assumption)))
    refine z_calli (rest := []) (va_runV (As := []) (rest := []) ⟨hx, hb, hml, hown, hts⟩ (k_X0_faultOfRow l E c mo (c.2.2 d.toNatClampNeg) hf_2) (cwV 0 hts gX2_find_X0_faultOfRow rfl rfl rfl (by decide +kernel) ⟨Nat.le_of_ble_eq_true rfl, Nat.le_of_ble_eq_true rfl⟩) (z_preV hw (kd6l hf_2) (zG_6 hf_2) rfl []) rfl rfl hl.1 rfl (lv_room (Nat.le_of_ble_eq_true rfl)) dX2_find_15 ⟨Nat.le_of_ble_eq_true rfl, Nat.le_of_ble_eq_true rfl⟩) hw (fun H locs hw => ?_)
    refine lv_istore_n (lv' := [(2, .int (fRow c (c.2.2 d.toNatClampNeg))), (0, .ref (zl E 0)), (1, .int d)]) hx hb dX2_find_18 rfl hl (by decide) rfl (fun ls hl => ?_)
    refine lv_iload_n hx hb dX2_find_19 rfl (lv_at hl 0 rfl) ?_
    refine lv_if_eq (tgt := 31) hx hb dX2_find_20 (by decide) (fun q_3 => ?_) (fun q_3 => ?_)
    · have _ := hx
      refine lv_aload_n hx hb dX2_find_31 rfl (lv_at hl 1 rfl) ?_
      refine z_get (i := 0) hx hb hts hin2 hown hw (by decide) zG_0 rfl 1 (by decide) (hts (.fieldLink RX2 16 "SeedDrawers" "drawers" "[LSeedDrawers$Content;") (by decide +kernel)) rfl rfl dX2_find_32 ?_
      refine lv_iload_n hx hb dX2_find_35 rfl (lv_at hl 2 rfl) ?_
      refine y_aald1 hx hb hw (isDr_in (by assumption)) (k := d.toNatClampNeg) rfl dX2_find_36 ?_
      refine lv_aload_n hx hb dX2_find_37 rfl (lv_at hl 1 rfl) ?_
      refine z_get (i := 0) hx hb hts hin2 hown hw (by decide) zG_0 rfl 3 (by decide) (hts (.fieldLink RX2 23 "SeedDrawers" "handKind" "I") (by decide +kernel)) rfl rfl dX2_find_38 ?_
      refine lv_aload_n hx hb dX2_find_41 rfl (lv_at hl 1 rfl) ?_
      refine z_get (i := 0) hx hb hts hin2 hown hw (by decide) zG_0 rfl 4 (by decide) (hts (.fieldLink RX2 86 "SeedDrawers" "handValue" "J") (by decide +kernel)) rfl rfl dX2_find_42 ?_
      refine z_calli (rest := []) (va_runV (As := [.int (c.1 0 3), .long (c.2.1 0 4)]) (rest := []) ⟨hx, hb, hml, hown, hts⟩ (k_X0_firstPlaceOf l E c mo (c.2.2 d.toNatClampNeg) (c.1 0 3) (c.2.1 0 4) hf_2 (hwf.2.1 _ hf_2)) (cwV 2 hts gX2_find_X0_firstPlaceOf rfl rfl rfl (by decide +kernel) ⟨Nat.le_of_ble_eq_true rfl, Nat.le_of_ble_eq_true rfl⟩) (z_preV hw (kd6l hf_2) (zG_6 hf_2) rfl [.int (c.1 0 3), .long (c.2.1 0 4)]) rfl rfl hl.1 rfl (lv_room (Nat.le_of_ble_eq_true rfl)) dX2_find_45 ⟨Nat.le_of_ble_eq_true rfl, Nat.le_of_ble_eq_true rfl⟩) hw (fun H locs hw => ?_)
      exact z_iret hx hb hr hlocks hw dX2_find_48 (by first | (simp [rFind, sFau, q_1, q_3]; done) | (simp_all [rFind, sFau]; done)) (by first | (simp [rFind, sFau, q_1, q_3]; done) | (simp_all [rFind, sFau]; done)) rfl
    · have _ := hx
      refine lv_aload_n hx hb dX2_find_23 rfl (lv_at hl 1 rfl) ?_
      refine lv_iload_n hx hb dX2_find_24 rfl (lv_at hl 0 rfl) ?_
      refine z_calli (rest := []) (va_runV (As := [.int (fRow c (c.2.2 d.toNatClampNeg))]) (rest := []) ⟨hx, hb, hml, hown, hts⟩ (k_X2_meet l E c mo (fRow c (c.2.2 d.toNatClampNeg)) (fRow_5 _ _)) (cwV 1 hts gX2_find_X2_meet rfl rfl rfl (by decide +kernel) ⟨Nat.le_of_ble_eq_true rfl, Nat.le_of_ble_eq_true rfl⟩) (z_preV hw (by decide) zG_0 rfl [.int (fRow c (c.2.2 d.toNatClampNeg))]) rfl rfl hl.1 rfl (lv_room (Nat.le_of_ble_eq_true rfl)) dX2_find_25 ⟨Nat.le_of_ble_eq_true rfl, Nat.le_of_ble_eq_true rfl⟩) hw (fun H locs hw => ?_)
      refine lv_goto (tgt := 48) hx hb dX2_find_28 (by decide) ?_
      exact z_iret hx hb hr hlocks hw dX2_find_48 (by first | (simp [rFind, sFau, q_1, q_3]; done) | (simp_all [rFind, sFau]; done)) (by first | (simp [rFind, sFau, q_1, q_3]; done) | (simp_all [rFind, sFau]; done)) rfl
  · have _ := hx
    refine lv_iconst (v := (-1)) hx hb dX2_find_7 (by decide) ?_
    exact z_iret hx hb hr hlocks hw dX2_find_8 (by first | (simp [rFind, sFau, q_1]; done) | (simp_all [rFind, sFau]; done)) (by first | (simp [rFind, sFau, q_1]; done) | (simp_all [rFind, sFau]; done)) rfl
set_option maxHeartbeats 4000000 in
set_option maxRecDepth 100000 in
theorem k_X2_pourOne (l : Launch) (E : zE) (c : zC) (mo : zM) (a : Nat) (i : Int32) (b : Nat) (j : Int32) (ha : kd a = 6) (hb_ : kd b = 6) (pa : plOk c a) (pb : plOk c b) : Met l yX2_pourOne wsX2_pourOne (zR 3 65) (zP E c mo [.ref (zl E a), .int i, .ref (zl E b), .int j]) (cQi E (fPo c a i b j) (sPo c a i b j) mo) 0 0 (zA E) := by
  refine z_ent (cc := cX2_pourOne) (maxL := 5) (ret := (some .int)) (vs := [.ref (zl E a), .int i, .ref (zl E b), .int j]) (by decide) rfl (Nat.le_of_ble_eq_true rfl) ?_
  intro p e s m below meth cd ls hx hb hr hml hown hts hlocks hl hw
  have hl : lv_has ls 5 [(0, .ref (zl E a)), (1, .int i), (2, .ref (zl E b)), (3, .int j)] := hl
  have hown : s.vm.findClass RX2 = some m.cls := hown
  have hin0 : ∀ w ∈ u_ws RX0 TX0 4, w ∈ wsX2_pourOne := by decide +kernel
  refine lv_aload_n hx hb dX2_pourOne_0 rfl (lv_at hl 0 rfl) ?_
  refine lv_iload_n hx hb dX2_pourOne_1 rfl (lv_at hl 1 rfl) ?_
  refine z_calli (rest := []) (va_runV (As := [.int i]) (rest := []) ⟨hx, hb, hml, hown, hts⟩ (k_X0_faultOfComing l E c mo a i ha) (cwV 1 hts gX2_pourOne_X0_faultOfComing rfl rfl rfl (by decide +kernel) ⟨Nat.le_of_ble_eq_true rfl, Nat.le_of_ble_eq_true rfl⟩) (z_preV hw (kd6l ha) (zG_6 ha) rfl [.int i]) rfl rfl hl.1 rfl (lv_room (Nat.le_of_ble_eq_true rfl)) dX2_pourOne_2 ⟨Nat.le_of_ble_eq_true rfl, Nat.le_of_ble_eq_true rfl⟩) hw (fun H locs hw => ?_)
  refine lv_istore (lv' := [(4, .int (fCome c a i)), (0, .ref (zl E a)), (1, .int i), (2, .ref (zl E b)), (3, .int j)]) hx hb dX2_pourOne_5 hl (by decide) rfl (fun ls hl => ?_)
  refine lv_iload hx hb dX2_pourOne_7 (lv_at hl 0 rfl) ?_
  refine lv_if_ne (tgt := 24) hx hb dX2_pourOne_9 (by decide) (fun q_1 => ?_) (fun q_1 => ?_)
  · have _ := hx
    refine lv_iload hx hb dX2_pourOne_24 (lv_at hl 0 rfl) ?_
    refine lv_if_ne (tgt := 41) hx hb dX2_pourOne_26 (by decide) (fun q_2 => ?_) (fun q_2 => ?_)
    · have _ := hx
      refine lv_iload hx hb dX2_pourOne_41 (lv_at hl 0 rfl) ?_
      exact z_iret hx hb hr hlocks hw dX2_pourOne_43 (by first | (simp [fPo, sPo, q_1, q_2]; done) | (simp_all [fPo, sPo]; done)) (by first | (simp [fPo, sPo, q_1, q_2]; done) | (simp_all [fPo, sPo]; done)) rfl
    · exact (absurd q_2 q_1)
  · have _ := hx
    refine lv_aload_n hx hb dX2_pourOne_12 rfl (lv_at hl 3 rfl) ?_
    refine lv_iload_n hx hb dX2_pourOne_13 rfl (lv_at hl 4 rfl) ?_
    refine lv_aload_n hx hb dX2_pourOne_14 rfl (lv_at hl 1 rfl) ?_
    refine lv_iload_n hx hb dX2_pourOne_15 rfl (lv_at hl 2 rfl) ?_
    refine z_calli (rest := [.int j, .ref (zl E b)]) (va_runV (As := [.int i]) (rest := [.int j, .ref (zl E b)]) ⟨hx, hb, hml, hown, hts⟩ (k_X0_kindAt l E c mo a i ha (fCome_in (by assumption) pa)) (cwV 1 hts gX2_pourOne_X0_kindAt rfl rfl rfl (by decide +kernel) ⟨Nat.le_of_ble_eq_true rfl, Nat.le_of_ble_eq_true rfl⟩) (z_preV hw (kd6l ha) (zG_6 ha) rfl [.int i]) rfl rfl hl.1 rfl (lv_room (Nat.le_of_ble_eq_true rfl)) dX2_pourOne_16 ⟨Nat.le_of_ble_eq_true rfl, Nat.le_of_ble_eq_true rfl⟩) hw (fun H locs hw => ?_)
    refine z_calli (rest := []) (va_runV (As := [.int j, .int (fKind c a i)]) (rest := []) ⟨hx, hb, hml, hown, hts⟩ (k_X0_faultOfLaying l E c mo b j (fKind c a i) hb_) (cwV 2 hts gX2_pourOne_X0_faultOfLaying rfl rfl rfl (by decide +kernel) ⟨Nat.le_of_ble_eq_true rfl, Nat.le_of_ble_eq_true rfl⟩) (z_preV hw (kd6l hb_) (zG_6 hb_) rfl [.int j, .int (fKind c a i)]) rfl rfl hl.1 rfl (lv_room (Nat.le_of_ble_eq_true rfl)) dX2_pourOne_19 ⟨Nat.le_of_ble_eq_true rfl, Nat.le_of_ble_eq_true rfl⟩) hw (fun H locs hw => ?_)
    refine lv_istore (lv' := [(4, .int (fLay c b j (fKind c a i))), (0, .ref (zl E a)), (1, .int i), (2, .ref (zl E b)), (3, .int j)]) hx hb dX2_pourOne_22 hl (by decide) rfl (fun ls hl => ?_)
    refine lv_iload hx hb dX2_pourOne_24 (lv_at hl 0 rfl) ?_
    refine lv_if_ne (tgt := 41) hx hb dX2_pourOne_26 (by decide) (fun q_3 => ?_) (fun q_3 => ?_)
    · have _ := hx
      refine lv_iload hx hb dX2_pourOne_41 (lv_at hl 0 rfl) ?_
      exact z_iret hx hb hr hlocks hw dX2_pourOne_43 (by first | (simp [fPo, sPo, q_1, q_3]; done) | (simp_all [fPo, sPo]; done)) (by first | (simp [fPo, sPo, q_1, q_3]; done) | (simp_all [fPo, sPo]; done)) rfl
    · have _ := hx
      refine lv_aload_n hx hb dX2_pourOne_29 rfl (lv_at hl 3 rfl) ?_
      refine z_get (i := b) hx hb hts hin0 hown hw (kd6l hb_) (zG_6 hb_) rfl 3 (by decide) (hts (.fieldLink RX2 78 "SeedDrawers$Content" "values" "[J") (by decide +kernel)) rfl rfl dX2_pourOne_30 ?_
      refine lv_iload_n hx hb dX2_pourOne_33 rfl (lv_at hl 4 rfl) ?_
      refine lv_aload_n hx hb dX2_pourOne_34 rfl (lv_at hl 1 rfl) ?_
      refine z_get (i := a) hx hb hts hin0 hown hw (kd6l ha) (zG_6 ha) rfl 3 (by decide) (hts (.fieldLink RX2 78 "SeedDrawers$Content" "values" "[J") (by decide +kernel)) rfl rfl dX2_pourOne_35 ?_
      refine lv_iload_n hx hb dX2_pourOne_38 rfl (lv_at hl 2 rfl) ?_
      refine y_lald (i := a + 9) hx hb hw (kd65l ha) (zG_5 (kd65 ha)) (fCome_in (by assumption) pa) (k := i.toNatClampNeg) rfl dX2_pourOne_39 ?_
      refine y_last5 (i := b + 9) hx hb hw (kd65l hb_) (kd65 hb_) (fLay_in (by assumption) pb) (k := j.toNatClampNeg) rfl dX2_pourOne_40 (fun H locs hw => ?_)
      refine lv_iload hx hb dX2_pourOne_41 (lv_at hl 0 rfl) ?_
      exact z_iret hx hb hr hlocks hw dX2_pourOne_43 (by first | (simp [fPo, sPo, q_1, q_3]; done) | (simp_all [fPo, sPo]; done)) (by first | (simp [fPo, sPo, q_1, q_3]; done) | (simp_all [fPo, sPo]; done)) rfl
set_option maxHeartbeats 4000000 in
set_option maxRecDepth 100000 in
theorem k_X2_faultOfSwapping (l : Launch) (E : zE) (c : zC) (mo : zM) (a : Nat) (i : Int32) (b : Nat) (j : Int32) (ha : kd a = 6) (hb_ : kd b = 6) (pa : plOk c a) (pb : plOk c b) : Met l yX2_faultOfSwapping wsX2_faultOfSwapping (zR 3 65) (zP E c mo [.ref (zl E a), .int i, .ref (zl E b), .int j]) (cQi E (fSw c a i b j) c mo) 0 0 (zA E) := by
  refine z_ent (cc := cX2_faultOfSwapping) (maxL := 5) (ret := (some .int)) (vs := [.ref (zl E a), .int i, .ref (zl E b), .int j]) (by decide) rfl (Nat.le_of_ble_eq_true rfl) ?_
  intro p e s m below meth cd ls hx hb hr hml hown hts hlocks hl hw
  have hl : lv_has ls 5 [(0, .ref (zl E a)), (1, .int i), (2, .ref (zl E b)), (3, .int j)] := hl
  have hown : s.vm.findClass RX2 = some m.cls := hown
  refine lv_aload_n hx hb dX2_faultOfSwapping_0 rfl (lv_at hl 0 rfl) ?_
  refine lv_iload_n hx hb dX2_faultOfSwapping_1 rfl (lv_at hl 1 rfl) ?_
  refine z_calli (rest := []) (va_runV (As := [.int i]) (rest := []) ⟨hx, hb, hml, hown, hts⟩ (k_X0_faultOfComing l E c mo a i ha) (cwV 1 hts gX2_faultOfSwapping_X0_faultOfComing rfl rfl rfl (by decide +kernel) ⟨Nat.le_of_ble_eq_true rfl, Nat.le_of_ble_eq_true rfl⟩) (z_preV hw (kd6l ha) (zG_6 ha) rfl [.int i]) rfl rfl hl.1 rfl (lv_room (Nat.le_of_ble_eq_true rfl)) dX2_faultOfSwapping_2 ⟨Nat.le_of_ble_eq_true rfl, Nat.le_of_ble_eq_true rfl⟩) hw (fun H locs hw => ?_)
  refine lv_istore (lv' := [(4, .int (fCome c a i)), (0, .ref (zl E a)), (1, .int i), (2, .ref (zl E b)), (3, .int j)]) hx hb dX2_faultOfSwapping_5 hl (by decide) rfl (fun ls hl => ?_)
  refine lv_iload hx hb dX2_faultOfSwapping_7 (lv_at hl 0 rfl) ?_
  refine lv_if_ne (tgt := 19) hx hb dX2_faultOfSwapping_9 (by decide) (fun q_1 => ?_) (fun q_1 => ?_)
  · have _ := hx
    refine lv_iload hx hb dX2_faultOfSwapping_19 (lv_at hl 0 rfl) ?_
    refine lv_if_ne (tgt := 36) hx hb dX2_faultOfSwapping_21 (by decide) (fun q_2 => ?_) (fun q_2 => ?_)
    · have _ := hx
      refine lv_iload hx hb dX2_faultOfSwapping_36 (lv_at hl 0 rfl) ?_
      refine lv_if_ne (tgt := 53) hx hb dX2_faultOfSwapping_38 (by decide) (fun q_3 => ?_) (fun q_3 => ?_)
      · have _ := hx
        refine lv_iload hx hb dX2_faultOfSwapping_53 (lv_at hl 0 rfl) ?_
        exact z_iret hx hb hr hlocks hw dX2_faultOfSwapping_55 (by first | (simp [fSw, q_1, q_2, q_3]; done) | (simp_all [fSw]; done)) rfl rfl
      · exact (absurd q_3 q_2)
    · exact (absurd q_2 q_1)
  · have _ := hx
    refine lv_aload_n hx hb dX2_faultOfSwapping_12 rfl (lv_at hl 3 rfl) ?_
    refine lv_iload_n hx hb dX2_faultOfSwapping_13 rfl (lv_at hl 4 rfl) ?_
    refine z_calli (rest := []) (va_runV (As := [.int j]) (rest := []) ⟨hx, hb, hml, hown, hts⟩ (k_X0_faultOfComing l E c mo b j hb_) (cwV 1 hts gX2_faultOfSwapping_X0_faultOfComing rfl rfl rfl (by decide +kernel) ⟨Nat.le_of_ble_eq_true rfl, Nat.le_of_ble_eq_true rfl⟩) (z_preV hw (kd6l hb_) (zG_6 hb_) rfl [.int j]) rfl rfl hl.1 rfl (lv_room (Nat.le_of_ble_eq_true rfl)) dX2_faultOfSwapping_14 ⟨Nat.le_of_ble_eq_true rfl, Nat.le_of_ble_eq_true rfl⟩) hw (fun H locs hw => ?_)
    refine lv_istore (lv' := [(4, .int (fCome c b j)), (0, .ref (zl E a)), (1, .int i), (2, .ref (zl E b)), (3, .int j)]) hx hb dX2_faultOfSwapping_17 hl (by decide) rfl (fun ls hl => ?_)
    refine lv_iload hx hb dX2_faultOfSwapping_19 (lv_at hl 0 rfl) ?_
    refine lv_if_ne (tgt := 36) hx hb dX2_faultOfSwapping_21 (by decide) (fun q_4 => ?_) (fun q_4 => ?_)
    · have _ := hx
      refine lv_iload hx hb dX2_faultOfSwapping_36 (lv_at hl 0 rfl) ?_
      refine lv_if_ne (tgt := 53) hx hb dX2_faultOfSwapping_38 (by decide) (fun q_5 => ?_) (fun q_5 => ?_)
      · have _ := hx
        refine lv_iload hx hb dX2_faultOfSwapping_53 (lv_at hl 0 rfl) ?_
        exact z_iret hx hb hr hlocks hw dX2_faultOfSwapping_55 (by first | (simp [fSw, q_1, q_4, q_5]; done) | (simp_all [fSw]; done)) rfl rfl
      · exact (absurd q_5 q_4)
    · have _ := hx
      refine lv_aload_n hx hb dX2_faultOfSwapping_24 rfl (lv_at hl 1 rfl) ?_
      refine lv_iload_n hx hb dX2_faultOfSwapping_25 rfl (lv_at hl 2 rfl) ?_
      refine lv_aload_n hx hb dX2_faultOfSwapping_26 rfl (lv_at hl 3 rfl) ?_
      refine lv_iload_n hx hb dX2_faultOfSwapping_27 rfl (lv_at hl 4 rfl) ?_
      refine z_calli (rest := [.int i, .ref (zl E a)]) (va_runV (As := [.int j]) (rest := [.int i, .ref (zl E a)]) ⟨hx, hb, hml, hown, hts⟩ (k_X0_kindAt l E c mo b j hb_ (fCome_in (by assumption) pb)) (cwV 1 hts gX2_faultOfSwapping_X0_kindAt rfl rfl rfl (by decide +kernel) ⟨Nat.le_of_ble_eq_true rfl, Nat.le_of_ble_eq_true rfl⟩) (z_preV hw (kd6l hb_) (zG_6 hb_) rfl [.int j]) rfl rfl hl.1 rfl (lv_room (Nat.le_of_ble_eq_true rfl)) dX2_faultOfSwapping_28 ⟨Nat.le_of_ble_eq_true rfl, Nat.le_of_ble_eq_true rfl⟩) hw (fun H locs hw => ?_)
      refine z_calli (rest := []) (va_runV (As := [.int i, .int (fKind c b j)]) (rest := []) ⟨hx, hb, hml, hown, hts⟩ (k_X0_faultOfLaying l E c mo a i (fKind c b j) ha) (cwV 2 hts gX2_faultOfSwapping_X0_faultOfLaying rfl rfl rfl (by decide +kernel) ⟨Nat.le_of_ble_eq_true rfl, Nat.le_of_ble_eq_true rfl⟩) (z_preV hw (kd6l ha) (zG_6 ha) rfl [.int i, .int (fKind c b j)]) rfl rfl hl.1 rfl (lv_room (Nat.le_of_ble_eq_true rfl)) dX2_faultOfSwapping_31 ⟨Nat.le_of_ble_eq_true rfl, Nat.le_of_ble_eq_true rfl⟩) hw (fun H locs hw => ?_)
      refine lv_istore (lv' := [(4, .int (fLay c a i (fKind c b j))), (0, .ref (zl E a)), (1, .int i), (2, .ref (zl E b)), (3, .int j)]) hx hb dX2_faultOfSwapping_34 hl (by decide) rfl (fun ls hl => ?_)
      refine lv_iload hx hb dX2_faultOfSwapping_36 (lv_at hl 0 rfl) ?_
      refine lv_if_ne (tgt := 53) hx hb dX2_faultOfSwapping_38 (by decide) (fun q_6 => ?_) (fun q_6 => ?_)
      · have _ := hx
        refine lv_iload hx hb dX2_faultOfSwapping_53 (lv_at hl 0 rfl) ?_
        exact z_iret hx hb hr hlocks hw dX2_faultOfSwapping_55 (by first | (simp [fSw, q_1, q_4, q_6]; done) | (simp_all [fSw]; done)) rfl rfl
      · have _ := hx
        refine lv_aload_n hx hb dX2_faultOfSwapping_41 rfl (lv_at hl 3 rfl) ?_
        refine lv_iload_n hx hb dX2_faultOfSwapping_42 rfl (lv_at hl 4 rfl) ?_
        refine lv_aload_n hx hb dX2_faultOfSwapping_43 rfl (lv_at hl 1 rfl) ?_
        refine lv_iload_n hx hb dX2_faultOfSwapping_44 rfl (lv_at hl 2 rfl) ?_
        refine z_calli (rest := [.int j, .ref (zl E b)]) (va_runV (As := [.int i]) (rest := [.int j, .ref (zl E b)]) ⟨hx, hb, hml, hown, hts⟩ (k_X0_kindAt l E c mo a i ha (fCome_in (by assumption) pa)) (cwV 1 hts gX2_faultOfSwapping_X0_kindAt rfl rfl rfl (by decide +kernel) ⟨Nat.le_of_ble_eq_true rfl, Nat.le_of_ble_eq_true rfl⟩) (z_preV hw (kd6l ha) (zG_6 ha) rfl [.int i]) rfl rfl hl.1 rfl (lv_room (Nat.le_of_ble_eq_true rfl)) dX2_faultOfSwapping_45 ⟨Nat.le_of_ble_eq_true rfl, Nat.le_of_ble_eq_true rfl⟩) hw (fun H locs hw => ?_)
        refine z_calli (rest := []) (va_runV (As := [.int j, .int (fKind c a i)]) (rest := []) ⟨hx, hb, hml, hown, hts⟩ (k_X0_faultOfLaying l E c mo b j (fKind c a i) hb_) (cwV 2 hts gX2_faultOfSwapping_X0_faultOfLaying rfl rfl rfl (by decide +kernel) ⟨Nat.le_of_ble_eq_true rfl, Nat.le_of_ble_eq_true rfl⟩) (z_preV hw (kd6l hb_) (zG_6 hb_) rfl [.int j, .int (fKind c a i)]) rfl rfl hl.1 rfl (lv_room (Nat.le_of_ble_eq_true rfl)) dX2_faultOfSwapping_48 ⟨Nat.le_of_ble_eq_true rfl, Nat.le_of_ble_eq_true rfl⟩) hw (fun H locs hw => ?_)
        refine lv_istore (lv' := [(4, .int (fLay c b j (fKind c a i))), (0, .ref (zl E a)), (1, .int i), (2, .ref (zl E b)), (3, .int j)]) hx hb dX2_faultOfSwapping_51 hl (by decide) rfl (fun ls hl => ?_)
        refine lv_iload hx hb dX2_faultOfSwapping_53 (lv_at hl 0 rfl) ?_
        exact z_iret hx hb hr hlocks hw dX2_faultOfSwapping_55 (by first | (simp [fSw, q_1, q_4, q_6]; done) | (simp_all [fSw]; done)) rfl rfl
set_option maxHeartbeats 4000000 in
set_option maxRecDepth 100000 in
theorem k_X2_swap (l : Launch) (E : zE) (c : zC) (mo : zM) (a : Int32) (i : Int32) (b : Int32) (j : Int32) (hwf : wfC c) : Met l yX2_swap wsX2_swap (zR 4 89) (zP E c mo [.ref (zl E 0), .int a, .int i, .int b, .int j]) (cQi E (rSwap c a i b j) (sSwap c a i b j) mo) 0 0 (zA E) := by
  refine z_ent (cc := cX2_swap) (maxL := 10) (ret := (some .int)) (vs := [.ref (zl E 0), .int a, .int i, .int b, .int j]) (by decide) rfl (Nat.le_of_ble_eq_true rfl) ?_
  intro p e s m below meth cd ls hx hb hr hml hown hts hlocks hl hw
  have hl : lv_has ls 10 [(0, .ref (zl E 0)), (1, .int a), (2, .int i), (3, .int b), (4, .int j)] := hl
  have hown : s.vm.findClass RX2 = some m.cls := hown
  have hin0 : ∀ w ∈ u_ws RX0 TX0 4, w ∈ wsX2_swap := by decide +kernel
  have hin2 : ∀ w ∈ u_ws RX2 TX2 12, w ∈ wsX2_swap := by decide +kernel
  refine lv_iload_n hx hb dX2_swap_0 rfl (lv_at hl 1 rfl) ?_
  refine z_calli (rest := []) (va_runS (As := [.int a]) (rest := []) ⟨hx, hb, hml, hown, hts⟩ (k_X2_isDrawer l E c mo a ) (va_cwS 1 hts gX2_swap_X2_isDrawer rfl rfl rfl (by decide +kernel) ⟨Nat.le_of_ble_eq_true rfl, Nat.le_of_ble_eq_true rfl⟩) (z_preS hw [.int a]) rfl rfl hl.1 rfl (lv_room (Nat.le_of_ble_eq_true rfl)) dX2_swap_1 ⟨Nat.le_of_ble_eq_true rfl, Nat.le_of_ble_eq_true rfl⟩) hw (fun H locs hw => ?_)
  refine lv_if_eq (tgt := 14) hx hb dX2_swap_4 (by decide) (fun q_1 => ?_) (fun q_1 => ?_)
  · have _ := hx
    refine lv_iconst (v := (-1)) hx hb dX2_swap_14 (by decide) ?_
    exact z_iret hx hb hr hlocks hw dX2_swap_15 (by first | (simp [rSwap, sSwap, q_1]; done) | (simp_all [rSwap, sSwap]; done)) (by first | (simp [rSwap, sSwap, q_1]; done) | (simp_all [rSwap, sSwap]; done)) rfl
  · have _ := hx
    refine lv_iload_n hx hb dX2_swap_7 rfl (lv_at hl 3 rfl) ?_
    refine z_calli (rest := []) (va_runS (As := [.int b]) (rest := []) ⟨hx, hb, hml, hown, hts⟩ (k_X2_isDrawer l E c mo b ) (va_cwS 1 hts gX2_swap_X2_isDrawer rfl rfl rfl (by decide +kernel) ⟨Nat.le_of_ble_eq_true rfl, Nat.le_of_ble_eq_true rfl⟩) (z_preS hw [.int b]) rfl rfl hl.1 rfl (lv_room (Nat.le_of_ble_eq_true rfl)) dX2_swap_8 ⟨Nat.le_of_ble_eq_true rfl, Nat.le_of_ble_eq_true rfl⟩) hw (fun H locs hw => ?_)
    refine lv_if_ne (tgt := 16) hx hb dX2_swap_11 (by decide) (fun q_2 => ?_) (fun q_2 => ?_)
    · have _ := hx
      refine lv_aload_n hx hb dX2_swap_16 rfl (lv_at hl 0 rfl) ?_
      refine z_get (i := 0) hx hb hts hin2 hown hw (by decide) zG_0 rfl 1 (by decide) (hts (.fieldLink RX2 16 "SeedDrawers" "drawers" "[LSeedDrawers$Content;") (by decide +kernel)) rfl rfl dX2_swap_17 ?_
      refine lv_iload_n hx hb dX2_swap_20 rfl (lv_at hl 1 rfl) ?_
      refine y_aald1 hx hb hw (isDr_in (by assumption)) (k := a.toNatClampNeg) rfl dX2_swap_21 ?_
      have hf_3 : kd (c.2.2 a.toNatClampNeg) = 6 := hwf.1 _ (in_lt (isDr_in (by assumption)))
      refine lv_astore (lv' := [(5, .ref (zl E (c.2.2 a.toNatClampNeg))), (0, .ref (zl E 0)), (1, .int a), (2, .int i), (3, .int b), (4, .int j)]) hx hb dX2_swap_22 hl (by decide) rfl (fun ls hl => ?_)
      refine lv_aload_n hx hb dX2_swap_24 rfl (lv_at hl 1 rfl) ?_
      refine z_get (i := 0) hx hb hts hin2 hown hw (by decide) zG_0 rfl 1 (by decide) (hts (.fieldLink RX2 16 "SeedDrawers" "drawers" "[LSeedDrawers$Content;") (by decide +kernel)) rfl rfl dX2_swap_25 ?_
      refine lv_iload_n hx hb dX2_swap_28 rfl (lv_at hl 4 rfl) ?_
      refine y_aald1 hx hb hw (isDr_in (by assumption)) (k := b.toNatClampNeg) rfl dX2_swap_29 ?_
      have hf_4 : kd (c.2.2 b.toNatClampNeg) = 6 := hwf.1 _ (in_lt (isDr_in (by assumption)))
      refine lv_astore (lv' := [(6, .ref (zl E (c.2.2 b.toNatClampNeg))), (5, .ref (zl E (c.2.2 a.toNatClampNeg))), (0, .ref (zl E 0)), (1, .int a), (2, .int i), (3, .int b), (4, .int j)]) hx hb dX2_swap_30 hl (by decide) rfl (fun ls hl => ?_)
      refine lv_aload hx hb dX2_swap_32 (lv_at hl 1 rfl) ?_
      refine lv_iload_n hx hb dX2_swap_34 rfl (lv_at hl 4 rfl) ?_
      refine lv_aload hx hb dX2_swap_35 (lv_at hl 0 rfl) ?_
      refine lv_iload hx hb dX2_swap_37 (lv_at hl 6 rfl) ?_
      refine z_calli (rest := []) (va_runS (As := [.ref (zl E (c.2.2 a.toNatClampNeg)), .int i, .ref (zl E (c.2.2 b.toNatClampNeg)), .int j]) (rest := []) ⟨hx, hb, hml, hown, hts⟩ (k_X2_faultOfSwapping l E c mo (c.2.2 a.toNatClampNeg) i (c.2.2 b.toNatClampNeg) j hf_3 hf_4 (hwf.2.1 _ hf_3) (hwf.2.1 _ hf_4)) (va_cwS 4 hts gX2_swap_X2_faultOfSwapping rfl rfl rfl (by decide +kernel) ⟨Nat.le_of_ble_eq_true rfl, Nat.le_of_ble_eq_true rfl⟩) (z_preS hw [.ref (zl E (c.2.2 a.toNatClampNeg)), .int i, .ref (zl E (c.2.2 b.toNatClampNeg)), .int j]) rfl rfl hl.1 rfl (lv_room (Nat.le_of_ble_eq_true rfl)) dX2_swap_39 ⟨Nat.le_of_ble_eq_true rfl, Nat.le_of_ble_eq_true rfl⟩) hw (fun H locs hw => ?_)
      refine lv_istore (lv' := [(7, .int (fSw c (c.2.2 a.toNatClampNeg) i (c.2.2 b.toNatClampNeg) j)), (6, .ref (zl E (c.2.2 b.toNatClampNeg))), (5, .ref (zl E (c.2.2 a.toNatClampNeg))), (0, .ref (zl E 0)), (1, .int a), (2, .int i), (3, .int b), (4, .int j)]) hx hb dX2_swap_42 hl (by decide) rfl (fun ls hl => ?_)
      refine lv_iload hx hb dX2_swap_44 (lv_at hl 0 rfl) ?_
      refine lv_if_eq (tgt := 56) hx hb dX2_swap_46 (by decide) (fun q_5 => ?_) (fun q_5 => ?_)
      · have _ := hx
        refine lv_aload hx hb dX2_swap_56 (lv_at hl 2 rfl) ?_
        refine z_get (i := c.2.2 a.toNatClampNeg) hx hb hts hin0 hown hw (kd6l hf_3) (zG_6 hf_3) rfl 3 (by decide) (hts (.fieldLink RX2 78 "SeedDrawers$Content" "values" "[J") (by decide +kernel)) rfl rfl dX2_swap_58 ?_
        refine lv_iload_n hx hb dX2_swap_61 rfl (lv_at hl 5 rfl) ?_
        refine y_lald (i := (c.2.2 a.toNatClampNeg) + 9) hx hb hw (kd65l hf_3) (zG_5 (kd65 hf_3)) (fCome_in (fSw_a (by assumption)).1 (hwf.2.1 _ (by assumption))) (k := i.toNatClampNeg) rfl dX2_swap_62 ?_
        refine lv_lstore (lv' := [(8, .long (c.2.1 ((c.2.2 a.toNatClampNeg) + 9) i.toNatClampNeg)), (7, .int (fSw c (c.2.2 a.toNatClampNeg) i (c.2.2 b.toNatClampNeg) j)), (6, .ref (zl E (c.2.2 b.toNatClampNeg))), (5, .ref (zl E (c.2.2 a.toNatClampNeg))), (0, .ref (zl E 0)), (1, .int a), (2, .int i), (3, .int b), (4, .int j)]) hx hb dX2_swap_63 hl (by decide) rfl (fun ls hl => ?_)
        refine lv_aload hx hb dX2_swap_65 (lv_at hl 3 rfl) ?_
        refine z_get (i := c.2.2 a.toNatClampNeg) hx hb hts hin0 hown hw (kd6l hf_3) (zG_6 hf_3) rfl 3 (by decide) (hts (.fieldLink RX2 78 "SeedDrawers$Content" "values" "[J") (by decide +kernel)) rfl rfl dX2_swap_67 ?_
        refine lv_iload_n hx hb dX2_swap_70 rfl (lv_at hl 6 rfl) ?_
        refine lv_aload hx hb dX2_swap_71 (lv_at hl 2 rfl) ?_
        refine z_get (i := c.2.2 b.toNatClampNeg) hx hb hts hin0 hown hw (kd6l hf_4) (zG_6 hf_4) rfl 3 (by decide) (hts (.fieldLink RX2 78 "SeedDrawers$Content" "values" "[J") (by decide +kernel)) rfl rfl dX2_swap_73 ?_
        refine lv_iload hx hb dX2_swap_76 (lv_at hl 8 rfl) ?_
        refine y_lald (i := (c.2.2 b.toNatClampNeg) + 9) hx hb hw (kd65l hf_4) (zG_5 (kd65 hf_4)) (fCome_in (fSw_a (by assumption)).2 (hwf.2.1 _ (by assumption))) (k := j.toNatClampNeg) rfl dX2_swap_78 ?_
        refine y_last5 (i := (c.2.2 a.toNatClampNeg) + 9) hx hb hw (kd65l hf_3) (kd65 hf_3) (fCome_in (fSw_a (by assumption)).1 (hwf.2.1 _ (by assumption))) (k := i.toNatClampNeg) rfl dX2_swap_79 (fun H locs hw => ?_)
        refine lv_aload hx hb dX2_swap_80 (lv_at hl 2 rfl) ?_
        refine z_get (i := c.2.2 b.toNatClampNeg) hx hb hts hin0 hown hw (kd6l hf_4) (zG_6 hf_4) rfl 3 (by decide) (hts (.fieldLink RX2 78 "SeedDrawers$Content" "values" "[J") (by decide +kernel)) rfl rfl dX2_swap_82 ?_
        refine lv_iload hx hb dX2_swap_85 (lv_at hl 8 rfl) ?_
        refine lv_lload hx hb dX2_swap_87 (lv_at hl 0 rfl) ?_
        refine y_last5 (i := (c.2.2 b.toNatClampNeg) + 9) hx hb hw (kd65l hf_4) (kd65 hf_4) (fCome_in (fSw_a (by assumption)).2 (hwf.2.1 _ (by assumption))) (k := j.toNatClampNeg) rfl dX2_swap_89 (fun H locs hw => ?_)
        refine lv_iconst (v := 1) hx hb dX2_swap_90 (by decide) ?_
        exact z_iret hx hb hr hlocks hw dX2_swap_91 (by first | (simp [rSwap, sSwap, q_1, q_2, q_5]; done) | (simp_all [rSwap, sSwap]; done)) (by first | (simp [rSwap, sSwap, q_1, q_2, q_5]; done) | (simp_all [rSwap, sSwap]; done)) rfl
      · have _ := hx
        refine lv_aload_n hx hb dX2_swap_49 rfl (lv_at hl 3 rfl) ?_
        refine lv_iload hx hb dX2_swap_50 (lv_at hl 0 rfl) ?_
        refine z_calli (rest := []) (va_runV (As := [.int (fSw c (c.2.2 a.toNatClampNeg) i (c.2.2 b.toNatClampNeg) j)]) (rest := []) ⟨hx, hb, hml, hown, hts⟩ (k_X2_meet l E c mo (fSw c (c.2.2 a.toNatClampNeg) i (c.2.2 b.toNatClampNeg) j) (fSw_5 _ _ _ _ _)) (cwV 1 hts gX2_swap_X2_meet rfl rfl rfl (by decide +kernel) ⟨Nat.le_of_ble_eq_true rfl, Nat.le_of_ble_eq_true rfl⟩) (z_preV hw (by decide) zG_0 rfl [.int (fSw c (c.2.2 a.toNatClampNeg) i (c.2.2 b.toNatClampNeg) j)]) rfl rfl hl.1 rfl (lv_room (Nat.le_of_ble_eq_true rfl)) dX2_swap_52 ⟨Nat.le_of_ble_eq_true rfl, Nat.le_of_ble_eq_true rfl⟩) hw (fun H locs hw => ?_)
        exact z_iret hx hb hr hlocks hw dX2_swap_55 (by first | (simp [rSwap, sSwap, q_1, q_2, q_5]; done) | (simp_all [rSwap, sSwap]; done)) (by first | (simp [rSwap, sSwap, q_1, q_2, q_5]; done) | (simp_all [rSwap, sSwap]; done)) rfl
    · have _ := hx
      refine lv_iconst (v := (-1)) hx hb dX2_swap_14 (by decide) ?_
      exact z_iret hx hb hr hlocks hw dX2_swap_15 (by first | (simp [rSwap, sSwap, q_1, q_2]; done) | (simp_all [rSwap, sSwap]; done)) (by first | (simp [rSwap, sSwap, q_1, q_2]; done) | (simp_all [rSwap, sSwap]; done)) rfl
set_option maxHeartbeats 4000000 in
set_option maxRecDepth 100000 in
theorem k_X2_fault (l : Launch) (E : zE) (c : zC) (mo : zM)   : Met l yX2_fault wsX2_fault (zR 0 0) (zP E c mo [.ref (zl E 0)]) (cQi E (c.1 0 10) c mo) 0 0 (zA E) := by
  refine z_ent (cc := cX2_fault) (maxL := 1) (ret := (some .int)) (vs := [.ref (zl E 0)]) (by decide) rfl (Nat.le_of_ble_eq_true rfl) ?_
  intro p e s m below meth cd ls hx hb hr hml hown hts hlocks hl hw
  have hl : lv_has ls 1 [(0, .ref (zl E 0))] := hl
  have hown : s.vm.findClass RX2 = some m.cls := hown
  have hin2 : ∀ w ∈ u_ws RX2 TX2 12, w ∈ wsX2_fault := by decide +kernel
  refine lv_aload_n hx hb dX2_fault_0 rfl (lv_at hl 0 rfl) ?_
  refine z_get (i := 0) hx hb hts hin2 hown hw (by decide) zG_0 rfl 10 (by decide) (hts (.fieldLink RX2 129 "SeedDrawers" "latestFault" "I") (by decide +kernel)) rfl rfl dX2_fault_1 ?_
  exact z_iret hx hb hr hlocks hw dX2_fault_4 (by rfl) rfl rfl
set_option maxHeartbeats 4000000 in
set_option maxRecDepth 100000 in
theorem k_X2_hand (l : Launch) (E : zE) (c : zC) (mo : zM)   : Met l yX2_hand wsX2_hand (zR 0 0) (zP E c mo [.ref (zl E 0)]) (cQi E (c.1 0 3) c mo) 0 0 (zA E) := by
  refine z_ent (cc := cX2_hand) (maxL := 1) (ret := (some .int)) (vs := [.ref (zl E 0)]) (by decide) rfl (Nat.le_of_ble_eq_true rfl) ?_
  intro p e s m below meth cd ls hx hb hr hml hown hts hlocks hl hw
  have hl : lv_has ls 1 [(0, .ref (zl E 0))] := hl
  have hown : s.vm.findClass RX2 = some m.cls := hown
  have hin2 : ∀ w ∈ u_ws RX2 TX2 12, w ∈ wsX2_hand := by decide +kernel
  refine lv_aload_n hx hb dX2_hand_0 rfl (lv_at hl 0 rfl) ?_
  refine z_get (i := 0) hx hb hts hin2 hown hw (by decide) zG_0 rfl 3 (by decide) (hts (.fieldLink RX2 23 "SeedDrawers" "handKind" "I") (by decide +kernel)) rfl rfl dX2_hand_1 ?_
  exact z_iret hx hb hr hlocks hw dX2_hand_4 (by rfl) rfl rfl
set_option maxHeartbeats 4000000 in
set_option maxRecDepth 100000 in
theorem k_X2_value (l : Launch) (E : zE) (c : zC) (mo : zM)   : Met l yX2_value wsX2_value (zR 0 0) (zP E c mo [.ref (zl E 0)]) (cQl E (c.2.1 0 4) c mo) 0 0 (zA E) := by
  refine z_ent (cc := cX2_value) (maxL := 1) (ret := (some .long)) (vs := [.ref (zl E 0)]) (by decide) rfl (Nat.le_of_ble_eq_true rfl) ?_
  intro p e s m below meth cd ls hx hb hr hml hown hts hlocks hl hw
  have hl : lv_has ls 1 [(0, .ref (zl E 0))] := hl
  have hown : s.vm.findClass RX2 = some m.cls := hown
  have hin2 : ∀ w ∈ u_ws RX2 TX2 12, w ∈ wsX2_value := by decide +kernel
  refine lv_aload_n hx hb dX2_value_0 rfl (lv_at hl 0 rfl) ?_
  refine z_get (i := 0) hx hb hts hin2 hown hw (by decide) zG_0 rfl 4 (by decide) (hts (.fieldLink RX2 86 "SeedDrawers" "handValue" "J") (by decide +kernel)) rfl rfl dX2_value_1 ?_
  exact z_lret hx hb hr hlocks hw dX2_value_4 (by rfl) rfl rfl
set_option maxHeartbeats 4000000 in
set_option maxRecDepth 100000 in
theorem k_X2_faults (l : Launch) (E : zE) (c : zC) (mo : zM) (f : Int32)  : Met l yX2_faults wsX2_faults (zR 0 0) (zP E c mo [.ref (zl E 0), .int f]) (cQi E (rFaus c f) c mo) 0 0 (zA E) := by
  refine z_ent (cc := cX2_faults) (maxL := 2) (ret := (some .int)) (vs := [.ref (zl E 0), .int f]) (by decide) rfl (Nat.le_of_ble_eq_true rfl) ?_
  intro p e s m below meth cd ls hx hb hr hml hown hts hlocks hl hw
  have hl : lv_has ls 2 [(0, .ref (zl E 0)), (1, .int f)] := hl
  have hown : s.vm.findClass RX2 = some m.cls := hown
  have hin2 : ∀ w ∈ u_ws RX2 TX2 12, w ∈ wsX2_faults := by decide +kernel
  refine lv_iload_n hx hb dX2_faults_0 rfl (lv_at hl 1 rfl) ?_
  refine lv_if_lt (tgt := 9) hx hb dX2_faults_1 (by decide) (fun q_1 => ?_) (fun q_1 => ?_)
  · have _ := hx
    refine lv_bipush (v := (-9)) hx hb dX2_faults_9 (by decide) ?_
    refine lv_goto (tgt := 20) hx hb dX2_faults_11 (by decide) ?_
    exact z_iret hx hb hr hlocks hw dX2_faults_20 (by first | (simp [rFaus, q_1]; done) | (simp_all [rFaus]; done)) rfl rfl
  · have _ := hx
    refine lv_iload_n hx hb dX2_faults_4 rfl (lv_at hl 1 rfl) ?_
    refine lv_iconst (v := 4) hx hb dX2_faults_5 (by decide) ?_
    refine lv_icmp_le (tgt := 14) hx hb dX2_faults_6 (by decide) (fun q_2 => ?_) (fun q_2 => ?_)
    · have _ := hx
      refine lv_aload_n hx hb dX2_faults_14 rfl (lv_at hl 0 rfl) ?_
      refine z_get (i := 0) hx hb hts hin2 hown hw (by decide) zG_0 rfl 11 (by decide) (hts (.fieldLink RX2 38 "SeedDrawers" "faultCounts" "[I") (by decide +kernel)) rfl rfl dX2_faults_15 ?_
      refine lv_iload_n hx hb dX2_faults_18 rfl (lv_at hl 1 rfl) ?_
      refine y_iald (i := 5) hx hb hw (by decide) (zG_4 (i := 5) (by decide)) (le_in (n := 4) (by assumption) (by assumption) (by decide)) (k := f.toNatClampNeg) rfl dX2_faults_19 ?_
      exact z_iret hx hb hr hlocks hw dX2_faults_20 (by first | (simp [rFaus, q_1, q_2]; done) | (simp_all [rFaus]; done)) rfl rfl
    · have _ := hx
      refine lv_bipush (v := (-9)) hx hb dX2_faults_9 (by decide) ?_
      refine lv_goto (tgt := 20) hx hb dX2_faults_11 (by decide) ?_
      exact z_iret hx hb hr hlocks hw dX2_faults_20 (by first | (simp [rFaus, q_1, q_2]; done) | (simp_all [rFaus]; done)) rfl rfl
set_option maxHeartbeats 4000000 in
set_option maxRecDepth 100000 in
theorem k_X2_met (l : Launch) (E : zE) (c : zC) (mo : zM) (k : Int32) (hwf : wfC c) : Met l yX2_met wsX2_met (zR 0 0) (zP E c mo [.ref (zl E 0), .int k]) (cQi E (rMet c k) c mo) 0 0 (zA E) := by
  refine z_ent (cc := cX2_met) (maxL := 2) (ret := (some .int)) (vs := [.ref (zl E 0), .int k]) (by decide) rfl (Nat.le_of_ble_eq_true rfl) ?_
  intro p e s m below meth cd ls hx hb hr hml hown hts hlocks hl hw
  have hl : lv_has ls 2 [(0, .ref (zl E 0)), (1, .int k)] := hl
  have hown : s.vm.findClass RX2 = some m.cls := hown
  have hin2 : ∀ w ∈ u_ws RX2 TX2 12, w ∈ wsX2_met := by decide +kernel
  obtain ⟨nm, hnm1, hnm2⟩ := hwf.2.2.2
  refine lv_iload_n hx hb dX2_met_0 rfl (lv_at hl 1 rfl) ?_
  refine lv_if_lt (tgt := 12) hx hb dX2_met_1 (by decide) (fun q_1 => ?_) (fun q_1 => ?_)
  · have _ := hx
    refine lv_bipush (v := (-9)) hx hb dX2_met_12 (by decide) ?_
    refine lv_goto (tgt := 23) hx hb dX2_met_14 (by decide) ?_
    exact z_iret hx hb hr hlocks hw dX2_met_23 (by first | (simp [rMet, q_1]; done) | (simp_all [rMet]; done)) rfl rfl
  · have _ := hx
    refine lv_iload_n hx hb dX2_met_4 rfl (lv_at hl 1 rfl) ?_
    refine lv_aload_n hx hb dX2_met_5 rfl (lv_at hl 0 rfl) ?_
    refine z_get (i := 0) hx hb hts hin2 hown hw (by decide) zG_0 rfl 9 (by decide) (hts (.fieldLink RX2 132 "SeedDrawers" "metCount" "I") (by decide +kernel)) rfl rfl dX2_met_6 ?_
    refine lv_icmp_lt (tgt := 17) hx hb dX2_met_9 (by decide) (fun q_2 => ?_) (fun q_2 => ?_)
    · have _ := hx
      refine lv_aload_n hx hb dX2_met_17 rfl (lv_at hl 0 rfl) ?_
      refine z_get (i := 0) hx hb hts hin2 hown hw (by decide) zG_0 rfl 8 (by decide) (hts (.fieldLink RX2 34 "SeedDrawers" "metFaults" "[I") (by decide +kernel)) rfl rfl dX2_met_18 ?_
      refine lv_iload_n hx hb dX2_met_21 rfl (lv_at hl 1 rfl) ?_
      refine y_iald (i := 4) hx hb hw (by decide) (zG_4 (i := 4) (by decide)) (in_mono (lt_in (n := nm) (by assumption) (by rw [← hnm2]; assumption) (by omega)) hnm1) (k := k.toNatClampNeg) rfl dX2_met_22 ?_
      exact z_iret hx hb hr hlocks hw dX2_met_23 (by first | (simp [rMet, q_1, q_2]; done) | (simp_all [rMet]; done)) rfl rfl
    · have _ := hx
      refine lv_bipush (v := (-9)) hx hb dX2_met_12 (by decide) ?_
      refine lv_goto (tgt := 23) hx hb dX2_met_14 (by decide) ?_
      exact z_iret hx hb hr hlocks hw dX2_met_23 (by first | (simp [rMet, q_1, q_2]; done) | (simp_all [rMet]; done)) rfl rfl
set_option maxHeartbeats 4000000 in
set_option maxRecDepth 100000 in
theorem k_X2_told (l : Launch) (E : zE) (c : zC) (mo : zM) (d : Int32) (w : Int32) (hwf : wfC c) : Met l yX2_told wsX2_told (zR 1 23) (zP E c mo [.ref (zl E 0), .int d, .int w]) (cQi E (rTold c d w) c mo) 0 0 (zA E) := by
  refine z_ent (cc := cX2_told) (maxL := 4) (ret := (some .int)) (vs := [.ref (zl E 0), .int d, .int w]) (by decide) rfl (Nat.le_of_ble_eq_true rfl) ?_
  intro p e s m below meth cd ls hx hb hr hml hown hts hlocks hl hw
  have hl : lv_has ls 4 [(0, .ref (zl E 0)), (1, .int d), (2, .int w)] := hl
  have hown : s.vm.findClass RX2 = some m.cls := hown
  have hin0 : ∀ w ∈ u_ws RX0 TX0 4, w ∈ wsX2_told := by decide +kernel
  have hin2 : ∀ w ∈ u_ws RX2 TX2 12, w ∈ wsX2_told := by decide +kernel
  refine lv_iload_n hx hb dX2_told_0 rfl (lv_at hl 1 rfl) ?_
  refine z_calli (rest := []) (va_runS (As := [.int d]) (rest := []) ⟨hx, hb, hml, hown, hts⟩ (k_X2_isDrawer l E c mo d ) (va_cwS 1 hts gX2_told_X2_isDrawer rfl rfl rfl (by decide +kernel) ⟨Nat.le_of_ble_eq_true rfl, Nat.le_of_ble_eq_true rfl⟩) (z_preS hw [.int d]) rfl rfl hl.1 rfl (lv_room (Nat.le_of_ble_eq_true rfl)) dX2_told_1 ⟨Nat.le_of_ble_eq_true rfl, Nat.le_of_ble_eq_true rfl⟩) hw (fun H locs hw => ?_)
  refine lv_if_ne (tgt := 9) hx hb dX2_told_4 (by decide) (fun q_1 => ?_) (fun q_1 => ?_)
  · have _ := hx
    refine lv_aload_n hx hb dX2_told_9 rfl (lv_at hl 0 rfl) ?_
    refine z_get (i := 0) hx hb hts hin2 hown hw (by decide) zG_0 rfl 1 (by decide) (hts (.fieldLink RX2 16 "SeedDrawers" "drawers" "[LSeedDrawers$Content;") (by decide +kernel)) rfl rfl dX2_told_10 ?_
    refine lv_iload_n hx hb dX2_told_13 rfl (lv_at hl 1 rfl) ?_
    refine y_aald1 hx hb hw (isDr_in (by assumption)) (k := d.toNatClampNeg) rfl dX2_told_14 ?_
    have hf_2 : kd (c.2.2 d.toNatClampNeg) = 6 := hwf.1 _ (in_lt (isDr_in (by assumption)))
    refine lv_astore_n (lv' := [(3, .ref (zl E (c.2.2 d.toNatClampNeg))), (0, .ref (zl E 0)), (1, .int d), (2, .int w)]) hx hb dX2_told_15 rfl hl (by decide) rfl (fun ls hl => ?_)
    refine lv_iload_n hx hb dX2_told_16 rfl (lv_at hl 3 rfl) ?_
    by_cases q_3 : w = 0
    · have _ := hx
      refine lv_tableIn (tgt := 44) hx hb dX2_told_17 (by rw [q_3]; decide) (by rw [q_3]; decide) (by rw [q_3]; rfl) (by decide) ?_
      refine lv_aload_n hx hb dX2_told_44 rfl (lv_at hl 0 rfl) ?_
      refine z_get (i := c.2.2 d.toNatClampNeg) hx hb hts hin0 hown hw (kd6l hf_2) (zG_6 hf_2) rfl 0 (by decide) (hts (.fieldLink RX2 135 "SeedDrawers$Content" "has" "I") (by decide +kernel)) rfl rfl dX2_told_45 ?_
      exact z_iret hx hb hr hlocks hw dX2_told_48 (by first | (simp [rTold, q_1, q_3]; done) | (simp_all [rTold]; done)) rfl rfl
    by_cases q_4 : w = 1
    · have _ := hx
      refine lv_tableIn (tgt := 49) hx hb dX2_told_17 (by rw [q_4]; decide) (by rw [q_4]; decide) (by rw [q_4]; rfl) (by decide) ?_
      refine lv_aload_n hx hb dX2_told_49 rfl (lv_at hl 0 rfl) ?_
      refine z_calli (rest := []) (va_runV (As := []) (rest := []) ⟨hx, hb, hml, hown, hts⟩ (k_X0_isRow l E c mo (c.2.2 d.toNatClampNeg) hf_2) (cwV 0 hts gX2_told_X0_isRow rfl rfl rfl (by decide +kernel) ⟨Nat.le_of_ble_eq_true rfl, Nat.le_of_ble_eq_true rfl⟩) (z_preV hw (kd6l hf_2) (zG_6 hf_2) rfl []) rfl rfl hl.1 rfl (lv_room (Nat.le_of_ble_eq_true rfl)) dX2_told_50 ⟨Nat.le_of_ble_eq_true rfl, Nat.le_of_ble_eq_true rfl⟩) hw (fun H locs hw => ?_)
      refine lv_if_eq (tgt := 64) hx hb dX2_told_53 (by decide) (fun q_5 => ?_) (fun q_5 => ?_)
      · have _ := hx
        refine lv_iconst (v := 0) hx hb dX2_told_64 (by decide) ?_
        exact z_iret hx hb hr hlocks hw dX2_told_65 (by first | (simp [rTold, q_1, q_3, q_4, q_5]; done) | (simp_all [rTold]; done)) rfl rfl
      · have _ := hx
        refine lv_aload_n hx hb dX2_told_56 rfl (lv_at hl 1 rfl) ?_
        refine lv_aload_n hx hb dX2_told_57 rfl (lv_at hl 0 rfl) ?_
        refine z_calli (rest := []) (va_runV (As := [.ref (zl E (c.2.2 d.toNatClampNeg))]) (rest := []) ⟨hx, hb, hml, hown, hts⟩ (k_X2_holdersOf l E c mo (c.2.2 d.toNatClampNeg) hf_2 hwf.1) (cwV 1 hts gX2_told_X2_holdersOf rfl rfl rfl (by decide +kernel) ⟨Nat.le_of_ble_eq_true rfl, Nat.le_of_ble_eq_true rfl⟩) (z_preV hw (by decide) zG_0 rfl [.ref (zl E (c.2.2 d.toNatClampNeg))]) rfl rfl hl.1 rfl (lv_room (Nat.le_of_ble_eq_true rfl)) dX2_told_58 ⟨Nat.le_of_ble_eq_true rfl, Nat.le_of_ble_eq_true rfl⟩) hw (fun H locs hw => ?_)
        refine lv_goto (tgt := 65) hx hb dX2_told_61 (by decide) ?_
        exact z_iret hx hb hr hlocks hw dX2_told_65 (by first | (simp [rTold, q_1, q_3, q_4, q_5]; done) | (simp_all [rTold]; done)) rfl rfl
    by_cases q_6 : w = 2
    · have _ := hx
      refine lv_tableIn (tgt := 66) hx hb dX2_told_17 (by rw [q_6]; decide) (by rw [q_6]; decide) (by rw [q_6]; rfl) (by decide) ?_
      refine lv_aload_n hx hb dX2_told_66 rfl (lv_at hl 0 rfl) ?_
      refine z_get (i := c.2.2 d.toNatClampNeg) hx hb hts hin0 hown hw (kd6l hf_2) (zG_6 hf_2) rfl 1 (by decide) (hts (.fieldLink RX2 146 "SeedDrawers$Content" "noteNumber" "I") (by decide +kernel)) rfl rfl dX2_told_67 ?_
      exact z_iret hx hb hr hlocks hw dX2_told_70 (by first | (simp [rTold, q_1, q_3, q_4, q_6]; done) | (simp_all [rTold]; done)) rfl rfl
    refine lv_tableOut (tgt := 71) hx hb dX2_told_17 (tb_out [0, 1, 2] 0 2 (by decide +kernel) (by simp [q_3, q_4, q_6])) (by decide) ?_
    refine lv_bipush (v := (-2)) hx hb dX2_told_71 (by decide) ?_
    exact z_iret hx hb hr hlocks hw dX2_told_73 (by first | (simp [rTold, q_1, q_3, q_4, q_6]; done) | (simp_all [rTold]; done)) rfl rfl
  · have _ := hx
    refine lv_iconst (v := (-1)) hx hb dX2_told_7 (by decide) ?_
    exact z_iret hx hb hr hlocks hw dX2_told_8 (by first | (simp [rTold, q_1]; done) | (simp_all [rTold]; done)) rfl rfl
set_option maxHeartbeats 4000000 in
set_option maxRecDepth 100000 in
theorem k_X2_order (l : Launch) (E : zE) (c : zC) (mo : zM) (op : Int32) (a : Int32) (i : Int32) (b : Int32) (j : Int32) (hwf : wfC c) : Met l yX2_order wsX2_order (zR 1 25) (zP E c mo [.ref (zl E 0), .int op, .int a, .int i, .int b, .int j]) (cQi E (rOrd c op a i b j) (sOrd c op a i b j) mo) 0 0 (zA E) := by
  refine z_ent (cc := cX2_order) (maxL := 6) (ret := (some .int)) (vs := [.ref (zl E 0), .int op, .int a, .int i, .int b, .int j]) (by decide) rfl (Nat.le_of_ble_eq_true rfl) ?_
  intro p e s m below meth cd ls hx hb hr hml hown hts hlocks hl hw
  have hl : lv_has ls 6 [(0, .ref (zl E 0)), (1, .int op), (2, .int a), (3, .int i), (4, .int b), (5, .int j)] := hl
  have hown : s.vm.findClass RX2 = some m.cls := hown
  have hin2 : ∀ w ∈ u_ws RX2 TX2 12, w ∈ wsX2_order := by decide +kernel
  obtain ⟨nm, hnm1, hnm2⟩ := hwf.2.2.1
  have hno : c.1 0 7 < 8 → vp_in (c.1 0 7) 8 := fun h => lt_in (n := 8) (by rw [hnm2]; exact nI_pos (by omega)) h (by decide)
  refine lv_iload_n hx hb dX2_order_0 rfl (lv_at hl 2 rfl) ?_
  refine z_calli (rest := []) (va_runS (As := [.int a]) (rest := []) ⟨hx, hb, hml, hown, hts⟩ (k_X2_isDrawer l E c mo a ) (va_cwS 1 hts gX2_order_X2_isDrawer rfl rfl rfl (by decide +kernel) ⟨Nat.le_of_ble_eq_true rfl, Nat.le_of_ble_eq_true rfl⟩) (z_preS hw [.int a]) rfl rfl hl.1 rfl (lv_room (Nat.le_of_ble_eq_true rfl)) dX2_order_1 ⟨Nat.le_of_ble_eq_true rfl, Nat.le_of_ble_eq_true rfl⟩) hw (fun H locs hw => ?_)
  refine lv_if_eq (tgt := 15) hx hb dX2_order_4 (by decide) (fun q_1 => ?_) (fun q_1 => ?_)
  · have _ := hx
    refine lv_iconst (v := (-1)) hx hb dX2_order_15 (by decide) ?_
    exact z_iret hx hb hr hlocks hw dX2_order_16 (by first | (simp [rOrd, sOrd, q_1]; done) | (simp [rOrd, sOrd, q_1, sI]; done)) (by first | (simp [rOrd, sOrd, q_1]; done) | (simp [rOrd, sOrd, q_1, sI]; done)) rfl
  · have _ := hx
    refine lv_iload hx hb dX2_order_7 (lv_at hl 4 rfl) ?_
    refine z_calli (rest := []) (va_runS (As := [.int b]) (rest := []) ⟨hx, hb, hml, hown, hts⟩ (k_X2_isDrawer l E c mo b ) (va_cwS 1 hts gX2_order_X2_isDrawer rfl rfl rfl (by decide +kernel) ⟨Nat.le_of_ble_eq_true rfl, Nat.le_of_ble_eq_true rfl⟩) (z_preS hw [.int b]) rfl rfl hl.1 rfl (lv_room (Nat.le_of_ble_eq_true rfl)) dX2_order_9 ⟨Nat.le_of_ble_eq_true rfl, Nat.le_of_ble_eq_true rfl⟩) hw (fun H locs hw => ?_)
    refine lv_if_ne (tgt := 17) hx hb dX2_order_12 (by decide) (fun q_2 => ?_) (fun q_2 => ?_)
    · have _ := hx
      refine lv_iload_n hx hb dX2_order_17 rfl (lv_at hl 1 rfl) ?_
      refine lv_if_lt (tgt := 41) hx hb dX2_order_18 (by decide) (fun q_3 => ?_) (fun q_3 => ?_)
      · have _ := hx
        refine lv_bipush (v := (-2)) hx hb dX2_order_41 (by decide) ?_
        exact z_iret hx hb hr hlocks hw dX2_order_43 (by first | (simp [rOrd, sOrd, q_1, q_2, q_3]; done) | (simp [rOrd, sOrd, q_1, q_2, q_3, sI]; done)) (by first | (simp [rOrd, sOrd, q_1, q_2, q_3]; done) | (simp [rOrd, sOrd, q_1, q_2, q_3, sI]; done)) rfl
      · have _ := hx
        refine lv_iload_n hx hb dX2_order_21 rfl (lv_at hl 1 rfl) ?_
        refine lv_iconst (v := 4) hx hb dX2_order_22 (by decide) ?_
        refine lv_icmp_gt (tgt := 41) hx hb dX2_order_23 (by decide) (fun q_4 => ?_) (fun q_4 => ?_)
        · have _ := hx
          refine lv_bipush (v := (-2)) hx hb dX2_order_41 (by decide) ?_
          exact z_iret hx hb hr hlocks hw dX2_order_43 (by first | (simp [rOrd, sOrd, q_1, q_2, q_3, q_4]; done) | (simp [rOrd, sOrd, q_1, q_2, q_3, q_4, sI]; done)) (by first | (simp [rOrd, sOrd, q_1, q_2, q_3, q_4]; done) | (simp [rOrd, sOrd, q_1, q_2, q_3, q_4, sI]; done)) rfl
        · have _ := hx
          refine lv_iload_n hx hb dX2_order_26 rfl (lv_at hl 3 rfl) ?_
          refine z_calli (rest := []) (va_runS (As := [.int i]) (rest := []) ⟨hx, hb, hml, hown, hts⟩ (k_X2_isTellableIndex l E c mo i ) (va_cwS 1 hts gX2_order_X2_isTellableIndex rfl rfl rfl (by decide +kernel) ⟨Nat.le_of_ble_eq_true rfl, Nat.le_of_ble_eq_true rfl⟩) (z_preS hw [.int i]) rfl rfl hl.1 rfl (lv_room (Nat.le_of_ble_eq_true rfl)) dX2_order_27 ⟨Nat.le_of_ble_eq_true rfl, Nat.le_of_ble_eq_true rfl⟩) hw (fun H locs hw => ?_)
          refine lv_if_eq (tgt := 41) hx hb dX2_order_30 (by decide) (fun q_5 => ?_) (fun q_5 => ?_)
          · have _ := hx
            refine lv_bipush (v := (-2)) hx hb dX2_order_41 (by decide) ?_
            exact z_iret hx hb hr hlocks hw dX2_order_43 (by first | (simp [rOrd, sOrd, q_1, q_2, q_3, q_4, q_5]; done) | (simp [rOrd, sOrd, q_1, q_2, q_3, q_4, q_5, sI]; done)) (by first | (simp [rOrd, sOrd, q_1, q_2, q_3, q_4, q_5]; done) | (simp [rOrd, sOrd, q_1, q_2, q_3, q_4, q_5, sI]; done)) rfl
          · have _ := hx
            refine lv_iload hx hb dX2_order_33 (lv_at hl 5 rfl) ?_
            refine z_calli (rest := []) (va_runS (As := [.int j]) (rest := []) ⟨hx, hb, hml, hown, hts⟩ (k_X2_isTellableIndex l E c mo j ) (va_cwS 1 hts gX2_order_X2_isTellableIndex rfl rfl rfl (by decide +kernel) ⟨Nat.le_of_ble_eq_true rfl, Nat.le_of_ble_eq_true rfl⟩) (z_preS hw [.int j]) rfl rfl hl.1 rfl (lv_room (Nat.le_of_ble_eq_true rfl)) dX2_order_35 ⟨Nat.le_of_ble_eq_true rfl, Nat.le_of_ble_eq_true rfl⟩) hw (fun H locs hw => ?_)
            refine lv_if_ne (tgt := 44) hx hb dX2_order_38 (by decide) (fun q_6 => ?_) (fun q_6 => ?_)
            · have _ := hx
              refine lv_aload_n hx hb dX2_order_44 rfl (lv_at hl 0 rfl) ?_
              refine z_get (i := 0) hx hb hts hin2 hown hw (by decide) zG_0 rfl 7 (by decide) (hts (.fieldLink RX2 118 "SeedDrawers" "orderCount" "I") (by decide +kernel)) rfl rfl dX2_order_45 ?_
              refine lv_bipush (v := 8) hx hb dX2_order_48 (by decide) ?_
              refine lv_icmp_lt (tgt := 56) hx hb dX2_order_50 (by decide) (fun q_7 => ?_) (fun q_7 => ?_)
              · have _ := hx
                refine lv_aload_n hx hb dX2_order_56 rfl (lv_at hl 0 rfl) ?_
                refine z_get (i := 0) hx hb hts hin2 hown hw (by decide) zG_0 rfl 6 (by decide) (hts (.fieldLink RX2 29 "SeedDrawers" "orders" "[LSeedDrawers$Order;") (by decide +kernel)) rfl rfl dX2_order_57 ?_
                refine lv_aload_n hx hb dX2_order_60 rfl (lv_at hl 0 rfl) ?_
                refine z_get (i := 0) hx hb hts hin2 hown hw (by decide) zG_0 rfl 7 (by decide) (hts (.fieldLink RX2 118 "SeedDrawers" "orderCount" "I") (by decide +kernel)) rfl rfl dX2_order_61 ?_
                refine y_aald3 hx hb hw (hno (by assumption)) (k := (c.1 0 7).toNatClampNeg) rfl dX2_order_64 ?_
                have hf_8 : kd (24 + ((c.1 0 7).toNatClampNeg)) = 7 := kd7o (by omega) (by have := in_lt (hno (by assumption)); omega)
                refine lv_iload_n hx hb dX2_order_65 rfl (lv_at hl 1 rfl) ?_
                refine lv_iload_n hx hb dX2_order_66 rfl (lv_at hl 2 rfl) ?_
                refine lv_iload_n hx hb dX2_order_67 rfl (lv_at hl 3 rfl) ?_
                refine lv_iload hx hb dX2_order_68 (lv_at hl 4 rfl) ?_
                refine lv_iload hx hb dX2_order_70 (lv_at hl 5 rfl) ?_
                refine z_callv (rest := []) (va_runV (As := [.int op, .int a, .int i, .int b, .int j]) (rest := []) ⟨hx, hb, hml, hown, hts⟩ (k_X1_write l E c mo (24 + ((c.1 0 7).toNatClampNeg)) op a i b j hf_8) (cwV 5 hts gX2_order_X1_write rfl rfl rfl (by decide +kernel) ⟨Nat.le_of_ble_eq_true rfl, Nat.le_of_ble_eq_true rfl⟩) (z_preV hw (kd7l hf_8) (zG_7 hf_8) rfl [.int op, .int a, .int i, .int b, .int j]) rfl rfl hl.1 rfl (lv_room (Nat.le_of_ble_eq_true rfl)) dX2_order_72 ⟨Nat.le_of_ble_eq_true rfl, Nat.le_of_ble_eq_true rfl⟩) hw (fun H locs hw => ?_)
                refine lv_aload_n hx hb dX2_order_75 rfl (lv_at hl 0 rfl) ?_
                refine lv_dup hx hb dX2_order_76 rfl ?_
                refine z_get (i := 0) hx hb hts hin2 hown hw (by decide) zG_0 rfl 7 (by decide) (hts (.fieldLink RX2 118 "SeedDrawers" "orderCount" "I") (by decide +kernel)) rfl rfl dX2_order_77 ?_
                refine lv_iconst (v := 1) hx hb dX2_order_80 (by decide) ?_
                refine lv_iadd hx hb dX2_order_81 ?_
                refine z_put (i := 0) (ty := .int) hx hb hts hin2 tyX2 tyX2_ok nmX2 hown hw (by decide) zG_0 rfl 7 (by decide) (hts (.fieldLink RX2 118 "SeedDrawers" "orderCount" "I") (by decide +kernel)) rfl rfl (by decide +kernel) rfl rfl (Nat.le_of_ble_eq_true rfl) (zU0_7 E (wr c (24 + ((c.1 0 7).toNatClampNeg)) op a i b j) mo (((wr c (24 + ((c.1 0 7).toNatClampNeg)) op a i b j).1 0 7) + 1)) dX2_order_82 (fun H locs hw => ?_)
                refine lv_aload_n hx hb dX2_order_85 rfl (lv_at hl 0 rfl) ?_
                refine z_get (i := 0) hx hb hts hin2 hown hw (by decide) zG_0 rfl 7 (by decide) (hts (.fieldLink RX2 118 "SeedDrawers" "orderCount" "I") (by decide +kernel)) rfl rfl dX2_order_86 ?_
                exact z_iret hx hb hr hlocks hw dX2_order_89 (by first | (simp [rOrd, sOrd, q_1, q_2, q_3, q_4, q_5, q_6, q_7]; done) | (simp [rOrd, sOrd, q_1, q_2, q_3, q_4, q_5, q_6, q_7, sI]; done)) (by first | (simp [rOrd, sOrd, q_1, q_2, q_3, q_4, q_5, q_6, q_7]; done) | (simp [rOrd, sOrd, q_1, q_2, q_3, q_4, q_5, q_6, q_7, sI]; done)) rfl
              · have _ := hx
                refine lv_bipush (v := (-3)) hx hb dX2_order_53 (by decide) ?_
                exact z_iret hx hb hr hlocks hw dX2_order_55 (by first | (simp [rOrd, sOrd, q_1, q_2, q_3, q_4, q_5, q_6, q_7]; done) | (simp [rOrd, sOrd, q_1, q_2, q_3, q_4, q_5, q_6, q_7, sI]; done)) (by first | (simp [rOrd, sOrd, q_1, q_2, q_3, q_4, q_5, q_6, q_7]; done) | (simp [rOrd, sOrd, q_1, q_2, q_3, q_4, q_5, q_6, q_7, sI]; done)) rfl
            · have _ := hx
              refine lv_bipush (v := (-2)) hx hb dX2_order_41 (by decide) ?_
              exact z_iret hx hb hr hlocks hw dX2_order_43 (by first | (simp [rOrd, sOrd, q_1, q_2, q_3, q_4, q_5, q_6]; done) | (simp [rOrd, sOrd, q_1, q_2, q_3, q_4, q_5, q_6, sI]; done)) (by first | (simp [rOrd, sOrd, q_1, q_2, q_3, q_4, q_5, q_6]; done) | (simp [rOrd, sOrd, q_1, q_2, q_3, q_4, q_5, q_6, sI]; done)) rfl
    · have _ := hx
      refine lv_iconst (v := (-1)) hx hb dX2_order_15 (by decide) ?_
      exact z_iret hx hb hr hlocks hw dX2_order_16 (by first | (simp [rOrd, sOrd, q_1, q_2]; done) | (simp [rOrd, sOrd, q_1, q_2, sI]; done)) (by first | (simp [rOrd, sOrd, q_1, q_2]; done) | (simp [rOrd, sOrd, q_1, q_2, sI]; done)) rfl
end
section
def Sk (c c' : zC) : Prop := c'.2.2 = c.2.2 ∧ (∀ j k, kd j = 6 → c'.1 j k = c.1 j k) ∧ (∀ j k, kd j = 7 → c'.1 j k = c.1 j k) ∧ c'.1 0 7 = c.1 0 7 ∧ c'.1 0 9 = c.1 0 9 ∧ c'.1 0 5 = c.1 0 5 ∧ c'.1 4 = c.1 4
theorem Sk.rf (c : zC) : Sk c c := ⟨rfl, fun _ _ _ => rfl, fun _ _ _ => rfl, rfl, rfl, rfl, rfl⟩
theorem Sk.tr {a b c : zC} (h : Sk a b) (g : Sk b c) : Sk a c := ⟨g.1.trans h.1, fun j k q => (g.2.1 j k q).trans (h.2.1 j k q), fun j k q => (g.2.2.1 j k q).trans (h.2.2.1 j k q), g.2.2.2.1.trans h.2.2.2.1, g.2.2.2.2.1.trans h.2.2.2.2.1, g.2.2.2.2.2.1.trans h.2.2.2.2.2.1, g.2.2.2.2.2.2.trans h.2.2.2.2.2.2⟩
theorem Sk.j (c : zC) (i k : Nat) (v : Int64) : Sk c (sJ c i k v) := Sk.rf c
theorem Sk.i0 (c : zC) (k : Nat) (v : Int32) (h : k = 3 ∨ k = 10) : Sk c (sI c 0 k v) := by
  refine ⟨rfl, fun j q hj => ?_, fun j q hj => ?_, ?_, ?_, ?_, ?_⟩
  · have := kd6 hj
    simp [sI, show ¬ j = 0 by omega]
  · have := kd7 hj
    simp [sI, show ¬ j = 0 by omega]
  all_goals rcases h with rfl | rfl <;> simp [sI]
theorem Sk.i5 (c : zC) (k : Nat) (v : Int32) : Sk c (sI c 5 k v) := by
  refine ⟨rfl, fun j q hj => ?_, fun j q hj => ?_, ?_, ?_, ?_, ?_⟩
  · have := kd6 hj
    simp [sI, show ¬ j = 5 by omega]
  · have := kd7 hj
    simp [sI, show ¬ j = 5 by omega]
  all_goals simp [sI]
theorem Sk.hold (c : zC) (k : Int32) (v : Int64) : Sk c (hold c k v) := (Sk.i0 c 3 k (Or.inl rfl)).tr (Sk.j _ _ _ _)
theorem Sk.meet (c : zC) (f : Int32) : Sk c (meet c f) := (Sk.i0 c 10 f (Or.inr rfl)).tr ((Sk.i5 _ _ _).tr (Sk.i5 _ _ _))
theorem Sk.take (c : zC) (d i : Int32) : Sk c (sTake c d i) := by
  unfold sTake
  split
  · exact Sk.rf c
  · split
    · exact Sk.hold _ _ _
    · exact Sk.meet _ _
theorem Sk.lay (c : zC) (d i : Int32) : Sk c (sLay c d i) := by
  unfold sLay
  split
  · exact Sk.rf c
  · split
    · exact Sk.rf c
    · split
      · exact Sk.j _ _ _ _
      · exact Sk.meet _ _
theorem Sk.swap (c : zC) (a i b j : Int32) : Sk c (sSwap c a i b j) := by
  unfold sSwap
  split
  · exact Sk.rf c
  · split
    · exact Sk.rf c
    · split
      · exact (Sk.j _ _ _ _).tr (Sk.j _ _ _ _)
      · exact Sk.meet _ _
theorem Sk_revN (j n : Nat) : ∀ (m k : Nat) (c : zC), Sk c (revN j n m k c)
  | 0, _, c => Sk.rf c
  | m + 1, k, c => by
    unfold revN
    exact ((Sk.j _ _ _ _).tr (Sk.j _ _ _ _)).tr (Sk_revN j n m (k + 1) _)
theorem Sk_turn (c : zC) (d : Int32) : Sk c (sTurn c d) := by
  unfold sTurn
  split
  · exact Sk.rf c
  · split
    · exact Sk_revN _ _ _ _ _
    · exact Sk.meet _ _
theorem Sk_po (c : zC) (a : Nat) (i : Int32) (b : Nat) (j : Int32) : Sk c (sPo c a i b j) := by
  unfold sPo
  split
  · split
    · exact Sk.j _ _ _ _
    · exact Sk.rf c
  · exact Sk.rf c
theorem sPo_ne {c : zC} {a : Nat} {i : Int32} {b : Nat} {j : Int32} (h : ¬ fPo c a i b j = 0) : sPo c a i b j = c := by
  unfold fPo at h
  unfold sPo
  split at h
  · rw [if_pos (by assumption), if_neg h]
  · rw [if_neg (by assumption)]
theorem Sk_porN (d t : Nat) (i j n : Int32) : ∀ (m k : Nat) (c : zC), Sk c (porN d t i j n m k c).2
  | 0, _, c => Sk.rf c
  | m + 1, k, c => by
    unfold porN
    split
    · exact (Sk_po _ _ _ _ _).tr (Sk_porN d t i j n m (k + 1) _)
    · exact Sk.meet _ _
theorem Sk_pour (c : zC) (d i t j n : Int32) : Sk c (pPour c d i t j n).2 := by
  unfold pPour
  split
  · exact Sk.rf c
  split
  · exact Sk.rf c
  split
  · exact Sk.rf c
  split
  · exact Sk.rf c
  split
  · exact Sk.rf c
  split
  · exact Sk_porN _ _ _ _ _ _ _ _
  · exact Sk.rf c
theorem Sk_perf (c : zC) (o : Nat) : Sk c (sPerf c o) := by
  unfold sPerf
  split
  · exact Sk.take _ _ _
  split
  · exact Sk.lay _ _ _
  split
  · exact Sk.swap _ _ _ _ _
  split
  · exact Sk_turn _ _
  · exact Sk_pour _ _ _ _ _ _
theorem wfC_sk {c c' : zC} (h : Sk c c') (w : wfC c) : wfC c' := by
  obtain ⟨w1, w2, w3, w4⟩ := w
  refine ⟨fun k hk => by rw [h.1]; exact w1 k hk, fun j hj => ?_, ?_, ?_⟩
  · have e := h.2.1 j 2 hj
    have := w2 j hj
    unfold plOk pl at *
    rw [e]
    exact this
  · rw [h.2.2.2.1]; exact w3
  · rw [h.2.2.2.2.1]; exact w4
theorem wfC_4 {c : zC} (w : wfC c) (k : Nat) (v : Int32) : wfC (sI c 4 k v) := by
  obtain ⟨w1, w2, w3, w4⟩ := w
  refine ⟨w1, fun j hj => ?_, ?_, ?_⟩
  · have hj2 := kd6 hj
    have e : (sI c 4 k v).1 j 2 = c.1 j 2 := by simp [sI, show ¬ j = 4 by omega]
    have := w2 j hj
    unfold plOk pl at *
    rw [e]
    exact this
  · simpa [sI] using w3
  · simpa [sI] using w4
def runN : Nat → Nat → Int32 → zC → Int32 × zC
  | 0, _, a, c => (a, c)
  | m + 1, k, a, c => if (sPerf c (24 + k)).1 5 0 = c.1 5 0 then (if (sI (sPerf c (24 + k)) 4 k 0).1 4 k = 0 then runN m (k + 1) (a + 1) (sI (sPerf c (24 + k)) 4 k 0) else runN m (k + 1) a (sI (sPerf c (24 + k)) 4 k 0)) else (if (sI (sPerf c (24 + k)) 4 k ((sPerf c (24 + k)).1 0 10)).1 4 k = 0 then runN m (k + 1) (a + 1) (sI (sPerf c (24 + k)) 4 k ((sPerf c (24 + k)).1 0 10)) else runN m (k + 1) a (sI (sPerf c (24 + k)) 4 k ((sPerf c (24 + k)).1 0 10)))
def fin (c : zC) : zC := sI (sI c 0 9 (c.1 0 7)) 0 7 0
def pRun (c : zC) : Int32 × zC := ((runN (c.1 0 7).toNatClampNeg 0 0 c).1, fin (runN (c.1 0 7).toNatClampNeg 0 0 c).2)
set_option maxHeartbeats 4000000 in
set_option maxRecDepth 100000 in
theorem k_X2_pour (l : Launch) (E : zE) (c : zC) (mo : zM) (d : Int32) (i : Int32) (t : Int32) (j : Int32) (n : Int32) (hwf : wfC c) : Met l yX2_pour wsX2_pour (zR 4 89) (zP E c mo [.ref (zl E 0), .int d, .int i, .int t, .int j, .int n]) (cQi E ((pPour c d i t j n).1) ((pPour c d i t j n).2) mo) 0 0 (zA E) := by
  refine z_ent (cc := cX2_pour) (maxL := 8) (ret := (some .int)) (vs := [.ref (zl E 0), .int d, .int i, .int t, .int j, .int n]) (by decide) rfl (Nat.le_of_ble_eq_true rfl) ?_
  intro p e s m below meth cd ls hx hb hr hml hown hts hlocks hl hw
  have hl : lv_has ls 8 [(0, .ref (zl E 0)), (1, .int d), (2, .int i), (3, .int t), (4, .int j), (5, .int n)] := hl
  have hown : s.vm.findClass RX2 = some m.cls := hown
  have hin2 : ∀ w ∈ u_ws RX2 TX2 12, w ∈ wsX2_pour := by decide +kernel
  refine lv_iload_n hx hb dX2_pour_0 rfl (lv_at hl 1 rfl) ?_
  refine z_calli (rest := []) (va_runS (As := [.int d]) (rest := []) ⟨hx, hb, hml, hown, hts⟩ (k_X2_isDrawer l E c mo d ) (va_cwS 1 hts gX2_pour_X2_isDrawer rfl rfl rfl (by decide +kernel) ⟨Nat.le_of_ble_eq_true rfl, Nat.le_of_ble_eq_true rfl⟩) (z_preS hw [.int d]) rfl rfl hl.1 rfl (lv_room (Nat.le_of_ble_eq_true rfl)) dX2_pour_1 ⟨Nat.le_of_ble_eq_true rfl, Nat.le_of_ble_eq_true rfl⟩) hw (fun H locs hw => ?_)
  refine lv_if_eq (tgt := 14) hx hb dX2_pour_4 (by decide) (fun q_1 => ?_) (fun q_1 => ?_)
  · have _ := hx
    refine lv_iconst (v := (-1)) hx hb dX2_pour_14 (by decide) ?_
    exact z_iret hx hb hr hlocks hw dX2_pour_15 (by simp [pPour, q_1]) (by simp [pPour, q_1]) rfl
  · have _ := hx
    refine lv_iload_n hx hb dX2_pour_7 rfl (lv_at hl 3 rfl) ?_
    refine z_calli (rest := []) (va_runS (As := [.int t]) (rest := []) ⟨hx, hb, hml, hown, hts⟩ (k_X2_isDrawer l E c mo t ) (va_cwS 1 hts gX2_pour_X2_isDrawer rfl rfl rfl (by decide +kernel) ⟨Nat.le_of_ble_eq_true rfl, Nat.le_of_ble_eq_true rfl⟩) (z_preS hw [.int t]) rfl rfl hl.1 rfl (lv_room (Nat.le_of_ble_eq_true rfl)) dX2_pour_8 ⟨Nat.le_of_ble_eq_true rfl, Nat.le_of_ble_eq_true rfl⟩) hw (fun H locs hw => ?_)
    refine lv_if_ne (tgt := 16) hx hb dX2_pour_11 (by decide) (fun q_2 => ?_) (fun q_2 => ?_)
    · have _ := hx
      refine lv_iload_n hx hb dX2_pour_16 rfl (lv_at hl 2 rfl) ?_
      refine z_calli (rest := []) (va_runS (As := [.int i]) (rest := []) ⟨hx, hb, hml, hown, hts⟩ (k_X2_isTellableIndex l E c mo i ) (va_cwS 1 hts gX2_pour_X2_isTellableIndex rfl rfl rfl (by decide +kernel) ⟨Nat.le_of_ble_eq_true rfl, Nat.le_of_ble_eq_true rfl⟩) (z_preS hw [.int i]) rfl rfl hl.1 rfl (lv_room (Nat.le_of_ble_eq_true rfl)) dX2_pour_17 ⟨Nat.le_of_ble_eq_true rfl, Nat.le_of_ble_eq_true rfl⟩) hw (fun H locs hw => ?_)
      refine lv_if_eq (tgt := 43) hx hb dX2_pour_20 (by decide) (fun q_3 => ?_) (fun q_3 => ?_)
      · have _ := hx
        refine lv_bipush (v := (-2)) hx hb dX2_pour_43 (by decide) ?_
        exact z_iret hx hb hr hlocks hw dX2_pour_45 (by simp [pPour, q_1, q_2, q_3]) (by simp [pPour, q_1, q_2, q_3]) rfl
      · have _ := hx
        refine lv_iload hx hb dX2_pour_23 (lv_at hl 4 rfl) ?_
        refine z_calli (rest := []) (va_runS (As := [.int j]) (rest := []) ⟨hx, hb, hml, hown, hts⟩ (k_X2_isTellableIndex l E c mo j ) (va_cwS 1 hts gX2_pour_X2_isTellableIndex rfl rfl rfl (by decide +kernel) ⟨Nat.le_of_ble_eq_true rfl, Nat.le_of_ble_eq_true rfl⟩) (z_preS hw [.int j]) rfl rfl hl.1 rfl (lv_room (Nat.le_of_ble_eq_true rfl)) dX2_pour_25 ⟨Nat.le_of_ble_eq_true rfl, Nat.le_of_ble_eq_true rfl⟩) hw (fun H locs hw => ?_)
        refine lv_if_eq (tgt := 43) hx hb dX2_pour_28 (by decide) (fun q_4 => ?_) (fun q_4 => ?_)
        · have _ := hx
          refine lv_bipush (v := (-2)) hx hb dX2_pour_43 (by decide) ?_
          exact z_iret hx hb hr hlocks hw dX2_pour_45 (by simp [pPour, q_1, q_2, q_3, q_4]) (by simp [pPour, q_1, q_2, q_3, q_4]) rfl
        · have _ := hx
          refine lv_iload hx hb dX2_pour_31 (lv_at hl 5 rfl) ?_
          refine lv_if_lt (tgt := 43) hx hb dX2_pour_33 (by decide) (fun q_5 => ?_) (fun q_5 => ?_)
          · have _ := hx
            refine lv_bipush (v := (-2)) hx hb dX2_pour_43 (by decide) ?_
            exact z_iret hx hb hr hlocks hw dX2_pour_45 (by simp [pPour, q_1, q_2, q_3, q_4, q_5]) (by simp [pPour, q_1, q_2, q_3, q_4, q_5]) rfl
          · have _ := hx
            refine lv_iload hx hb dX2_pour_36 (lv_at hl 5 rfl) ?_
            refine lv_bipush (v := 12) hx hb dX2_pour_38 (by decide) ?_
            refine lv_icmp_le (tgt := 46) hx hb dX2_pour_40 (by decide) (fun q_6 => ?_) (fun q_6 => ?_)
            · have _ := hx
              refine lv_iconst (v := 0) hx hb dX2_pour_46 (by decide) ?_
              refine lv_istore (lv' := [(6, .int 0), (0, .ref (zl E 0)), (1, .int d), (2, .int i), (3, .int t), (4, .int j), (5, .int n)]) hx hb dX2_pour_47 hl (by decide) rfl (fun ls hl => ?_)
              have hnn : vp_in n 13 := le_in (n := 12) (by assumption) (by assumption) (by decide)
              have hn2 : n = nI n.toNatClampNeg := in_nI hnn (by decide)
              have hn3 : n.toNatClampNeg ≤ 12 := by have := in_lt hnn; omega
              have loop49 : ∀ (n_ : Nat) (k : Nat) (c1 : zC) (H : Heap) (locs : List Loc) (ls : Array Slot), n.toNatClampNeg - k < n_ → (k ≤ n.toNatClampNeg) → (wfC c1) → (porN d.toNatClampNeg t.toNatClampNeg i j n (n.toNatClampNeg - k) k c1 = pPour c d i t j n) → zW E c1 mo s s.heap H locs → lv_has ls 8 [(6, .int (nI k)), (0, .ref (zl E 0)), (1, .int d), (2, .int i), (3, .int t), (4, .int j), (5, .int n)] → W p l e (headSpec wsX2_pour (zR 4 89)).room s m ([.ref (zl E 0), .int d, .int i, .int t, .int j, .int n] : List Value).toArray below meth cd H locs 0 0 (MQ below (cQi E ((pPour c d i t j n).1) ((pPour c d i t j n).2) mo) ([.ref (zl E 0), .int d, .int i, .int t, .int j, .int n] : List Value).toArray s 0 0 (zA E)) (F0 m 49 ls []) := by
                intro n_
                induction n_ with
                | zero => intro k c1 H locs ls hn_; exact absurd hn_ (Nat.not_lt_zero _)
                | succ n_ ih =>
                  intro k c1 H locs ls hn_ hk hwf1 hR hw hl
                  refine lv_iload hx hb dX2_pour_49 (lv_at hl 0 rfl) ?_
                  refine lv_iload hx hb dX2_pour_51 (lv_at hl 6 rfl) ?_
                  refine lv_icmp_ge (tgt := 106) hx hb dX2_pour_53 (by decide) (fun q_7 => ?_) (fun q_7 => ?_)
                  · have _ := hx
                    rw [hn2] at q_7
                    have hk2 : n.toNatClampNeg ≤ k := le_le q_7 (by omega) (by omega)
                    rw [show n.toNatClampNeg - k = 0 by omega] at hR
                    refine lv_iload hx hb dX2_pour_106 (lv_at hl 6 rfl) ?_
                    exact z_iret hx hb hr hlocks hw dX2_pour_108 (by rw [← hR]; rfl) (by rw [← hR]; rfl) rfl
                  · have _ := hx
                    rw [hn2] at q_7
                    have hk2 : k < n.toNatClampNeg := nle_lt q_7 (by omega) (by omega)
                    rw [show n.toNatClampNeg - k = (n.toNatClampNeg - (k + 1)) + 1 by omega] at hR
                    refine lv_aload_n hx hb dX2_pour_56 rfl (lv_at hl 1 rfl) ?_
                    refine z_get (i := 0) hx hb hts hin2 hown hw (by decide) zG_0 rfl 1 (by decide) (hts (.fieldLink RX2 16 "SeedDrawers" "drawers" "[LSeedDrawers$Content;") (by decide +kernel)) rfl rfl dX2_pour_57 ?_
                    refine lv_iload_n hx hb dX2_pour_60 rfl (lv_at hl 2 rfl) ?_
                    refine y_aald1 hx hb hw (isDr_in (by assumption)) (k := d.toNatClampNeg) rfl dX2_pour_61 ?_
                    have hf_8 : kd (c1.2.2 d.toNatClampNeg) = 6 := hwf1.1 _ (in_lt (isDr_in (by assumption)))
                    refine lv_iload_n hx hb dX2_pour_62 rfl (lv_at hl 3 rfl) ?_
                    refine lv_iload hx hb dX2_pour_63 (lv_at hl 0 rfl) ?_
                    refine lv_iadd hx hb dX2_pour_65 ?_
                    refine lv_aload_n hx hb dX2_pour_66 rfl (lv_at hl 1 rfl) ?_
                    refine z_get (i := 0) hx hb hts hin2 hown hw (by decide) zG_0 rfl 1 (by decide) (hts (.fieldLink RX2 16 "SeedDrawers" "drawers" "[LSeedDrawers$Content;") (by decide +kernel)) rfl rfl dX2_pour_67 ?_
                    refine lv_iload_n hx hb dX2_pour_70 rfl (lv_at hl 4 rfl) ?_
                    refine y_aald1 hx hb hw (isDr_in (by assumption)) (k := t.toNatClampNeg) rfl dX2_pour_71 ?_
                    have hf_9 : kd (c1.2.2 t.toNatClampNeg) = 6 := hwf1.1 _ (in_lt (isDr_in (by assumption)))
                    refine lv_iload hx hb dX2_pour_72 (lv_at hl 5 rfl) ?_
                    refine lv_iload hx hb dX2_pour_74 (lv_at hl 0 rfl) ?_
                    refine lv_iadd hx hb dX2_pour_76 ?_
                    refine z_calli (rest := []) (va_runS (As := [.ref (zl E (c1.2.2 d.toNatClampNeg)), .int (i + (nI k)), .ref (zl E (c1.2.2 t.toNatClampNeg)), .int (j + (nI k))]) (rest := []) ⟨hx, hb, hml, hown, hts⟩ (k_X2_pourOne l E c1 mo (c1.2.2 d.toNatClampNeg) (i + (nI k)) (c1.2.2 t.toNatClampNeg) (j + (nI k)) hf_8 hf_9 (hwf1.2.1 _ hf_8) (hwf1.2.1 _ hf_9)) (va_cwS 4 hts gX2_pour_X2_pourOne rfl rfl rfl (by decide +kernel) ⟨Nat.le_of_ble_eq_true rfl, Nat.le_of_ble_eq_true rfl⟩) (z_preS hw [.ref (zl E (c1.2.2 d.toNatClampNeg)), .int (i + (nI k)), .ref (zl E (c1.2.2 t.toNatClampNeg)), .int (j + (nI k))]) rfl rfl hl.1 rfl (lv_room (Nat.le_of_ble_eq_true rfl)) dX2_pour_77 ⟨Nat.le_of_ble_eq_true rfl, Nat.le_of_ble_eq_true rfl⟩) hw (fun H locs hw => ?_)
                    refine lv_istore (lv' := [(7, .int (fPo c1 (c1.2.2 d.toNatClampNeg) (i + (nI k)) (c1.2.2 t.toNatClampNeg) (j + (nI k)))), (6, .int (nI k)), (0, .ref (zl E 0)), (1, .int d), (2, .int i), (3, .int t), (4, .int j), (5, .int n)]) hx hb dX2_pour_80 hl (by decide) rfl (fun ls hl => ?_)
                    refine lv_iload hx hb dX2_pour_82 (lv_at hl 0 rfl) ?_
                    refine lv_if_eq (tgt := 100) hx hb dX2_pour_84 (by decide) (fun q_10 => ?_) (fun q_10 => ?_)
                    · have _ := hx
                      refine lv_iinc (v := (nI (k + 1))) (lv' := [(6, .int (nI (k + 1))), (7, .int (fPo c1 (c1.2.2 d.toNatClampNeg) (i + (nI k)) (c1.2.2 t.toNatClampNeg) (j + (nI k)))), (0, .ref (zl E 0)), (1, .int d), (2, .int i), (3, .int t), (4, .int j), (5, .int n)]) hx hb dX2_pour_100 hl (k := 1) rfl (nI_1 k) (by decide) rfl (fun ls hl => ?_)
                      refine lv_goto (tgt := 49) hx hb dX2_pour_103 (by decide) ?_
                      exact ih (k + 1) (sPo c1 (c1.2.2 d.toNatClampNeg) (i + (nI k)) (c1.2.2 t.toNatClampNeg) (j + (nI k))) _ _ _ (by omega) (by omega) (wfC_sk (Sk_po _ _ _ _ _) hwf1) (by simpa [porN, q_10] using hR) hw (lv_sub hl [0, 2, 3, 4, 5, 6, 7] rfl)
                    · have _ := hx
                      refine lv_aload_n hx hb dX2_pour_87 rfl (lv_at hl 2 rfl) ?_
                      refine lv_iload hx hb dX2_pour_88 (lv_at hl 0 rfl) ?_
                      refine z_calli (rest := []) (va_runV (As := [.int (fPo c1 (c1.2.2 d.toNatClampNeg) (i + (nI k)) (c1.2.2 t.toNatClampNeg) (j + (nI k)))]) (rest := []) ⟨hx, hb, hml, hown, hts⟩ (k_X2_meet l E (sPo c1 (c1.2.2 d.toNatClampNeg) (i + (nI k)) (c1.2.2 t.toNatClampNeg) (j + (nI k))) mo (fPo c1 (c1.2.2 d.toNatClampNeg) (i + (nI k)) (c1.2.2 t.toNatClampNeg) (j + (nI k))) (fPo_5 _ _ _ _ _)) (cwV 1 hts gX2_pour_X2_meet rfl rfl rfl (by decide +kernel) ⟨Nat.le_of_ble_eq_true rfl, Nat.le_of_ble_eq_true rfl⟩) (z_preV hw (by decide) zG_0 rfl [.int (fPo c1 (c1.2.2 d.toNatClampNeg) (i + (nI k)) (c1.2.2 t.toNatClampNeg) (j + (nI k)))]) rfl rfl hl.1 rfl (lv_room (Nat.le_of_ble_eq_true rfl)) dX2_pour_90 ⟨Nat.le_of_ble_eq_true rfl, Nat.le_of_ble_eq_true rfl⟩) hw (fun H locs hw => ?_)
                      refine lv_pop hx hb dX2_pour_93 rfl ?_
                      refine lv_bipush (v := (-100)) hx hb dX2_pour_94 (by decide) ?_
                      refine lv_iload hx hb dX2_pour_96 (lv_at hl 1 rfl) ?_
                      refine lv_iadd hx hb dX2_pour_98 ?_
                      exact z_iret hx hb hr hlocks hw dX2_pour_99 (by rw [← hR]; simp [porN, q_10, sPo_ne q_10]) (by rw [← hR]; simp [porN, q_10, sPo_ne q_10]) rfl
              exact loop49 (n.toNatClampNeg + 1) 0 c _ _ _ (by omega) (by omega) hwf (by rw [Nat.sub_zero]; simp [pPour, q_1, q_2, q_3, q_4, q_5, q_6]) hw (lv_sub hl [0, 1, 2, 3, 4, 5, 6] rfl)
            · have _ := hx
              refine lv_bipush (v := (-2)) hx hb dX2_pour_43 (by decide) ?_
              exact z_iret hx hb hr hlocks hw dX2_pour_45 (by simp [pPour, q_1, q_2, q_3, q_4, q_5, q_6]) (by simp [pPour, q_1, q_2, q_3, q_4, q_5, q_6]) rfl
    · have _ := hx
      refine lv_iconst (v := (-1)) hx hb dX2_pour_14 (by decide) ?_
      exact z_iret hx hb hr hlocks hw dX2_pour_15 (by simp [pPour, q_1, q_2]) (by simp [pPour, q_1, q_2]) rfl
set_option maxHeartbeats 4000000 in
set_option maxRecDepth 100000 in
theorem k_X2_perform (l : Launch) (E : zE) (c : zC) (mo : zM) (o : Nat) (hwf : wfC c) (ho : kd o = 7) : Met l yX2_perform wsX2_perform (zR 5 118) (zP E c mo [.ref (zl E 0), .ref (zl E o)]) (cQv E (sPerf c o) mo) 0 0 (zA E) := by
  refine z_ent (cc := cX2_perform) (maxL := 2) (ret := none) (vs := [.ref (zl E 0), .ref (zl E o)]) (by decide) rfl (Nat.le_of_ble_eq_true rfl) ?_
  intro p e s m below meth cd ls hx hb hr hml hown hts hlocks hl hw
  have hl : lv_has ls 2 [(0, .ref (zl E 0)), (1, .ref (zl E o))] := hl
  have hown : s.vm.findClass RX2 = some m.cls := hown
  have hin1 : ∀ w ∈ u_ws RX1 TX1 5, w ∈ wsX2_perform := by decide +kernel
  refine lv_aload_n hx hb dX2_perform_0 rfl (lv_at hl 1 rfl) ?_
  refine z_get (i := o) hx hb hts hin1 hown hw (kd7l ho) (zG_7 ho) rfl 0 (by decide) (hts (.fieldLink RX2 149 "SeedDrawers$Order" "op" "I") (by decide +kernel)) rfl rfl dX2_perform_1 ?_
  by_cases q_1 : (c.1 o 0) = 0
  · have _ := hx
    refine lv_tableIn (tgt := 36) hx hb dX2_perform_4 (by rw [q_1]; decide) (by rw [q_1]; decide) (by rw [q_1]; rfl) (by decide) ?_
    refine lv_aload_n hx hb dX2_perform_36 rfl (lv_at hl 0 rfl) ?_
    refine lv_aload_n hx hb dX2_perform_37 rfl (lv_at hl 1 rfl) ?_
    refine z_get (i := o) hx hb hts hin1 hown hw (kd7l ho) (zG_7 ho) rfl 1 (by decide) (hts (.fieldLink RX2 152 "SeedDrawers$Order" "a" "I") (by decide +kernel)) rfl rfl dX2_perform_38 ?_
    refine lv_aload_n hx hb dX2_perform_41 rfl (lv_at hl 1 rfl) ?_
    refine z_get (i := o) hx hb hts hin1 hown hw (kd7l ho) (zG_7 ho) rfl 2 (by decide) (hts (.fieldLink RX2 155 "SeedDrawers$Order" "i" "I") (by decide +kernel)) rfl rfl dX2_perform_42 ?_
    refine z_calli (rest := []) (va_runV (As := [.int (c.1 o 1), .int (c.1 o 2)]) (rest := []) ⟨hx, hb, hml, hown, hts⟩ (k_X2_take l E c mo (c.1 o 1) (c.1 o 2) (by assumption)) (cwV 2 hts gX2_perform_X2_take rfl rfl rfl (by decide +kernel) ⟨Nat.le_of_ble_eq_true rfl, Nat.le_of_ble_eq_true rfl⟩) (z_preV hw (by decide) zG_0 rfl [.int (c.1 o 1), .int (c.1 o 2)]) rfl rfl hl.1 rfl (lv_room (Nat.le_of_ble_eq_true rfl)) dX2_perform_45 ⟨Nat.le_of_ble_eq_true rfl, Nat.le_of_ble_eq_true rfl⟩) hw (fun H locs hw => ?_)
    refine lv_pop hx hb dX2_perform_48 rfl ?_
    refine lv_goto (tgt := 126) hx hb dX2_perform_49 (by decide) ?_
    exact z_vret hx hb hr hlocks hw dX2_perform_126 (by first | (simp [sPerf, q_1]; done) | (simp_all [sPerf]; done)) rfl
  by_cases q_2 : (c.1 o 0) = 1
  · have _ := hx
    refine lv_tableIn (tgt := 52) hx hb dX2_perform_4 (by rw [q_2]; decide) (by rw [q_2]; decide) (by rw [q_2]; rfl) (by decide) ?_
    refine lv_aload_n hx hb dX2_perform_52 rfl (lv_at hl 0 rfl) ?_
    refine lv_aload_n hx hb dX2_perform_53 rfl (lv_at hl 1 rfl) ?_
    refine z_get (i := o) hx hb hts hin1 hown hw (kd7l ho) (zG_7 ho) rfl 3 (by decide) (hts (.fieldLink RX2 161 "SeedDrawers$Order" "b" "I") (by decide +kernel)) rfl rfl dX2_perform_54 ?_
    refine lv_aload_n hx hb dX2_perform_57 rfl (lv_at hl 1 rfl) ?_
    refine z_get (i := o) hx hb hts hin1 hown hw (kd7l ho) (zG_7 ho) rfl 4 (by decide) (hts (.fieldLink RX2 164 "SeedDrawers$Order" "j" "I") (by decide +kernel)) rfl rfl dX2_perform_58 ?_
    refine z_calli (rest := []) (va_runV (As := [.int (c.1 o 3), .int (c.1 o 4)]) (rest := []) ⟨hx, hb, hml, hown, hts⟩ (k_X2_lay l E c mo (c.1 o 3) (c.1 o 4) (by assumption)) (cwV 2 hts gX2_perform_X2_lay rfl rfl rfl (by decide +kernel) ⟨Nat.le_of_ble_eq_true rfl, Nat.le_of_ble_eq_true rfl⟩) (z_preV hw (by decide) zG_0 rfl [.int (c.1 o 3), .int (c.1 o 4)]) rfl rfl hl.1 rfl (lv_room (Nat.le_of_ble_eq_true rfl)) dX2_perform_61 ⟨Nat.le_of_ble_eq_true rfl, Nat.le_of_ble_eq_true rfl⟩) hw (fun H locs hw => ?_)
    refine lv_pop hx hb dX2_perform_64 rfl ?_
    refine lv_goto (tgt := 126) hx hb dX2_perform_65 (by decide) ?_
    exact z_vret hx hb hr hlocks hw dX2_perform_126 (by first | (simp [sPerf, q_1, q_2]; done) | (simp_all [sPerf]; done)) rfl
  by_cases q_3 : (c.1 o 0) = 2
  · have _ := hx
    refine lv_tableIn (tgt := 68) hx hb dX2_perform_4 (by rw [q_3]; decide) (by rw [q_3]; decide) (by rw [q_3]; rfl) (by decide) ?_
    refine lv_aload_n hx hb dX2_perform_68 rfl (lv_at hl 0 rfl) ?_
    refine lv_aload_n hx hb dX2_perform_69 rfl (lv_at hl 1 rfl) ?_
    refine z_get (i := o) hx hb hts hin1 hown hw (kd7l ho) (zG_7 ho) rfl 1 (by decide) (hts (.fieldLink RX2 152 "SeedDrawers$Order" "a" "I") (by decide +kernel)) rfl rfl dX2_perform_70 ?_
    refine lv_aload_n hx hb dX2_perform_73 rfl (lv_at hl 1 rfl) ?_
    refine z_get (i := o) hx hb hts hin1 hown hw (kd7l ho) (zG_7 ho) rfl 2 (by decide) (hts (.fieldLink RX2 155 "SeedDrawers$Order" "i" "I") (by decide +kernel)) rfl rfl dX2_perform_74 ?_
    refine lv_aload_n hx hb dX2_perform_77 rfl (lv_at hl 1 rfl) ?_
    refine z_get (i := o) hx hb hts hin1 hown hw (kd7l ho) (zG_7 ho) rfl 3 (by decide) (hts (.fieldLink RX2 161 "SeedDrawers$Order" "b" "I") (by decide +kernel)) rfl rfl dX2_perform_78 ?_
    refine lv_aload_n hx hb dX2_perform_81 rfl (lv_at hl 1 rfl) ?_
    refine z_get (i := o) hx hb hts hin1 hown hw (kd7l ho) (zG_7 ho) rfl 4 (by decide) (hts (.fieldLink RX2 164 "SeedDrawers$Order" "j" "I") (by decide +kernel)) rfl rfl dX2_perform_82 ?_
    refine z_calli (rest := []) (va_runV (As := [.int (c.1 o 1), .int (c.1 o 2), .int (c.1 o 3), .int (c.1 o 4)]) (rest := []) ⟨hx, hb, hml, hown, hts⟩ (k_X2_swap l E c mo (c.1 o 1) (c.1 o 2) (c.1 o 3) (c.1 o 4) (by assumption)) (cwV 4 hts gX2_perform_X2_swap rfl rfl rfl (by decide +kernel) ⟨Nat.le_of_ble_eq_true rfl, Nat.le_of_ble_eq_true rfl⟩) (z_preV hw (by decide) zG_0 rfl [.int (c.1 o 1), .int (c.1 o 2), .int (c.1 o 3), .int (c.1 o 4)]) rfl rfl hl.1 rfl (lv_room (Nat.le_of_ble_eq_true rfl)) dX2_perform_85 ⟨Nat.le_of_ble_eq_true rfl, Nat.le_of_ble_eq_true rfl⟩) hw (fun H locs hw => ?_)
    refine lv_pop hx hb dX2_perform_88 rfl ?_
    refine lv_goto (tgt := 126) hx hb dX2_perform_89 (by decide) ?_
    exact z_vret hx hb hr hlocks hw dX2_perform_126 (by first | (simp [sPerf, q_1, q_2, q_3]; done) | (simp_all [sPerf]; done)) rfl
  by_cases q_4 : (c.1 o 0) = 3
  · have _ := hx
    refine lv_tableIn (tgt := 92) hx hb dX2_perform_4 (by rw [q_4]; decide) (by rw [q_4]; decide) (by rw [q_4]; rfl) (by decide) ?_
    refine lv_aload_n hx hb dX2_perform_92 rfl (lv_at hl 0 rfl) ?_
    refine lv_aload_n hx hb dX2_perform_93 rfl (lv_at hl 1 rfl) ?_
    refine z_get (i := o) hx hb hts hin1 hown hw (kd7l ho) (zG_7 ho) rfl 1 (by decide) (hts (.fieldLink RX2 152 "SeedDrawers$Order" "a" "I") (by decide +kernel)) rfl rfl dX2_perform_94 ?_
    refine z_calli (rest := []) (va_runV (As := [.int (c.1 o 1)]) (rest := []) ⟨hx, hb, hml, hown, hts⟩ (k_X2_turn l E c mo (c.1 o 1) (by assumption)) (cwV 1 hts gX2_perform_X2_turn rfl rfl rfl (by decide +kernel) ⟨Nat.le_of_ble_eq_true rfl, Nat.le_of_ble_eq_true rfl⟩) (z_preV hw (by decide) zG_0 rfl [.int (c.1 o 1)]) rfl rfl hl.1 rfl (lv_room (Nat.le_of_ble_eq_true rfl)) dX2_perform_97 ⟨Nat.le_of_ble_eq_true rfl, Nat.le_of_ble_eq_true rfl⟩) hw (fun H locs hw => ?_)
    refine lv_pop hx hb dX2_perform_100 rfl ?_
    refine lv_goto (tgt := 126) hx hb dX2_perform_101 (by decide) ?_
    exact z_vret hx hb hr hlocks hw dX2_perform_126 (by first | (simp [sPerf, q_1, q_2, q_3, q_4]; done) | (simp_all [sPerf]; done)) rfl
  refine lv_tableOut (tgt := 104) hx hb dX2_perform_4 (tb_out [0, 1, 2, 3] 0 3 (by decide +kernel) (by simp [q_1, q_2, q_3, q_4])) (by decide) ?_
  refine lv_aload_n hx hb dX2_perform_104 rfl (lv_at hl 0 rfl) ?_
  refine lv_aload_n hx hb dX2_perform_105 rfl (lv_at hl 1 rfl) ?_
  refine z_get (i := o) hx hb hts hin1 hown hw (kd7l ho) (zG_7 ho) rfl 1 (by decide) (hts (.fieldLink RX2 152 "SeedDrawers$Order" "a" "I") (by decide +kernel)) rfl rfl dX2_perform_106 ?_
  refine lv_aload_n hx hb dX2_perform_109 rfl (lv_at hl 1 rfl) ?_
  refine z_get (i := o) hx hb hts hin1 hown hw (kd7l ho) (zG_7 ho) rfl 2 (by decide) (hts (.fieldLink RX2 155 "SeedDrawers$Order" "i" "I") (by decide +kernel)) rfl rfl dX2_perform_110 ?_
  refine lv_aload_n hx hb dX2_perform_113 rfl (lv_at hl 1 rfl) ?_
  refine z_get (i := o) hx hb hts hin1 hown hw (kd7l ho) (zG_7 ho) rfl 3 (by decide) (hts (.fieldLink RX2 161 "SeedDrawers$Order" "b" "I") (by decide +kernel)) rfl rfl dX2_perform_114 ?_
  refine lv_aload_n hx hb dX2_perform_117 rfl (lv_at hl 1 rfl) ?_
  refine z_get (i := o) hx hb hts hin1 hown hw (kd7l ho) (zG_7 ho) rfl 4 (by decide) (hts (.fieldLink RX2 164 "SeedDrawers$Order" "j" "I") (by decide +kernel)) rfl rfl dX2_perform_118 ?_
  refine lv_iconst (v := 3) hx hb dX2_perform_121 (by decide) ?_
  refine z_calli (rest := []) (va_runV (As := [.int (c.1 o 1), .int (c.1 o 2), .int (c.1 o 3), .int (c.1 o 4), .int 3]) (rest := []) ⟨hx, hb, hml, hown, hts⟩ (k_X2_pour l E c mo (c.1 o 1) (c.1 o 2) (c.1 o 3) (c.1 o 4) 3 (by assumption)) (cwV 5 hts gX2_perform_X2_pour rfl rfl rfl (by decide +kernel) ⟨Nat.le_of_ble_eq_true rfl, Nat.le_of_ble_eq_true rfl⟩) (z_preV hw (by decide) zG_0 rfl [.int (c.1 o 1), .int (c.1 o 2), .int (c.1 o 3), .int (c.1 o 4), .int 3]) rfl rfl hl.1 rfl (lv_room (Nat.le_of_ble_eq_true rfl)) dX2_perform_122 ⟨Nat.le_of_ble_eq_true rfl, Nat.le_of_ble_eq_true rfl⟩) hw (fun H locs hw => ?_)
  refine lv_pop hx hb dX2_perform_125 rfl ?_
  exact z_vret hx hb hr hlocks hw dX2_perform_126 (by first | (simp [sPerf, q_1, q_2, q_3, q_4]; done) | (simp_all [sPerf]; done)) rfl
set_option maxHeartbeats 4000000 in
set_option maxRecDepth 100000 in
theorem k_X2_run (l : Launch) (E : zE) (c : zC) (mo : zM)  (hwf : wfC c) : Met l yX2_run wsX2_run (zR 6 139) (zP E c mo [.ref (zl E 0)]) (cQi E ((pRun c).1) ((pRun c).2) mo) 0 0 (zA E) := by
  refine z_ent (cc := cX2_run) (maxL := 4) (ret := (some .int)) (vs := [.ref (zl E 0)]) (by decide) rfl (Nat.le_of_ble_eq_true rfl) ?_
  intro p e s m below meth cd ls hx hb hr hml hown hts hlocks hl hw
  have hl : lv_has ls 4 [(0, .ref (zl E 0))] := hl
  have hown : s.vm.findClass RX2 = some m.cls := hown
  have hin2 : ∀ w ∈ u_ws RX2 TX2 12, w ∈ wsX2_run := by decide +kernel
  obtain ⟨nm, hnm1, hnm2⟩ := hwf.2.2.1
  have hN : c.1 0 7 = nI (c.1 0 7).toNatClampNeg := by rw [hnm2, nI_clamp (by omega)]
  have hN8 : (c.1 0 7).toNatClampNeg ≤ 8 := by rw [hnm2, nI_clamp (by omega)]; exact hnm1
  refine lv_iconst (v := 0) hx hb dX2_run_0 (by decide) ?_
  refine lv_istore_n (lv' := [(1, .int 0), (0, .ref (zl E 0))]) hx hb dX2_run_1 rfl hl (by decide) rfl (fun ls hl => ?_)
  refine lv_iconst (v := 0) hx hb dX2_run_2 (by decide) ?_
  refine lv_istore_n (lv' := [(2, .int 0), (1, .int 0), (0, .ref (zl E 0))]) hx hb dX2_run_3 rfl hl (by decide) rfl (fun ls hl => ?_)
  have loop4 : ∀ (n_ : Nat) (k : Nat) (a : Int32) (c1 : zC) (H : Heap) (locs : List Loc) (ls : Array Slot), (c.1 0 7).toNatClampNeg - k < n_ → (k ≤ (c.1 0 7).toNatClampNeg) → (wfC c1) → (c1.1 0 7 = c.1 0 7) → (runN ((c.1 0 7).toNatClampNeg - k) k a c1 = runN (c.1 0 7).toNatClampNeg 0 0 c) → zW E c1 mo s s.heap H locs → lv_has ls 4 [(2, .int (nI k)), (1, .int a), (0, .ref (zl E 0))] → W p l e (headSpec wsX2_run (zR 6 139)).room s m ([.ref (zl E 0)] : List Value).toArray below meth cd H locs 0 0 (MQ below (cQi E ((pRun c).1) ((pRun c).2) mo) ([.ref (zl E 0)] : List Value).toArray s 0 0 (zA E)) (F0 m 4 ls []) := by
    intro n_
    induction n_ with
    | zero => intro k a c1 H locs ls hn_; exact absurd hn_ (Nat.not_lt_zero _)
    | succ n_ ih =>
      intro k a c1 H locs ls hn_ hk hwf1 hoc hR hw hl
      refine lv_iload_n hx hb dX2_run_4 rfl (lv_at hl 0 rfl) ?_
      refine lv_aload_n hx hb dX2_run_5 rfl (lv_at hl 2 rfl) ?_
      refine z_get (i := 0) hx hb hts hin2 hown hw (by decide) zG_0 rfl 7 (by decide) (hts (.fieldLink RX2 118 "SeedDrawers" "orderCount" "I") (by decide +kernel)) rfl rfl dX2_run_6 ?_
      refine lv_icmp_ge (tgt := 71) hx hb dX2_run_9 (by decide) (fun q_1 => ?_) (fun q_1 => ?_)
      · have _ := hx
        rw [hoc, hN] at q_1
        have hk2 : (c.1 0 7).toNatClampNeg ≤ k := le_le q_1 (by omega) (by omega)
        rw [show (c.1 0 7).toNatClampNeg - k = 0 by omega] at hR
        have hR : (a, c1) = runN (c.1 0 7).toNatClampNeg 0 0 c := hR
        refine lv_aload_n hx hb dX2_run_71 rfl (lv_at hl 2 rfl) ?_
        refine lv_aload_n hx hb dX2_run_72 rfl (lv_at hl 2 rfl) ?_
        refine z_get (i := 0) hx hb hts hin2 hown hw (by decide) zG_0 rfl 7 (by decide) (hts (.fieldLink RX2 118 "SeedDrawers" "orderCount" "I") (by decide +kernel)) rfl rfl dX2_run_73 ?_
        refine z_put (i := 0) (ty := .int) hx hb hts hin2 tyX2 tyX2_ok nmX2 hown hw (by decide) zG_0 rfl 9 (by decide) (hts (.fieldLink RX2 132 "SeedDrawers" "metCount" "I") (by decide +kernel)) rfl rfl (by decide +kernel) rfl rfl (Nat.le_of_ble_eq_true rfl) (zU0_9 E c1 mo (c1.1 0 7)) dX2_run_76 (fun H locs hw => ?_)
        refine lv_aload_n hx hb dX2_run_79 rfl (lv_at hl 2 rfl) ?_
        refine lv_iconst (v := 0) hx hb dX2_run_80 (by decide) ?_
        refine z_put (i := 0) (ty := .int) hx hb hts hin2 tyX2 tyX2_ok nmX2 hown hw (by decide) zG_0 rfl 7 (by decide) (hts (.fieldLink RX2 118 "SeedDrawers" "orderCount" "I") (by decide +kernel)) rfl rfl (by decide +kernel) rfl rfl (Nat.le_of_ble_eq_true rfl) (zU0_7 E (sI c1 0 9 (c1.1 0 7)) mo 0) dX2_run_81 (fun H locs hw => ?_)
        refine lv_iload_n hx hb dX2_run_84 rfl (lv_at hl 1 rfl) ?_
        exact z_iret hx hb hr hlocks hw dX2_run_85 (by simp [pRun, fin, ← hR]) (by simp [pRun, fin, ← hR]) rfl
      · have _ := hx
        rw [hoc, hN] at q_1
        have hk2 : k < (c.1 0 7).toNatClampNeg := nle_lt q_1 (by omega) (by omega)
        rw [show (c.1 0 7).toNatClampNeg - k = ((c.1 0 7).toNatClampNeg - (k + 1)) + 1 by omega] at hR
        refine lv_aload_n hx hb dX2_run_12 rfl (lv_at hl 2 rfl) ?_
        refine z_get (i := 0) hx hb hts hin2 hown hw (by decide) zG_0 rfl 11 (by decide) (hts (.fieldLink RX2 38 "SeedDrawers" "faultCounts" "[I") (by decide +kernel)) rfl rfl dX2_run_13 ?_
        refine lv_iconst (v := 0) hx hb dX2_run_16 (by decide) ?_
        refine y_iald (i := 5) hx hb hw (by decide) (zG_4 (i := 5) (by decide)) (vp_in_iff.mpr (by decide)) (k := 0) rfl dX2_run_17 ?_
        refine lv_istore_n (lv' := [(3, .int (c1.1 5 0)), (2, .int (nI k)), (1, .int a), (0, .ref (zl E 0))]) hx hb dX2_run_18 rfl hl (by decide) rfl (fun ls hl => ?_)
        refine lv_aload_n hx hb dX2_run_19 rfl (lv_at hl 3 rfl) ?_
        refine lv_aload_n hx hb dX2_run_20 rfl (lv_at hl 3 rfl) ?_
        refine z_get (i := 0) hx hb hts hin2 hown hw (by decide) zG_0 rfl 6 (by decide) (hts (.fieldLink RX2 29 "SeedDrawers" "orders" "[LSeedDrawers$Order;") (by decide +kernel)) rfl rfl dX2_run_21 ?_
        refine lv_iload_n hx hb dX2_run_24 rfl (lv_at hl 1 rfl) ?_
        refine y_aald3 hx hb hw (vp_in_nI (by omega) (by omega)) (k := k) (nI_clamp (by omega)) dX2_run_25 ?_
        have hf_2 : kd (24 + k) = 7 := kd7o (by omega) (by omega)
        refine z_callv (rest := []) (va_runV (As := [.ref (zl E (24 + k))]) (rest := []) ⟨hx, hb, hml, hown, hts⟩ (k_X2_perform l E c1 mo (24 + k) hwf1 hf_2) (cwV 1 hts gX2_run_X2_perform rfl rfl rfl (by decide +kernel) ⟨Nat.le_of_ble_eq_true rfl, Nat.le_of_ble_eq_true rfl⟩) (z_preV hw (by decide) zG_0 rfl [.ref (zl E (24 + k))]) rfl rfl hl.1 rfl (lv_room (Nat.le_of_ble_eq_true rfl)) dX2_run_26 ⟨Nat.le_of_ble_eq_true rfl, Nat.le_of_ble_eq_true rfl⟩) hw (fun H locs hw => ?_)
        refine lv_aload_n hx hb dX2_run_29 rfl (lv_at hl 3 rfl) ?_
        refine z_get (i := 0) hx hb hts hin2 hown hw (by decide) zG_0 rfl 8 (by decide) (hts (.fieldLink RX2 34 "SeedDrawers" "metFaults" "[I") (by decide +kernel)) rfl rfl dX2_run_30 ?_
        refine lv_iload_n hx hb dX2_run_33 rfl (lv_at hl 1 rfl) ?_
        refine lv_aload_n hx hb dX2_run_34 rfl (lv_at hl 3 rfl) ?_
        refine z_get (i := 0) hx hb hts hin2 hown hw (by decide) zG_0 rfl 11 (by decide) (hts (.fieldLink RX2 38 "SeedDrawers" "faultCounts" "[I") (by decide +kernel)) rfl rfl dX2_run_35 ?_
        refine lv_iconst (v := 0) hx hb dX2_run_38 (by decide) ?_
        refine y_iald (i := 5) hx hb hw (by decide) (zG_4 (i := 5) (by decide)) (vp_in_iff.mpr (by decide)) (k := 0) rfl dX2_run_39 ?_
        refine lv_iload_n hx hb dX2_run_40 rfl (lv_at hl 0 rfl) ?_
        refine lv_icmp_ne (tgt := 48) hx hb dX2_run_41 (by decide) (fun q_3 => ?_) (fun q_3 => ?_)
        · have _ := hx
          refine lv_aload_n hx hb dX2_run_48 rfl (lv_at hl 3 rfl) ?_
          refine z_get (i := 0) hx hb hts hin2 hown hw (by decide) zG_0 rfl 10 (by decide) (hts (.fieldLink RX2 129 "SeedDrawers" "latestFault" "I") (by decide +kernel)) rfl rfl dX2_run_49 ?_
          refine y_iast4 (i := 4) hx hb hw (by decide) (by decide) (vp_in_nI (N := 8) (by omega) (by omega)) (k := k) (nI_clamp (by omega)) dX2_run_52 (fun H locs hw => ?_)
          refine lv_aload_n hx hb dX2_run_53 rfl (lv_at hl 3 rfl) ?_
          refine z_get (i := 0) hx hb hts hin2 hown hw (by decide) zG_0 rfl 8 (by decide) (hts (.fieldLink RX2 34 "SeedDrawers" "metFaults" "[I") (by decide +kernel)) rfl rfl dX2_run_54 ?_
          refine lv_iload_n hx hb dX2_run_57 rfl (lv_at hl 1 rfl) ?_
          refine y_iald (i := 4) hx hb hw (by decide) (zG_4 (i := 4) (by decide)) (vp_in_nI (N := 8) (by omega) (by omega)) (k := k) (nI_clamp (by omega)) dX2_run_58 ?_
          refine lv_if_ne (tgt := 65) hx hb dX2_run_59 (by decide) (fun q_4 => ?_) (fun q_4 => ?_)
          · have _ := hx
            refine lv_iinc (v := (nI (k + 1))) (lv' := [(2, .int (nI (k + 1))), (3, .int (c1.1 5 0)), (1, .int a), (0, .ref (zl E 0))]) hx hb dX2_run_65 hl (k := 1) rfl (nI_1 k) (by decide) rfl (fun ls hl => ?_)
            refine lv_goto (tgt := 4) hx hb dX2_run_68 (by decide) ?_
            exact ih (k + 1) a (sI (sPerf c1 (24 + k)) 4 k ((sPerf c1 (24 + k)).1 0 10)) _ _ _ (by omega) (by omega) (wfC_4 (wfC_sk (Sk_perf _ _) hwf1) _ _) ((Sk_perf _ _).2.2.2.1.trans hoc) (by simpa [runN, q_3, q_4] using hR) hw (lv_sub hl [0, 2, 3] rfl)
          · have _ := hx
            refine lv_iinc (v := (a + 1)) (lv' := [(1, .int (a + 1)), (3, .int (c1.1 5 0)), (2, .int (nI k)), (0, .ref (zl E 0))]) hx hb dX2_run_62 hl (k := 2) rfl rfl (by decide) rfl (fun ls hl => ?_)
            refine lv_iinc (v := (nI (k + 1))) (lv' := [(2, .int (nI (k + 1))), (1, .int (a + 1)), (3, .int (c1.1 5 0)), (0, .ref (zl E 0))]) hx hb dX2_run_65 hl (k := 2) rfl (nI_1 k) (by decide) rfl (fun ls hl => ?_)
            refine lv_goto (tgt := 4) hx hb dX2_run_68 (by decide) ?_
            exact ih (k + 1) (a + 1) (sI (sPerf c1 (24 + k)) 4 k ((sPerf c1 (24 + k)).1 0 10)) _ _ _ (by omega) (by omega) (wfC_4 (wfC_sk (Sk_perf _ _) hwf1) _ _) ((Sk_perf _ _).2.2.2.1.trans hoc) (by simpa [runN, q_3, q_4] using hR) hw (lv_sub hl [0, 1, 3] rfl)
        · have _ := hx
          refine lv_iconst (v := 0) hx hb dX2_run_44 (by decide) ?_
          refine lv_goto (tgt := 52) hx hb dX2_run_45 (by decide) ?_
          refine y_iast4 (i := 4) hx hb hw (by decide) (by decide) (vp_in_nI (N := 8) (by omega) (by omega)) (k := k) (nI_clamp (by omega)) dX2_run_52 (fun H locs hw => ?_)
          refine lv_aload_n hx hb dX2_run_53 rfl (lv_at hl 3 rfl) ?_
          refine z_get (i := 0) hx hb hts hin2 hown hw (by decide) zG_0 rfl 8 (by decide) (hts (.fieldLink RX2 34 "SeedDrawers" "metFaults" "[I") (by decide +kernel)) rfl rfl dX2_run_54 ?_
          refine lv_iload_n hx hb dX2_run_57 rfl (lv_at hl 1 rfl) ?_
          refine y_iald (i := 4) hx hb hw (by decide) (zG_4 (i := 4) (by decide)) (vp_in_nI (N := 8) (by omega) (by omega)) (k := k) (nI_clamp (by omega)) dX2_run_58 ?_
          refine lv_if_ne (tgt := 65) hx hb dX2_run_59 (by decide) (fun q_5 => ?_) (fun q_5 => ?_)
          · have _ := hx
            refine lv_iinc (v := (nI (k + 1))) (lv' := [(2, .int (nI (k + 1))), (3, .int (c1.1 5 0)), (1, .int a), (0, .ref (zl E 0))]) hx hb dX2_run_65 hl (k := 1) rfl (nI_1 k) (by decide) rfl (fun ls hl => ?_)
            refine lv_goto (tgt := 4) hx hb dX2_run_68 (by decide) ?_
            exact ih (k + 1) a (sI (sPerf c1 (24 + k)) 4 k 0) _ _ _ (by omega) (by omega) (wfC_4 (wfC_sk (Sk_perf _ _) hwf1) _ _) ((Sk_perf _ _).2.2.2.1.trans hoc) (by simpa [runN, q_3, q_5] using hR) hw (lv_sub hl [0, 2, 3] rfl)
          · have _ := hx
            refine lv_iinc (v := (a + 1)) (lv' := [(1, .int (a + 1)), (3, .int (c1.1 5 0)), (2, .int (nI k)), (0, .ref (zl E 0))]) hx hb dX2_run_62 hl (k := 2) rfl rfl (by decide) rfl (fun ls hl => ?_)
            refine lv_iinc (v := (nI (k + 1))) (lv' := [(2, .int (nI (k + 1))), (1, .int (a + 1)), (3, .int (c1.1 5 0)), (0, .ref (zl E 0))]) hx hb dX2_run_65 hl (k := 2) rfl (nI_1 k) (by decide) rfl (fun ls hl => ?_)
            refine lv_goto (tgt := 4) hx hb dX2_run_68 (by decide) ?_
            exact ih (k + 1) (a + 1) (sI (sPerf c1 (24 + k)) 4 k 0) _ _ _ (by omega) (by omega) (wfC_4 (wfC_sk (Sk_perf _ _) hwf1) _ _) ((Sk_perf _ _).2.2.2.1.trans hoc) (by simpa [runN, q_3, q_5] using hR) hw (lv_sub hl [0, 1, 3] rfl)
  exact loop4 ((c.1 0 7).toNatClampNeg + 1) 0 0 c _ _ _ (by omega) (by omega) hwf rfl rfl hw (lv_sub hl [0, 1, 2] rfl)
end
section
section RW
variable {c : zC} {mo : zM} {i k a b j : Nat} {v : Int32} {w : Int64}
theorem tI_r (h : ¬ a = i) : (tI mo i k v).1 a = mo.1 a := by funext b; simp [tI, h]
theorem tI_s : (tI mo i k v).1 i k = v := by simp [tI]
theorem tI_n (h : ¬ b = k) : (tI mo i k v).1 i b = mo.1 i b := by simp [tI, h]
theorem tI_2 : (tI mo i k v).2 = mo.2 := rfl
theorem tJ_1 : (tJ mo i k w).1 = mo.1 := rfl
theorem tJ_r (h : ¬ a = i) : (tJ mo i k w).2 a = mo.2 a := by funext b; simp [tJ, h]
theorem tJ_s : (tJ mo i k w).2 i k = w := by simp [tJ]
theorem tJ_n (h : ¬ b = k) : (tJ mo i k w).2 i b = mo.2 i b := by simp [tJ, h]
theorem sI_r (h : ¬ a = i) : (sI c i k v).1 a = c.1 a := by funext b; simp [sI, h]
theorem sI_s : (sI c i k v).1 i k = v := by simp [sI]
theorem sI_n (h : ¬ b = k) : (sI c i k v).1 i b = c.1 i b := by simp [sI, h]
theorem sI_2 : (sI c i k v).2 = c.2 := rfl
theorem sJ_1 : (sJ c i k w).1 = c.1 := rfl
theorem sJ_3 : (sJ c i k w).2.2 = c.2.2 := rfl
theorem sJ_r (h : ¬ a = i) : (sJ c i k w).2.1 a = c.2.1 a := by funext b; simp [sJ, h]
theorem sJ_s : (sJ c i k w).2.1 i k = w := by simp [sJ]
theorem sJ_n (h : ¬ b = k) : (sJ c i k w).2.1 i b = c.2.1 i b := by simp [sJ, h]
theorem sD_1 : (sD c k j).1 = c.1 := rfl
theorem sD_2 : (sD c k j).2.1 = c.2.1 := rfl
theorem sD_s : (sD c k j).2.2 k = j := by simp [sD, va_up]
theorem sD_n (h : ¬ b = k) : (sD c k j).2.2 b = c.2.2 b := by simp [sD, va_up, h]
end RW
theorem le0 {x : Int32} (h : x = 0) : x ≤ 0 := by subst h; decide
def fBey (v a b : Int64) : Int32 := if lg_cmp v a < 0 then 1 else if lg_cmp v b ≤ 0 then 0 else 1
def fNo (d : Int32) : Int32 := fBey d.toInt64 0 7
theorem lg_lt (x y : Int64) : lg_cmp x y < 0 ↔ x.toInt < y.toInt := by
  unfold lg_cmp
  simp only [gt_iff_lt, Int64.lt_iff_toInt_lt]
  by_cases h : y.toInt < x.toInt
  · rw [if_pos h]
    exact ⟨fun q => absurd q (by decide), fun q => absurd q (by omega)⟩
  · rw [if_neg h]
    by_cases h2 : x = y
    · rw [if_pos h2, h2]
      exact ⟨fun q => absurd q (by decide), fun q => absurd q (by omega)⟩
    · rw [if_neg h2]
      refine ⟨fun _ => ?_, fun _ => by decide⟩
      have : ¬ x.toInt = y.toInt := fun q => h2 (Int64.toInt_inj.mp q)
      omega
theorem lg_le (x y : Int64) : lg_cmp x y ≤ 0 ↔ x.toInt ≤ y.toInt := by
  unfold lg_cmp
  simp only [gt_iff_lt, Int64.lt_iff_toInt_lt]
  by_cases h : y.toInt < x.toInt
  · rw [if_pos h]
    exact ⟨fun q => absurd q (by decide), fun q => absurd q (by omega)⟩
  · rw [if_neg h]
    by_cases h2 : x = y
    · rw [if_pos h2, h2]
      exact ⟨fun q => by omega, fun q => by decide⟩
    · rw [if_neg h2]
      exact ⟨fun _ => by omega, fun _ => by decide⟩
theorem lg_eq (x y : Int64) : lg_cmp x y = 0 ↔ x = y := by
  unfold lg_cmp
  simp only [gt_iff_lt, Int64.lt_iff_toInt_lt]
  by_cases h : y.toInt < x.toInt
  · rw [if_pos h]
    exact ⟨fun q => absurd q (by decide), fun q => absurd h (by rw [q]; omega)⟩
  · rw [if_neg h]
    by_cases h2 : x = y
    · rw [if_pos h2]; exact ⟨fun _ => h2, fun _ => rfl⟩
    · rw [if_neg h2]; exact ⟨fun q => absurd q (by decide), fun q => absurd q h2⟩
theorem fBey_iff (v a b : Int64) : fBey v a b = 0 ↔ a.toInt ≤ v.toInt ∧ v.toInt ≤ b.toInt := by
  unfold fBey
  by_cases h : lg_cmp v a < 0
  · rw [if_pos h]; rw [lg_lt] at h
    exact ⟨fun q => absurd q (by decide), fun q => absurd q.1 (by omega)⟩
  · rw [if_neg h]; rw [lg_lt] at h
    by_cases h2 : lg_cmp v b ≤ 0
    · rw [if_pos h2]; rw [lg_le] at h2
      exact ⟨fun _ => ⟨by omega, h2⟩, fun _ => rfl⟩
    · rw [if_neg h2]; rw [lg_le] at h2
      exact ⟨fun q => absurd q (by decide), fun q => absurd q.2 h2⟩
theorem fBey_nar (v a b : Int64) : narrow .boolean (.int (fBey v a b)) = .int (fBey v a b) := by
  unfold fBey
  (repeat' split) <;> rfl
theorem fNo_iff (d : Int32) : fNo d = 0 ↔ vp_in d 8 := by
  unfold fNo
  rw [fBey_iff, vp_in_iff, Int32.toInt_toInt64]
  have h7 : (7 : Int64).toInt = 7 := by decide
  have h0 : (0 : Int64).toInt = 0 := by decide
  rw [h7, h0]
  omega
theorem fNo_in {d : Int32} (h : fNo d = 0) : vp_in d 8 := (fNo_iff d).mp h
abbrev gR (mo : zM) (d : Int32) : Nat := (mo.1 35 d.toNatClampNeg).toNatClampNeg
def met1 (mo : zM) (f : Int32) : zM := tI (tI (tI mo 32 11 f) 39 f.toNatClampNeg ((tI mo 32 11 f).1 39 f.toNatClampNeg + 1)) 39 0 ((tI (tI mo 32 11 f) 39 f.toNatClampNeg ((tI mo 32 11 f).1 39 f.toNatClampNeg + 1)).1 39 0 + 1)
def rAns (f g : Int32) : Int32 := if f ≤ 0 then g else -10 - f
def sAns (mo : zM) (f : Int32) : zM := if f ≤ 0 then mo else met1 mo f
def gRow (mo : zM) (d : Int32) : Int32 := if mo.1 33 d.toNatClampNeg = 0 then 1 else if mo.1 33 d.toNatClampNeg = 1 then 2 else 0
def gCome (mo : zM) (d i : Int32) : Int32 := if gRow mo d ≤ 0 then (if fBey i.toInt64 0 (mo.1 37 (gR mo d) - 1).toInt64 = 0 then 0 else 3) else gRow mo d
def gAt (mo : zM) (d i : Int32) : Int32 := 12 * mo.1 35 d.toNatClampNeg + i
def gEmp (mo : zM) (d i : Int32) : Int32 := if mo.1 36 (gR mo d) = 6 then (if lg_cmp (mo.2 38 (gAt mo d i).toNatClampNeg) 0 = 0 then 1 else 0) else 0
def gFits (k r : Int32) : Int32 := if k < 0 then (if k = r then 1 else if r = 6 then 1 else 0) else if k = r then 1 else if k = 0 then (if r = 1 then 1 else if r = 3 then 1 else if r = 4 then 1 else 0) else if k = 1 then (if r = 3 then 1 else if r = 4 then 1 else 0) else if k = 2 then (if r = 3 then 1 else if r = 4 then 1 else 0) else if k = 3 then (if r = 4 then 1 else 0) else 0
def gLay (mo : zM) (d i k : Int32) : Int32 := if gCome mo d i ≤ 0 then (if gFits k (mo.1 36 (gR mo d)) = 0 then 4 else 0) else gCome mo d i
def gKind (mo : zM) (d i : Int32) : Int32 := if gEmp mo d i = 0 then mo.1 36 (gR mo d) else -1
def gHand (mo : zM) : Int32 := if mo.1 32 7 = 0 then -9 else mo.1 32 8
def wfM (mo : zM) : Prop := (∀ d, d < 8 → vp_in (mo.1 35 d) 5000) ∧ (∀ r, r < 5000 → vp_in (mo.1 37 r) 13) ∧ (∃ n, n ≤ 8 ∧ mo.1 32 13 = nI n ∧ ∀ k, k < n → vp_in (mo.1 40 (5 * k + 1)) 8 ∧ vp_in (mo.1 40 (5 * k + 3)) 8) ∧ (∃ n, n ≤ 8 ∧ mo.1 32 15 = nI n)
theorem wfM_r {mo : zM} (w : wfM mo) {d : Int32} (hd : vp_in d 8) : vp_in (mo.1 35 d.toNatClampNeg) 5000 := w.1 _ (in_lt hd)
theorem gRow_5 (mo : zM) (d : Int32) : vp_in (gRow mo d) 5 := by
  unfold gRow
  (repeat' split) <;> exact vp_in_iff.mpr (by decide)
theorem gCome_5 (mo : zM) (d i : Int32) : vp_in (gCome mo d i) 5 := by
  unfold gCome
  split
  · split <;> exact vp_in_iff.mpr (by decide)
  · exact gRow_5 mo d
theorem gLay_5 (mo : zM) (d i k : Int32) : vp_in (gLay mo d i k) 5 := by
  unfold gLay
  split
  · split <;> exact vp_in_iff.mpr (by decide)
  · exact gCome_5 mo d i
theorem gCome_sz {mo : zM} {d i : Int32} (h : gCome mo d i ≤ 0) (w : wfM mo) (hd : vp_in d 8) : vp_in i (mo.1 37 (gR mo d)).toNatClampNeg := by
  have hs := w.2.1 _ (in_lt (wfM_r w hd))
  unfold gCome at h
  split at h
  · split at h
    · rename_i h1 h2
      rw [fBey_iff, Int32.toInt_toInt64, Int32.toInt_toInt64] at h2
      have h0 : (0 : Int64).toInt = 0 := by decide
      rw [h0] at h2
      obtain ⟨n, hn, e⟩ := vp_in_of hs (by decide)
      have en : (mo.1 37 (gR mo d)).toNatClampNeg = n := by rw [show mo.1 37 (gR mo d) = nI n from e]; exact nI_clamp (by omega)
      rw [en]
      rw [show mo.1 37 (gR mo d) = nI n from e, show (1 : Int32) = nI 1 from rfl, pk_sub_toInt (by omega) (by omega)] at h2
      exact vp_in_iff.mpr ⟨h2.1, by omega⟩
    · exact absurd h (by decide)
  · contradiction
theorem gCome_in {mo : zM} {d i : Int32} (h : gCome mo d i ≤ 0) (w : wfM mo) (hd : vp_in d 8) : vp_in i 12 := by
  have h1 := gCome_sz h w hd
  have h2 : (mo.1 37 (gR mo d)).toNatClampNeg < 13 := in_lt (w.2.1 _ (in_lt (wfM_r w hd)))
  exact in_mono h1 (by omega)
theorem gLay_come {mo : zM} {d i k : Int32} (h : gLay mo d i k ≤ 0) : gCome mo d i ≤ 0 := by
  unfold gLay at h
  split at h
  · assumption
  · contradiction
theorem gLay_in {mo : zM} {d i k : Int32} (h : gLay mo d i k ≤ 0) (w : wfM mo) (hd : vp_in d 8) : vp_in i 12 := gCome_in (gLay_come h) w hd
theorem gAt_e {mo : zM} {d i : Int32} (hr : vp_in (mo.1 35 d.toNatClampNeg) 5000) (hi : vp_in i 12) : gAt mo d i = nI (12 * gR mo d + i.toNatClampNeg) := by
  unfold gAt
  rw [show gR mo d = (mo.1 35 d.toNatClampNeg).toNatClampNeg from rfl]
  obtain ⟨r, hr1, e⟩ := vp_in_of hr (by decide)
  obtain ⟨n, hn1, e2⟩ := vp_in_of hi (by decide)
  rw [e, e2, nI_clamp (by omega), nI_clamp (by omega), show (12 : Int32) = nI 12 from rfl, pk_mul, nI_add]
theorem gAt_k {mo : zM} {d i : Int32} (hr : vp_in (mo.1 35 d.toNatClampNeg) 5000) (hi : vp_in i 12) : (gAt mo d i).toNatClampNeg = 12 * gR mo d + i.toNatClampNeg := by
  rw [gAt_e hr hi]
  have h1 := in_lt hr
  have h2 := in_lt hi
  exact nI_clamp (by show 12 * gR mo d + i.toNatClampNeg < 2 ^ 31; have : gR mo d < 5000 := h1; omega)
theorem gAt_in {mo : zM} {d i : Int32} (hr : vp_in (mo.1 35 d.toNatClampNeg) 5000) (hi : vp_in i 12) : vp_in (gAt mo d i) 60000 := by
  rw [gAt_e hr hi]
  have h1 : gR mo d < 5000 := in_lt hr
  have h2 := in_lt hi
  exact vp_in_nI (by omega) (by decide)
def gTak (mo : zM) (d i : Int32) : zM := if gCome mo d i = 0 then tJ (tI (tI mo 32 7 (if gEmp mo d i = 0 then 1 else 0)) 32 8 (mo.1 36 (gR mo d))) 32 9 (mo.2 38 (gAt mo d i).toNatClampNeg) else mo
def hTake (mo : zM) (d i : Int32) : Int32 := if fNo d = 0 then rAns (gCome mo d i) (gHand (gTak mo d i)) else -1
def tTake (mo : zM) (d i : Int32) : zM := if fNo d = 0 then sAns (gTak mo d i) (gCome mo d i) else mo
def gPut (mo : zM) (d i : Int32) : zM := if gLay mo d i (mo.1 32 8) = 0 then tJ mo 38 (gAt mo d i).toNatClampNeg (mo.2 32 9) else mo
def hLay (mo : zM) (d i : Int32) : Int32 := if fNo d = 0 then (if mo.1 32 7 = 0 then -3 else rAns (gLay mo d i (mo.1 32 8)) 1) else -1
def tLay (mo : zM) (d i : Int32) : zM := if fNo d = 0 then (if mo.1 32 7 = 0 then mo else sAns (gPut mo d i) (gLay mo d i (mo.1 32 8))) else mo
def hSize (mo : zM) (d : Int32) : Int32 := if fNo d = 0 then rAns (gRow mo d) (if gRow mo d ≤ 0 then mo.1 37 (gR mo d) else 0) else -1
def tFau (mo : zM) (d : Int32) : zM := if fNo d = 0 then sAns mo (gRow mo d) else mo
def hNote (d : Int32) : Int32 := if fNo d = 0 then 1 else -1
def tNote (mo : zM) (d v : Int32) : zM := if fNo d = 0 then tI (tI mo 33 d.toNatClampNeg 1) 34 d.toNatClampNeg v else mo
def hShare (d f : Int32) : Int32 := if fNo d = 0 then (if fNo f = 0 then 1 else -1) else -1
def shr (mo : zM) (d f : Nat) : zM := tI (tI (tI mo 33 d (mo.1 33 f)) 34 d ((tI mo 33 d (mo.1 33 f)).1 34 f)) 35 d ((tI (tI mo 33 d (mo.1 33 f)) 34 d ((tI mo 33 d (mo.1 33 f)).1 34 f)).1 35 f)
def tShare (mo : zM) (d f : Int32) : zM := if fNo d = 0 then (if fNo f = 0 then shr mo d.toNatClampNeg f.toNatClampNeg else mo) else mo
def hClear (mo : zM) (d : Int32) : Int32 := if fNo d = 0 then (if mo.1 33 d.toNatClampNeg ≤ 0 then 0 else 1) else -1
def tClear (mo : zM) (d : Int32) : zM := if fNo d = 0 then tI mo 33 d.toNatClampNeg 0 else mo
def gVok (k : Int32) (v : Int64) : Int64 := if k = 0 then v.toInt32.toInt8.toInt32.toInt64 else if k = 1 then v.toInt32.toInt16.toInt32.toInt64 else if k = 2 then (v.toInt32.toUInt32 % 65536).toInt32.toInt64 else if k = 3 then v.toInt32.toInt64 else if k = 4 then v else (if lg_cmp v 0 = 0 then 0 else 1)
def hThink (k : Int32) : Int32 := if fBey k.toInt64 0 5 = 0 then 1 else -2
def tThink (mo : zM) (k : Int32) (v : Int64) : zM := if fBey k.toInt64 0 5 = 0 then tJ (tI (tI mo 32 7 1) 32 8 k) 32 9 (gVok k v) else mo
def hCard (mo : zM) : Int32 := if mo.1 32 10 = 30 then -3 else mo.1 32 10 + 1
def tCard (mo : zM) : zM := if mo.1 32 10 = 30 then mo else tJ (tI (tI (tI mo 32 10 (mo.1 32 10 + 1)) 32 7 1) 32 8 6) 32 9 (mo.1 32 10 + 1).toInt64
def hValue (mo : zM) : Int64 := if mo.1 32 7 = 0 then 0 else mo.2 32 9
def hMet (mo : zM) (k : Int32) : Int32 := if fBey k.toInt64 0 (mo.1 32 15 - 1).toInt64 = 0 then mo.1 41 k.toNatClampNeg else -9
def hFaus (mo : zM) (f : Int32) : Int32 := if fBey f.toInt64 0 4 = 0 then mo.1 39 f.toNatClampNeg else -9
theorem fBey_in {k : Int32} (n : Int64) (N : Nat) (hN : n.toInt + 1 = N) (h : fBey k.toInt64 0 n = 0) : vp_in k N := by
  rw [fBey_iff, Int32.toInt_toInt64] at h
  have h0 : (0 : Int64).toInt = 0 := by decide
  rw [h0] at h
  exact vp_in_iff.mpr ⟨h.1, by omega⟩
theorem fBey_n1 {k x : Int32} {n : Nat} (hx : x = nI n) (hn : n < 2 ^ 30) (h : fBey k.toInt64 0 (x - 1).toInt64 = 0) : vp_in k n := by
  rw [fBey_iff, Int32.toInt_toInt64, Int32.toInt_toInt64, hx, show (1 : Int32) = nI 1 from rfl, pk_sub_toInt hn (by omega)] at h
  have h0 : (0 : Int64).toInt = 0 := by decide
  rw [h0] at h
  exact vp_in_iff.mpr ⟨h.1, by omega⟩
set_option maxHeartbeats 4000000 in
set_option maxRecDepth 100000 in
theorem k_X3_beyond (l : Launch) (E : zE) (c : zC) (mo : zM) (v : Int64) (a : Int64) (b : Int64)  : Met l yX3_beyond wsX3_beyond (zR 0 0) (zP E c mo [.long v, .long a, .long b]) (cQi E (fBey v a b) c mo) 0 0 (zA E) := by
  refine z_ent (cc := cX3_beyond) (maxL := 6) (ret := (some .boolean)) (vs := [.long v, .long a, .long b]) (by decide) rfl (Nat.le_of_ble_eq_true rfl) ?_
  intro p e s m below meth cd ls hx hb hr hml hown hts hlocks hl hw
  have hl : lv_has ls 6 [(0, .long v), (2, .long a), (4, .long b)] := hl
  have hown : s.vm.findClass RX3 = some m.cls := hown
  refine lv_lload_n hx hb dX3_beyond_0 rfl (lv_at hl 0 rfl) ?_
  refine lv_lload_n hx hb dX3_beyond_1 rfl (lv_at hl 1 rfl) ?_
  refine W.lcmp hx hb dX3_beyond_2 ?_
  refine lv_if_lt (tgt := 13) hx hb dX3_beyond_3 (by decide) (fun q_1 => ?_) (fun q_1 => ?_)
  · have _ := hx
    refine lv_iconst (v := 1) hx hb dX3_beyond_13 (by decide) ?_
    refine lv_goto (tgt := 18) hx hb dX3_beyond_14 (by decide) ?_
    exact z_zret hx hb hr hlocks hw dX3_beyond_18 rfl (by first | (simp [fBey, q_1]; done) | (simp_all [fBey]; done)) rfl rfl
  · have _ := hx
    refine lv_lload_n hx hb dX3_beyond_6 rfl (lv_at hl 0 rfl) ?_
    refine lv_lload hx hb dX3_beyond_7 (lv_at hl 2 rfl) ?_
    refine W.lcmp hx hb dX3_beyond_9 ?_
    refine lv_if_le (tgt := 17) hx hb dX3_beyond_10 (by decide) (fun q_2 => ?_) (fun q_2 => ?_)
    · have _ := hx
      refine lv_iconst (v := 0) hx hb dX3_beyond_17 (by decide) ?_
      exact z_zret hx hb hr hlocks hw dX3_beyond_18 rfl (by first | (simp [fBey, q_1, q_2]; done) | (simp_all [fBey]; done)) rfl rfl
    · have _ := hx
      refine lv_iconst (v := 1) hx hb dX3_beyond_13 (by decide) ?_
      refine lv_goto (tgt := 18) hx hb dX3_beyond_14 (by decide) ?_
      exact z_zret hx hb hr hlocks hw dX3_beyond_18 rfl (by first | (simp [fBey, q_1, q_2]; done) | (simp_all [fBey]; done)) rfl rfl
set_option maxHeartbeats 4000000 in
set_option maxRecDepth 100000 in
theorem k_X3_no (l : Launch) (E : zE) (c : zC) (mo : zM) (d : Int32)  : Met l yX3_no wsX3_no (zR 1 25) (zP E c mo [.int d]) (cQi E (fNo d) c mo) 0 0 (zA E) := by
  refine z_ent (cc := cX3_no) (maxL := 1) (ret := (some .boolean)) (vs := [.int d]) (by decide) rfl (Nat.le_of_ble_eq_true rfl) ?_
  intro p e s m below meth cd ls hx hb hr hml hown hts hlocks hl hw
  have hl : lv_has ls 1 [(0, .int d)] := hl
  have hown : s.vm.findClass RX3 = some m.cls := hown
  refine lv_iload_n hx hb dX3_no_0 rfl (lv_at hl 0 rfl) ?_
  refine lv_i2l (v := d.toInt64) hx hb dX3_no_1 rfl ?_
  refine lv_lconst (v := 0) hx hb dX3_no_2 (by decide) ?_
  refine lv_ldc2 (v := 7) hx hb hown (hts (.constantLong RX3 39 (7)) (by decide +kernel)) dX3_no_3 ?_
  refine z_calli (rest := []) (va_runS (As := [.long d.toInt64, .long 0, .long 7]) (rest := []) ⟨hx, hb, hml, hown, hts⟩ (k_X3_beyond l E c mo d.toInt64 0 7 ) (va_cwS 3 hts gX3_no_X3_beyond rfl rfl rfl (by decide +kernel) ⟨Nat.le_of_ble_eq_true rfl, Nat.le_of_ble_eq_true rfl⟩) (z_preS hw [.long d.toInt64, .long 0, .long 7]) rfl rfl hl.1 rfl (lv_room (Nat.le_of_ble_eq_true rfl)) dX3_no_6 ⟨Nat.le_of_ble_eq_true rfl, Nat.le_of_ble_eq_true rfl⟩) hw (fun H locs hw => ?_)
  exact z_zret hx hb hr hlocks hw dX3_no_9 (fBey_nar _ _ _) (by rfl) rfl rfl
set_option maxHeartbeats 4000000 in
set_option maxRecDepth 100000 in
theorem k_X3_met1 (l : Launch) (E : zE) (c : zC) (mo : zM) (f : Int32) (hf : vp_in f 5) : Met l yX3_met1 wsX3_met1 (zR 0 0) (zP E c mo [.ref (zl E 32), .int f]) (cQi E f c (met1 mo f)) 0 0 (zA E) := by
  refine z_ent (cc := cX3_met1) (maxL := 2) (ret := (some .int)) (vs := [.ref (zl E 32), .int f]) (by decide) rfl (Nat.le_of_ble_eq_true rfl) ?_
  intro p e s m below meth cd ls hx hb hr hml hown hts hlocks hl hw
  have hl : lv_has ls 2 [(0, .ref (zl E 32)), (1, .int f)] := hl
  have hown : s.vm.findClass RX3 = some m.cls := hown
  have hin3 : ∀ w ∈ u_ws RX3 TX3 18, w ∈ wsX3_met1 := by decide +kernel
  refine lv_aload_n hx hb dX3_met1_0 rfl (lv_at hl 0 rfl) ?_
  refine lv_iload_n hx hb dX3_met1_1 rfl (lv_at hl 1 rfl) ?_
  refine z_put (i := 32) (ty := .int) hx hb hts hin3 tyX3 tyX3_ok nmX3 hown hw (by decide) zG_32 rfl 11 (by decide) (hts (.fieldLink RX3 45 "SeedDrawersModel" "fault" "I") (by decide +kernel)) rfl rfl (by decide +kernel) rfl rfl (Nat.le_of_ble_eq_true rfl) (zU32_11 E c mo f) dX3_met1_2 (fun H locs hw => ?_)
  refine lv_aload_n hx hb dX3_met1_5 rfl (lv_at hl 0 rfl) ?_
  refine z_get (i := 32) hx hb hts hin3 hown hw (by decide) zG_32 rfl 12 (by decide) (hts (.fieldLink RX3 30 "SeedDrawersModel" "faults" "[I") (by decide +kernel)) rfl rfl dX3_met1_6 ?_
  refine lv_iload_n hx hb dX3_met1_9 rfl (lv_at hl 1 rfl) ?_
  refine lv_dup2_11 hx hb dX3_met1_10 rfl rfl ?_
  refine y_iald (i := 39) hx hb hw (by decide) (zG_9 (i := 39) (by decide)) (by assumption) (k := f.toNatClampNeg) rfl dX3_met1_11 ?_
  refine lv_iconst (v := 1) hx hb dX3_met1_12 (by decide) ?_
  refine lv_iadd hx hb dX3_met1_13 ?_
  refine y_iast9 (i := 39) hx hb hw (by decide) (by decide) (by assumption) (k := f.toNatClampNeg) rfl dX3_met1_14 (fun H locs hw => ?_)
  refine lv_aload_n hx hb dX3_met1_15 rfl (lv_at hl 0 rfl) ?_
  refine z_get (i := 32) hx hb hts hin3 hown hw (by decide) zG_32 rfl 12 (by decide) (hts (.fieldLink RX3 30 "SeedDrawersModel" "faults" "[I") (by decide +kernel)) rfl rfl dX3_met1_16 ?_
  refine lv_iconst (v := 0) hx hb dX3_met1_19 (by decide) ?_
  refine lv_dup2_11 hx hb dX3_met1_20 rfl rfl ?_
  refine y_iald (i := 39) hx hb hw (by decide) (zG_9 (i := 39) (by decide)) (vp_in_iff.mpr (by decide)) (k := 0) rfl dX3_met1_21 ?_
  refine lv_iconst (v := 1) hx hb dX3_met1_22 (by decide) ?_
  refine lv_iadd hx hb dX3_met1_23 ?_
  refine y_iast9 (i := 39) hx hb hw (by decide) (by decide) (vp_in_iff.mpr (by decide)) (k := 0) rfl dX3_met1_24 (fun H locs hw => ?_)
  refine lv_iload_n hx hb dX3_met1_25 rfl (lv_at hl 1 rfl) ?_
  exact z_iret hx hb hr hlocks hw dX3_met1_26 (by rfl) rfl (by rfl)
set_option maxHeartbeats 4000000 in
set_option maxRecDepth 100000 in
theorem k_X3_answer (l : Launch) (E : zE) (c : zC) (mo : zM) (f : Int32) (g : Int32) (hf : vp_in f 5) : Met l yX3_answer wsX3_answer (zR 1 21) (zP E c mo [.ref (zl E 32), .int f, .int g]) (cQi E (rAns f g) c (sAns mo f)) 0 0 (zA E) := by
  refine z_ent (cc := cX3_answer) (maxL := 3) (ret := (some .int)) (vs := [.ref (zl E 32), .int f, .int g]) (by decide) rfl (Nat.le_of_ble_eq_true rfl) ?_
  intro p e s m below meth cd ls hx hb hr hml hown hts hlocks hl hw
  have hl : lv_has ls 3 [(0, .ref (zl E 32)), (1, .int f), (2, .int g)] := hl
  have hown : s.vm.findClass RX3 = some m.cls := hown
  refine lv_iload_n hx hb dX3_answer_0 rfl (lv_at hl 1 rfl) ?_
  refine lv_if_le (tgt := 15) hx hb dX3_answer_1 (by decide) (fun q_1 => ?_) (fun q_1 => ?_)
  · have _ := hx
    refine lv_iload_n hx hb dX3_answer_15 rfl (lv_at hl 2 rfl) ?_
    exact z_iret hx hb hr hlocks hw dX3_answer_16 (by first | (simp [rAns, sAns, q_1]; done) | (simp_all [rAns, sAns]; done)) rfl (by first | (simp [rAns, sAns, q_1]; done) | (simp_all [rAns, sAns]; done))
  · have _ := hx
    refine lv_bipush (v := (-10)) hx hb dX3_answer_4 (by decide) ?_
    refine lv_aload_n hx hb dX3_answer_6 rfl (lv_at hl 0 rfl) ?_
    refine lv_iload_n hx hb dX3_answer_7 rfl (lv_at hl 1 rfl) ?_
    refine z_calli (rest := [.int (-10)]) (va_runV (As := [.int f]) (rest := [.int (-10)]) ⟨hx, hb, hml, hown, hts⟩ (k_X3_met1 l E c mo f (by assumption)) (cwV 1 hts gX3_answer_X3_met1 rfl rfl rfl (by decide +kernel) ⟨Nat.le_of_ble_eq_true rfl, Nat.le_of_ble_eq_true rfl⟩) (z_preV hw (by decide) zG_32 rfl [.int f]) rfl rfl hl.1 rfl (lv_room (Nat.le_of_ble_eq_true rfl)) dX3_answer_8 ⟨Nat.le_of_ble_eq_true rfl, Nat.le_of_ble_eq_true rfl⟩) hw (fun H locs hw => ?_)
    refine lv_isub hx hb dX3_answer_11 ?_
    refine lv_goto (tgt := 16) hx hb dX3_answer_12 (by decide) ?_
    exact z_iret hx hb hr hlocks hw dX3_answer_16 (by first | (simp [rAns, sAns, q_1]; done) | (simp_all [rAns, sAns]; done)) rfl (by first | (simp [rAns, sAns, q_1]; done) | (simp_all [rAns, sAns]; done))
set_option maxHeartbeats 4000000 in
set_option maxRecDepth 100000 in
theorem k_X3_rowFault (l : Launch) (E : zE) (c : zC) (mo : zM) (d : Int32) (hd : vp_in d 8) : Met l yX3_rowFault wsX3_rowFault (zR 0 0) (zP E c mo [.ref (zl E 32), .int d]) (cQi E (gRow mo d) c mo) 0 0 (zA E) := by
  refine z_ent (cc := cX3_rowFault) (maxL := 2) (ret := (some .int)) (vs := [.ref (zl E 32), .int d]) (by decide) rfl (Nat.le_of_ble_eq_true rfl) ?_
  intro p e s m below meth cd ls hx hb hr hml hown hts hlocks hl hw
  have hl : lv_has ls 2 [(0, .ref (zl E 32)), (1, .int d)] := hl
  have hown : s.vm.findClass RX3 = some m.cls := hown
  have hin3 : ∀ w ∈ u_ws RX3 TX3 18, w ∈ wsX3_rowFault := by decide +kernel
  refine lv_aload_n hx hb dX3_rowFault_0 rfl (lv_at hl 0 rfl) ?_
  refine z_get (i := 32) hx hb hts hin3 hown hw (by decide) zG_32 rfl 0 (by decide) (hts (.fieldLink RX3 7 "SeedDrawersModel" "has" "[I") (by decide +kernel)) rfl rfl dX3_rowFault_1 ?_
  refine lv_iload_n hx hb dX3_rowFault_4 rfl (lv_at hl 1 rfl) ?_
  refine y_iald (i := 33) hx hb hw (by decide) (zG_9 (i := 33) (by decide)) (by assumption) (k := d.toNatClampNeg) rfl dX3_rowFault_5 ?_
  refine lv_if_ne (tgt := 13) hx hb dX3_rowFault_6 (by decide) (fun q_1 => ?_) (fun q_1 => ?_)
  · have _ := hx
    refine lv_aload_n hx hb dX3_rowFault_13 rfl (lv_at hl 0 rfl) ?_
    refine z_get (i := 32) hx hb hts hin3 hown hw (by decide) zG_32 rfl 0 (by decide) (hts (.fieldLink RX3 7 "SeedDrawersModel" "has" "[I") (by decide +kernel)) rfl rfl dX3_rowFault_14 ?_
    refine lv_iload_n hx hb dX3_rowFault_17 rfl (lv_at hl 1 rfl) ?_
    refine y_iald (i := 33) hx hb hw (by decide) (zG_9 (i := 33) (by decide)) (by assumption) (k := d.toNatClampNeg) rfl dX3_rowFault_18 ?_
    refine lv_iconst (v := 1) hx hb dX3_rowFault_19 (by decide) ?_
    refine lv_icmp_ne (tgt := 27) hx hb dX3_rowFault_20 (by decide) (fun q_2 => ?_) (fun q_2 => ?_)
    · have _ := hx
      refine lv_iconst (v := 0) hx hb dX3_rowFault_27 (by decide) ?_
      exact z_iret hx hb hr hlocks hw dX3_rowFault_28 (by first | (simp [gRow, q_1, q_2]; done) | (simp_all [gRow]; done)) rfl rfl
    · have _ := hx
      refine lv_iconst (v := 2) hx hb dX3_rowFault_23 (by decide) ?_
      refine lv_goto (tgt := 28) hx hb dX3_rowFault_24 (by decide) ?_
      exact z_iret hx hb hr hlocks hw dX3_rowFault_28 (by first | (simp [gRow, q_1, q_2]; done) | (simp_all [gRow]; done)) rfl rfl
  · have _ := hx
    refine lv_iconst (v := 1) hx hb dX3_rowFault_9 (by decide) ?_
    refine lv_goto (tgt := 28) hx hb dX3_rowFault_10 (by decide) ?_
    exact z_iret hx hb hr hlocks hw dX3_rowFault_28 (by first | (simp [gRow, q_1]; done) | (simp_all [gRow]; done)) rfl rfl
set_option maxHeartbeats 4000000 in
set_option maxRecDepth 100000 in
theorem k_X3_come (l : Launch) (E : zE) (c : zC) (mo : zM) (d : Int32) (i : Int32) (hd : vp_in d 8) (hwm : wfM mo) : Met l yX3_come wsX3_come (zR 1 25) (zP E c mo [.ref (zl E 32), .int d, .int i]) (cQi E (gCome mo d i) c mo) 0 0 (zA E) := by
  refine z_ent (cc := cX3_come) (maxL := 4) (ret := (some .int)) (vs := [.ref (zl E 32), .int d, .int i]) (by decide) rfl (Nat.le_of_ble_eq_true rfl) ?_
  intro p e s m below meth cd ls hx hb hr hml hown hts hlocks hl hw
  have hl : lv_has ls 4 [(0, .ref (zl E 32)), (1, .int d), (2, .int i)] := hl
  have hown : s.vm.findClass RX3 = some m.cls := hown
  have hin3 : ∀ w ∈ u_ws RX3 TX3 18, w ∈ wsX3_come := by decide +kernel
  refine lv_aload_n hx hb dX3_come_0 rfl (lv_at hl 0 rfl) ?_
  refine lv_iload_n hx hb dX3_come_1 rfl (lv_at hl 1 rfl) ?_
  refine z_calli (rest := []) (va_runV (As := [.int d]) (rest := []) ⟨hx, hb, hml, hown, hts⟩ (k_X3_rowFault l E c mo d (by assumption)) (cwV 1 hts gX3_come_X3_rowFault rfl rfl rfl (by decide +kernel) ⟨Nat.le_of_ble_eq_true rfl, Nat.le_of_ble_eq_true rfl⟩) (z_preV hw (by decide) zG_32 rfl [.int d]) rfl rfl hl.1 rfl (lv_room (Nat.le_of_ble_eq_true rfl)) dX3_come_2 ⟨Nat.le_of_ble_eq_true rfl, Nat.le_of_ble_eq_true rfl⟩) hw (fun H locs hw => ?_)
  refine lv_istore_n (lv' := [(3, .int (gRow mo d)), (0, .ref (zl E 32)), (1, .int d), (2, .int i)]) hx hb dX3_come_5 rfl hl (by decide) rfl (fun ls hl => ?_)
  refine lv_iload_n hx hb dX3_come_6 rfl (lv_at hl 0 rfl) ?_
  refine lv_if_le (tgt := 14) hx hb dX3_come_7 (by decide) (fun q_1 => ?_) (fun q_1 => ?_)
  · have _ := hx
    refine lv_iload_n hx hb dX3_come_14 rfl (lv_at hl 3 rfl) ?_
    refine lv_i2l (v := i.toInt64) hx hb dX3_come_15 rfl ?_
    refine lv_lconst (v := 0) hx hb dX3_come_16 (by decide) ?_
    refine lv_aload_n hx hb dX3_come_17 rfl (lv_at hl 1 rfl) ?_
    refine z_get (i := 32) hx hb hts hin3 hown hw (by decide) zG_32 rfl 5 (by decide) (hts (.fieldLink RX3 22 "SeedDrawersModel" "sizeOf" "[I") (by decide +kernel)) rfl rfl dX3_come_18 ?_
    refine lv_aload_n hx hb dX3_come_21 rfl (lv_at hl 1 rfl) ?_
    refine z_get (i := 32) hx hb hts hin3 hown hw (by decide) zG_32 rfl 2 (by decide) (hts (.fieldLink RX3 16 "SeedDrawersModel" "rowOf" "[I") (by decide +kernel)) rfl rfl dX3_come_22 ?_
    refine lv_iload_n hx hb dX3_come_25 rfl (lv_at hl 2 rfl) ?_
    refine y_iald (i := 35) hx hb hw (by decide) (zG_9 (i := 35) (by decide)) (by assumption) (k := d.toNatClampNeg) rfl dX3_come_26 ?_
    refine y_iald (i := 37) hx hb hw (by decide) (zG_9 (i := 37) (by decide)) (wfM_r hwm (by assumption)) (k := (mo.1 35 d.toNatClampNeg).toNatClampNeg) rfl dX3_come_27 ?_
    refine lv_iconst (v := 1) hx hb dX3_come_28 (by decide) ?_
    refine lv_isub hx hb dX3_come_29 ?_
    refine lv_i2l (v := ((mo.1 37 ((mo.1 35 d.toNatClampNeg).toNatClampNeg)) - 1).toInt64) hx hb dX3_come_30 rfl ?_
    refine z_calli (rest := []) (va_runS (As := [.long i.toInt64, .long 0, .long (((mo.1 37 ((mo.1 35 d.toNatClampNeg).toNatClampNeg)) - 1).toInt64)]) (rest := []) ⟨hx, hb, hml, hown, hts⟩ (k_X3_beyond l E c mo i.toInt64 0 (((mo.1 37 ((mo.1 35 d.toNatClampNeg).toNatClampNeg)) - 1).toInt64) ) (va_cwS 3 hts gX3_come_X3_beyond rfl rfl rfl (by decide +kernel) ⟨Nat.le_of_ble_eq_true rfl, Nat.le_of_ble_eq_true rfl⟩) (z_preS hw [.long i.toInt64, .long 0, .long (((mo.1 37 ((mo.1 35 d.toNatClampNeg).toNatClampNeg)) - 1).toInt64)]) rfl rfl hl.1 rfl (lv_room (Nat.le_of_ble_eq_true rfl)) dX3_come_31 ⟨Nat.le_of_ble_eq_true rfl, Nat.le_of_ble_eq_true rfl⟩) hw (fun H locs hw => ?_)
    refine lv_if_eq (tgt := 41) hx hb dX3_come_34 (by decide) (fun q_2 => ?_) (fun q_2 => ?_)
    · have _ := hx
      refine lv_iconst (v := 0) hx hb dX3_come_41 (by decide) ?_
      exact z_iret hx hb hr hlocks hw dX3_come_42 (by first | (simp [gCome, q_1, q_2]; done) | (simp_all [gCome]; done)) rfl rfl
    · have _ := hx
      refine lv_iconst (v := 3) hx hb dX3_come_37 (by decide) ?_
      refine lv_goto (tgt := 42) hx hb dX3_come_38 (by decide) ?_
      exact z_iret hx hb hr hlocks hw dX3_come_42 (by first | (simp [gCome, q_1, q_2]; done) | (simp_all [gCome]; done)) rfl rfl
  · have _ := hx
    refine lv_iload_n hx hb dX3_come_10 rfl (lv_at hl 0 rfl) ?_
    refine lv_goto (tgt := 42) hx hb dX3_come_11 (by decide) ?_
    exact z_iret hx hb hr hlocks hw dX3_come_42 (by first | (simp [gCome, q_1]; done) | (simp_all [gCome]; done)) rfl rfl
set_option maxHeartbeats 4000000 in
set_option maxRecDepth 100000 in
theorem k_X3_at (l : Launch) (E : zE) (c : zC) (mo : zM) (d : Int32) (i : Int32) (hd : vp_in d 8) : Met l yX3_at wsX3_at (zR 0 0) (zP E c mo [.ref (zl E 32), .int d, .int i]) (cQi E (gAt mo d i) c mo) 0 0 (zA E) := by
  refine z_ent (cc := cX3_at) (maxL := 3) (ret := (some .int)) (vs := [.ref (zl E 32), .int d, .int i]) (by decide) rfl (Nat.le_of_ble_eq_true rfl) ?_
  intro p e s m below meth cd ls hx hb hr hml hown hts hlocks hl hw
  have hl : lv_has ls 3 [(0, .ref (zl E 32)), (1, .int d), (2, .int i)] := hl
  have hown : s.vm.findClass RX3 = some m.cls := hown
  have hin3 : ∀ w ∈ u_ws RX3 TX3 18, w ∈ wsX3_at := by decide +kernel
  refine lv_bipush (v := 12) hx hb dX3_at_0 (by decide) ?_
  refine lv_aload_n hx hb dX3_at_2 rfl (lv_at hl 0 rfl) ?_
  refine z_get (i := 32) hx hb hts hin3 hown hw (by decide) zG_32 rfl 2 (by decide) (hts (.fieldLink RX3 16 "SeedDrawersModel" "rowOf" "[I") (by decide +kernel)) rfl rfl dX3_at_3 ?_
  refine lv_iload_n hx hb dX3_at_6 rfl (lv_at hl 1 rfl) ?_
  refine y_iald (i := 35) hx hb hw (by decide) (zG_9 (i := 35) (by decide)) (by assumption) (k := d.toNatClampNeg) rfl dX3_at_7 ?_
  refine lv_imul hx hb dX3_at_8 ?_
  refine lv_iload_n hx hb dX3_at_9 rfl (lv_at hl 2 rfl) ?_
  refine lv_iadd hx hb dX3_at_10 ?_
  exact z_iret hx hb hr hlocks hw dX3_at_11 (by rfl) rfl rfl
set_option maxHeartbeats 4000000 in
set_option maxRecDepth 100000 in
theorem k_X3_isEmpty (l : Launch) (E : zE) (c : zC) (mo : zM) (d : Int32) (i : Int32) (hd : vp_in d 8) (hi : vp_in i 12) (hwm : wfM mo) : Met l yX3_isEmpty wsX3_isEmpty (zR 1 22) (zP E c mo [.ref (zl E 32), .int d, .int i]) (cQi E (gEmp mo d i) c mo) 0 0 (zA E) := by
  refine z_ent (cc := cX3_isEmpty) (maxL := 3) (ret := (some .boolean)) (vs := [.ref (zl E 32), .int d, .int i]) (by decide) rfl (Nat.le_of_ble_eq_true rfl) ?_
  intro p e s m below meth cd ls hx hb hr hml hown hts hlocks hl hw
  have hl : lv_has ls 3 [(0, .ref (zl E 32)), (1, .int d), (2, .int i)] := hl
  have hown : s.vm.findClass RX3 = some m.cls := hown
  have hin3 : ∀ w ∈ u_ws RX3 TX3 18, w ∈ wsX3_isEmpty := by decide +kernel
  refine lv_aload_n hx hb dX3_isEmpty_0 rfl (lv_at hl 0 rfl) ?_
  refine z_get (i := 32) hx hb hts hin3 hown hw (by decide) zG_32 rfl 4 (by decide) (hts (.fieldLink RX3 19 "SeedDrawersModel" "kindOf" "[I") (by decide +kernel)) rfl rfl dX3_isEmpty_1 ?_
  refine lv_aload_n hx hb dX3_isEmpty_4 rfl (lv_at hl 0 rfl) ?_
  refine z_get (i := 32) hx hb hts hin3 hown hw (by decide) zG_32 rfl 2 (by decide) (hts (.fieldLink RX3 16 "SeedDrawersModel" "rowOf" "[I") (by decide +kernel)) rfl rfl dX3_isEmpty_5 ?_
  refine lv_iload_n hx hb dX3_isEmpty_8 rfl (lv_at hl 1 rfl) ?_
  refine y_iald (i := 35) hx hb hw (by decide) (zG_9 (i := 35) (by decide)) (by assumption) (k := d.toNatClampNeg) rfl dX3_isEmpty_9 ?_
  refine y_iald (i := 36) hx hb hw (by decide) (zG_9 (i := 36) (by decide)) (wfM_r hwm (by assumption)) (k := (mo.1 35 d.toNatClampNeg).toNatClampNeg) rfl dX3_isEmpty_10 ?_
  refine lv_bipush (v := 6) hx hb dX3_isEmpty_11 (by decide) ?_
  refine lv_icmp_ne (tgt := 36) hx hb dX3_isEmpty_13 (by decide) (fun q_1 => ?_) (fun q_1 => ?_)
  · have _ := hx
    refine lv_iconst (v := 0) hx hb dX3_isEmpty_36 (by decide) ?_
    exact z_zret hx hb hr hlocks hw dX3_isEmpty_37 rfl (by first | (simp [gEmp, q_1]; done) | (simp_all [gEmp]; done)) rfl rfl
  · have _ := hx
    refine lv_aload_n hx hb dX3_isEmpty_16 rfl (lv_at hl 0 rfl) ?_
    refine z_get (i := 32) hx hb hts hin3 hown hw (by decide) zG_32 rfl 6 (by decide) (hts (.fieldLink RX3 26 "SeedDrawersModel" "place" "[J") (by decide +kernel)) rfl rfl dX3_isEmpty_17 ?_
    refine lv_aload_n hx hb dX3_isEmpty_20 rfl (lv_at hl 0 rfl) ?_
    refine lv_iload_n hx hb dX3_isEmpty_21 rfl (lv_at hl 1 rfl) ?_
    refine lv_iload_n hx hb dX3_isEmpty_22 rfl (lv_at hl 2 rfl) ?_
    refine z_calli (rest := [.ref (zl E 38)]) (va_runV (As := [.int d, .int i]) (rest := [.ref (zl E 38)]) ⟨hx, hb, hml, hown, hts⟩ (k_X3_at l E c mo d i (by assumption)) (cwV 2 hts gX3_isEmpty_X3_at rfl rfl rfl (by decide +kernel) ⟨Nat.le_of_ble_eq_true rfl, Nat.le_of_ble_eq_true rfl⟩) (z_preV hw (by decide) zG_32 rfl [.int d, .int i]) rfl rfl hl.1 rfl (lv_room (Nat.le_of_ble_eq_true rfl)) dX3_isEmpty_23 ⟨Nat.le_of_ble_eq_true rfl, Nat.le_of_ble_eq_true rfl⟩) hw (fun H locs hw => ?_)
    refine y_lald (i := 38) hx hb hw (by decide) zG_38 (gAt_in (wfM_r hwm (by assumption)) (by assumption)) (k := (gAt mo d i).toNatClampNeg) rfl dX3_isEmpty_26 ?_
    refine lv_lconst (v := 0) hx hb dX3_isEmpty_27 (by decide) ?_
    refine W.lcmp hx hb dX3_isEmpty_28 ?_
    refine lv_if_ne (tgt := 36) hx hb dX3_isEmpty_29 (by decide) (fun q_2 => ?_) (fun q_2 => ?_)
    · have _ := hx
      refine lv_iconst (v := 0) hx hb dX3_isEmpty_36 (by decide) ?_
      exact z_zret hx hb hr hlocks hw dX3_isEmpty_37 rfl (by first | (simp [gEmp, q_1, q_2]; done) | (simp_all [gEmp]; done)) rfl rfl
    · have _ := hx
      refine lv_iconst (v := 1) hx hb dX3_isEmpty_32 (by decide) ?_
      refine lv_goto (tgt := 37) hx hb dX3_isEmpty_33 (by decide) ?_
      exact z_zret hx hb hr hlocks hw dX3_isEmpty_37 rfl (by first | (simp [gEmp, q_1, q_2]; done) | (simp_all [gEmp]; done)) rfl rfl
set_option maxHeartbeats 4000000 in
set_option maxRecDepth 100000 in
theorem k_X3_fits (l : Launch) (E : zE) (c : zC) (mo : zM) (k : Int32) (r : Int32)  : Met l yX3_fits wsX3_fits (zR 0 0) (zP E c mo [.int k, .int r]) (cQi E (gFits k r) c mo) 0 0 (zA E) := by
  refine z_ent (cc := cX3_fits) (maxL := 2) (ret := (some .boolean)) (vs := [.int k, .int r]) (by decide) rfl (Nat.le_of_ble_eq_true rfl) ?_
  intro p e s m below meth cd ls hx hb hr hml hown hts hlocks hl hw
  have hl : lv_has ls 2 [(0, .int k), (1, .int r)] := hl
  have hown : s.vm.findClass RX3 = some m.cls := hown
  refine lv_iload_n hx hb dX3_fits_0 rfl (lv_at hl 0 rfl) ?_
  refine lv_if_lt (tgt := 9) hx hb dX3_fits_1 (by decide) (fun q_1 => ?_) (fun q_1 => ?_)
  · have _ := hx
    refine lv_iload_n hx hb dX3_fits_9 rfl (lv_at hl 0 rfl) ?_
    refine lv_iload_n hx hb dX3_fits_10 rfl (lv_at hl 1 rfl) ?_
    refine lv_icmp_eq (tgt := 20) hx hb dX3_fits_11 (by decide) (fun q_2 => ?_) (fun q_2 => ?_)
    · have _ := hx
      refine lv_iconst (v := 1) hx hb dX3_fits_20 (by decide) ?_
      refine lv_goto (tgt := 25) hx hb dX3_fits_21 (by decide) ?_
      exact z_zret hx hb hr hlocks hw dX3_fits_25 rfl (by first | (simp [gFits, q_1, q_2]; done) | (simp_all [gFits]; done)) rfl rfl
    · have _ := hx
      refine lv_iload_n hx hb dX3_fits_14 rfl (lv_at hl 1 rfl) ?_
      refine lv_bipush (v := 6) hx hb dX3_fits_15 (by decide) ?_
      refine lv_icmp_ne (tgt := 24) hx hb dX3_fits_17 (by decide) (fun q_3 => ?_) (fun q_3 => ?_)
      · have _ := hx
        refine lv_iconst (v := 0) hx hb dX3_fits_24 (by decide) ?_
        exact z_zret hx hb hr hlocks hw dX3_fits_25 rfl (by first | (simp [gFits, q_1, q_2, q_3]; done) | (simp_all [gFits]; done)) rfl rfl
      · have _ := hx
        refine lv_iconst (v := 1) hx hb dX3_fits_20 (by decide) ?_
        refine lv_goto (tgt := 25) hx hb dX3_fits_21 (by decide) ?_
        exact z_zret hx hb hr hlocks hw dX3_fits_25 rfl (by first | (simp [gFits, q_1, q_2, q_3]; done) | (simp_all [gFits]; done)) rfl rfl
  · have _ := hx
    refine lv_iload_n hx hb dX3_fits_4 rfl (lv_at hl 0 rfl) ?_
    refine lv_iload_n hx hb dX3_fits_5 rfl (lv_at hl 1 rfl) ?_
    refine lv_icmp_ne (tgt := 26) hx hb dX3_fits_6 (by decide) (fun q_4 => ?_) (fun q_4 => ?_)
    · have _ := hx
      refine lv_iload_n hx hb dX3_fits_26 rfl (lv_at hl 0 rfl) ?_
      by_cases q_5 : k = 0
      · have _ := hx
        refine lv_tableIn (tgt := 56) hx hb dX3_fits_27 (by rw [q_5]; decide) (by rw [q_5]; decide) (by rw [q_5]; rfl) (by decide) ?_
        refine lv_iload_n hx hb dX3_fits_56 rfl (lv_at hl 1 rfl) ?_
        refine lv_iconst (v := 1) hx hb dX3_fits_57 (by decide) ?_
        refine lv_icmp_eq (tgt := 71) hx hb dX3_fits_58 (by decide) (fun q_6 => ?_) (fun q_6 => ?_)
        · have _ := hx
          refine lv_iconst (v := 1) hx hb dX3_fits_71 (by decide) ?_
          refine lv_goto (tgt := 76) hx hb dX3_fits_72 (by decide) ?_
          exact z_zret hx hb hr hlocks hw dX3_fits_76 rfl (by first | (simp [gFits, q_1, q_4, q_5, q_6]; done) | (simp_all [gFits]; done)) rfl rfl
        · have _ := hx
          refine lv_iload_n hx hb dX3_fits_61 rfl (lv_at hl 1 rfl) ?_
          refine lv_iconst (v := 3) hx hb dX3_fits_62 (by decide) ?_
          refine lv_icmp_eq (tgt := 71) hx hb dX3_fits_63 (by decide) (fun q_7 => ?_) (fun q_7 => ?_)
          · have _ := hx
            refine lv_iconst (v := 1) hx hb dX3_fits_71 (by decide) ?_
            refine lv_goto (tgt := 76) hx hb dX3_fits_72 (by decide) ?_
            exact z_zret hx hb hr hlocks hw dX3_fits_76 rfl (by first | (simp [gFits, q_1, q_4, q_5, q_6, q_7]; done) | (simp_all [gFits]; done)) rfl rfl
          · have _ := hx
            refine lv_iload_n hx hb dX3_fits_66 rfl (lv_at hl 1 rfl) ?_
            refine lv_iconst (v := 4) hx hb dX3_fits_67 (by decide) ?_
            refine lv_icmp_ne (tgt := 75) hx hb dX3_fits_68 (by decide) (fun q_8 => ?_) (fun q_8 => ?_)
            · have _ := hx
              refine lv_iconst (v := 0) hx hb dX3_fits_75 (by decide) ?_
              exact z_zret hx hb hr hlocks hw dX3_fits_76 rfl (by first | (simp [gFits, q_1, q_4, q_5, q_6, q_7, q_8]; done) | (simp_all [gFits]; done)) rfl rfl
            · have _ := hx
              refine lv_iconst (v := 1) hx hb dX3_fits_71 (by decide) ?_
              refine lv_goto (tgt := 76) hx hb dX3_fits_72 (by decide) ?_
              exact z_zret hx hb hr hlocks hw dX3_fits_76 rfl (by first | (simp [gFits, q_1, q_4, q_5, q_6, q_7, q_8]; done) | (simp_all [gFits]; done)) rfl rfl
      by_cases q_9 : k = 1
      · have _ := hx
        refine lv_tableIn (tgt := 77) hx hb dX3_fits_27 (by rw [q_9]; decide) (by rw [q_9]; decide) (by rw [q_9]; rfl) (by decide) ?_
        refine lv_iload_n hx hb dX3_fits_77 rfl (lv_at hl 1 rfl) ?_
        refine lv_iconst (v := 3) hx hb dX3_fits_78 (by decide) ?_
        refine lv_icmp_eq (tgt := 87) hx hb dX3_fits_79 (by decide) (fun q_10 => ?_) (fun q_10 => ?_)
        · have _ := hx
          refine lv_iconst (v := 1) hx hb dX3_fits_87 (by decide) ?_
          refine lv_goto (tgt := 92) hx hb dX3_fits_88 (by decide) ?_
          exact z_zret hx hb hr hlocks hw dX3_fits_92 rfl (by first | (simp [gFits, q_1, q_4, q_5, q_9, q_10]; done) | (simp_all [gFits]; done)) rfl rfl
        · have _ := hx
          refine lv_iload_n hx hb dX3_fits_82 rfl (lv_at hl 1 rfl) ?_
          refine lv_iconst (v := 4) hx hb dX3_fits_83 (by decide) ?_
          refine lv_icmp_ne (tgt := 91) hx hb dX3_fits_84 (by decide) (fun q_11 => ?_) (fun q_11 => ?_)
          · have _ := hx
            refine lv_iconst (v := 0) hx hb dX3_fits_91 (by decide) ?_
            exact z_zret hx hb hr hlocks hw dX3_fits_92 rfl (by first | (simp [gFits, q_1, q_4, q_5, q_9, q_10, q_11]; done) | (simp_all [gFits]; done)) rfl rfl
          · have _ := hx
            refine lv_iconst (v := 1) hx hb dX3_fits_87 (by decide) ?_
            refine lv_goto (tgt := 92) hx hb dX3_fits_88 (by decide) ?_
            exact z_zret hx hb hr hlocks hw dX3_fits_92 rfl (by first | (simp [gFits, q_1, q_4, q_5, q_9, q_10, q_11]; done) | (simp_all [gFits]; done)) rfl rfl
      by_cases q_12 : k = 2
      · have _ := hx
        refine lv_tableIn (tgt := 77) hx hb dX3_fits_27 (by rw [q_12]; decide) (by rw [q_12]; decide) (by rw [q_12]; rfl) (by decide) ?_
        refine lv_iload_n hx hb dX3_fits_77 rfl (lv_at hl 1 rfl) ?_
        refine lv_iconst (v := 3) hx hb dX3_fits_78 (by decide) ?_
        refine lv_icmp_eq (tgt := 87) hx hb dX3_fits_79 (by decide) (fun q_13 => ?_) (fun q_13 => ?_)
        · have _ := hx
          refine lv_iconst (v := 1) hx hb dX3_fits_87 (by decide) ?_
          refine lv_goto (tgt := 92) hx hb dX3_fits_88 (by decide) ?_
          exact z_zret hx hb hr hlocks hw dX3_fits_92 rfl (by first | (simp [gFits, q_1, q_4, q_5, q_9, q_12, q_13]; done) | (simp_all [gFits]; done)) rfl rfl
        · have _ := hx
          refine lv_iload_n hx hb dX3_fits_82 rfl (lv_at hl 1 rfl) ?_
          refine lv_iconst (v := 4) hx hb dX3_fits_83 (by decide) ?_
          refine lv_icmp_ne (tgt := 91) hx hb dX3_fits_84 (by decide) (fun q_14 => ?_) (fun q_14 => ?_)
          · have _ := hx
            refine lv_iconst (v := 0) hx hb dX3_fits_91 (by decide) ?_
            exact z_zret hx hb hr hlocks hw dX3_fits_92 rfl (by first | (simp [gFits, q_1, q_4, q_5, q_9, q_12, q_13, q_14]; done) | (simp_all [gFits]; done)) rfl rfl
          · have _ := hx
            refine lv_iconst (v := 1) hx hb dX3_fits_87 (by decide) ?_
            refine lv_goto (tgt := 92) hx hb dX3_fits_88 (by decide) ?_
            exact z_zret hx hb hr hlocks hw dX3_fits_92 rfl (by first | (simp [gFits, q_1, q_4, q_5, q_9, q_12, q_13, q_14]; done) | (simp_all [gFits]; done)) rfl rfl
      by_cases q_15 : k = 3
      · have _ := hx
        refine lv_tableIn (tgt := 93) hx hb dX3_fits_27 (by rw [q_15]; decide) (by rw [q_15]; decide) (by rw [q_15]; rfl) (by decide) ?_
        refine lv_iload_n hx hb dX3_fits_93 rfl (lv_at hl 1 rfl) ?_
        refine lv_iconst (v := 4) hx hb dX3_fits_94 (by decide) ?_
        refine lv_icmp_ne (tgt := 102) hx hb dX3_fits_95 (by decide) (fun q_16 => ?_) (fun q_16 => ?_)
        · have _ := hx
          refine lv_iconst (v := 0) hx hb dX3_fits_102 (by decide) ?_
          exact z_zret hx hb hr hlocks hw dX3_fits_103 rfl (by first | (simp [gFits, q_1, q_4, q_5, q_9, q_12, q_15, q_16]; done) | (simp_all [gFits]; done)) rfl rfl
        · have _ := hx
          refine lv_iconst (v := 1) hx hb dX3_fits_98 (by decide) ?_
          refine lv_goto (tgt := 103) hx hb dX3_fits_99 (by decide) ?_
          exact z_zret hx hb hr hlocks hw dX3_fits_103 rfl (by first | (simp [gFits, q_1, q_4, q_5, q_9, q_12, q_15, q_16]; done) | (simp_all [gFits]; done)) rfl rfl
      refine lv_tableOut (tgt := 104) hx hb dX3_fits_27 (tb_out [0, 1, 2, 3] 0 3 (by decide +kernel) (by simp [q_5, q_9, q_12, q_15])) (by decide) ?_
      refine lv_iconst (v := 0) hx hb dX3_fits_104 (by decide) ?_
      exact z_zret hx hb hr hlocks hw dX3_fits_105 rfl (by first | (simp [gFits, q_1, q_4, q_5, q_9, q_12, q_15]; done) | (simp_all [gFits]; done)) rfl rfl
    · have _ := hx
      refine lv_iload_n hx hb dX3_fits_9 rfl (lv_at hl 0 rfl) ?_
      refine lv_iload_n hx hb dX3_fits_10 rfl (lv_at hl 1 rfl) ?_
      refine lv_icmp_eq (tgt := 20) hx hb dX3_fits_11 (by decide) (fun q_17 => ?_) (fun q_17 => ?_)
      · have _ := hx
        refine lv_iconst (v := 1) hx hb dX3_fits_20 (by decide) ?_
        refine lv_goto (tgt := 25) hx hb dX3_fits_21 (by decide) ?_
        exact z_zret hx hb hr hlocks hw dX3_fits_25 rfl (by first | (simp [gFits, q_1, q_4, q_17]; done) | (simp_all [gFits]; done)) rfl rfl
      · have _ := hx
        refine lv_iload_n hx hb dX3_fits_14 rfl (lv_at hl 1 rfl) ?_
        refine lv_bipush (v := 6) hx hb dX3_fits_15 (by decide) ?_
        refine lv_icmp_ne (tgt := 24) hx hb dX3_fits_17 (by decide) (fun q_18 => ?_) (fun q_18 => ?_)
        · have _ := hx
          refine lv_iconst (v := 0) hx hb dX3_fits_24 (by decide) ?_
          exact z_zret hx hb hr hlocks hw dX3_fits_25 rfl (by first | (simp [gFits, q_1, q_4, q_17, q_18]; done) | (simp_all [gFits]; done)) rfl rfl
        · have _ := hx
          refine lv_iconst (v := 1) hx hb dX3_fits_20 (by decide) ?_
          refine lv_goto (tgt := 25) hx hb dX3_fits_21 (by decide) ?_
          exact z_zret hx hb hr hlocks hw dX3_fits_25 rfl (by first | (simp [gFits, q_1, q_4, q_17, q_18]; done) | (simp_all [gFits]; done)) rfl rfl
set_option maxHeartbeats 4000000 in
set_option maxRecDepth 100000 in
theorem k_X3_laying (l : Launch) (E : zE) (c : zC) (mo : zM) (d : Int32) (i : Int32) (k : Int32) (hd : vp_in d 8) (hwm : wfM mo) : Met l yX3_laying wsX3_laying (zR 2 48) (zP E c mo [.ref (zl E 32), .int d, .int i, .int k]) (cQi E (gLay mo d i k) c mo) 0 0 (zA E) := by
  refine z_ent (cc := cX3_laying) (maxL := 5) (ret := (some .int)) (vs := [.ref (zl E 32), .int d, .int i, .int k]) (by decide) rfl (Nat.le_of_ble_eq_true rfl) ?_
  intro p e s m below meth cd ls hx hb hr hml hown hts hlocks hl hw
  have hl : lv_has ls 5 [(0, .ref (zl E 32)), (1, .int d), (2, .int i), (3, .int k)] := hl
  have hown : s.vm.findClass RX3 = some m.cls := hown
  have hin3 : ∀ w ∈ u_ws RX3 TX3 18, w ∈ wsX3_laying := by decide +kernel
  refine lv_aload_n hx hb dX3_laying_0 rfl (lv_at hl 0 rfl) ?_
  refine lv_iload_n hx hb dX3_laying_1 rfl (lv_at hl 1 rfl) ?_
  refine lv_iload_n hx hb dX3_laying_2 rfl (lv_at hl 2 rfl) ?_
  refine z_calli (rest := []) (va_runV (As := [.int d, .int i]) (rest := []) ⟨hx, hb, hml, hown, hts⟩ (k_X3_come l E c mo d i (by assumption) (by assumption)) (cwV 2 hts gX3_laying_X3_come rfl rfl rfl (by decide +kernel) ⟨Nat.le_of_ble_eq_true rfl, Nat.le_of_ble_eq_true rfl⟩) (z_preV hw (by decide) zG_32 rfl [.int d, .int i]) rfl rfl hl.1 rfl (lv_room (Nat.le_of_ble_eq_true rfl)) dX3_laying_3 ⟨Nat.le_of_ble_eq_true rfl, Nat.le_of_ble_eq_true rfl⟩) hw (fun H locs hw => ?_)
  refine lv_istore (lv' := [(4, .int (gCome mo d i)), (0, .ref (zl E 32)), (1, .int d), (2, .int i), (3, .int k)]) hx hb dX3_laying_6 hl (by decide) rfl (fun ls hl => ?_)
  refine lv_iload hx hb dX3_laying_8 (lv_at hl 0 rfl) ?_
  refine lv_if_le (tgt := 18) hx hb dX3_laying_10 (by decide) (fun q_1 => ?_) (fun q_1 => ?_)
  · have _ := hx
    refine lv_iload_n hx hb dX3_laying_18 rfl (lv_at hl 4 rfl) ?_
    refine lv_aload_n hx hb dX3_laying_19 rfl (lv_at hl 1 rfl) ?_
    refine z_get (i := 32) hx hb hts hin3 hown hw (by decide) zG_32 rfl 4 (by decide) (hts (.fieldLink RX3 19 "SeedDrawersModel" "kindOf" "[I") (by decide +kernel)) rfl rfl dX3_laying_20 ?_
    refine lv_aload_n hx hb dX3_laying_23 rfl (lv_at hl 1 rfl) ?_
    refine z_get (i := 32) hx hb hts hin3 hown hw (by decide) zG_32 rfl 2 (by decide) (hts (.fieldLink RX3 16 "SeedDrawersModel" "rowOf" "[I") (by decide +kernel)) rfl rfl dX3_laying_24 ?_
    refine lv_iload_n hx hb dX3_laying_27 rfl (lv_at hl 2 rfl) ?_
    refine y_iald (i := 35) hx hb hw (by decide) (zG_9 (i := 35) (by decide)) (by assumption) (k := d.toNatClampNeg) rfl dX3_laying_28 ?_
    refine y_iald (i := 36) hx hb hw (by decide) (zG_9 (i := 36) (by decide)) (wfM_r hwm (by assumption)) (k := (mo.1 35 d.toNatClampNeg).toNatClampNeg) rfl dX3_laying_29 ?_
    refine z_calli (rest := []) (va_runS (As := [.int k, .int (mo.1 36 ((mo.1 35 d.toNatClampNeg).toNatClampNeg))]) (rest := []) ⟨hx, hb, hml, hown, hts⟩ (k_X3_fits l E c mo k (mo.1 36 ((mo.1 35 d.toNatClampNeg).toNatClampNeg)) ) (va_cwS 2 hts gX3_laying_X3_fits rfl rfl rfl (by decide +kernel) ⟨Nat.le_of_ble_eq_true rfl, Nat.le_of_ble_eq_true rfl⟩) (z_preS hw [.int k, .int (mo.1 36 ((mo.1 35 d.toNatClampNeg).toNatClampNeg))]) rfl rfl hl.1 rfl (lv_room (Nat.le_of_ble_eq_true rfl)) dX3_laying_30 ⟨Nat.le_of_ble_eq_true rfl, Nat.le_of_ble_eq_true rfl⟩) hw (fun H locs hw => ?_)
    refine lv_if_eq (tgt := 40) hx hb dX3_laying_33 (by decide) (fun q_2 => ?_) (fun q_2 => ?_)
    · have _ := hx
      refine lv_iconst (v := 4) hx hb dX3_laying_40 (by decide) ?_
      exact z_iret hx hb hr hlocks hw dX3_laying_41 (by first | (simp [gLay, q_1, q_2]; done) | (simp_all [gLay]; done)) rfl rfl
    · have _ := hx
      refine lv_iconst (v := 0) hx hb dX3_laying_36 (by decide) ?_
      refine lv_goto (tgt := 41) hx hb dX3_laying_37 (by decide) ?_
      exact z_iret hx hb hr hlocks hw dX3_laying_41 (by first | (simp [gLay, q_1, q_2]; done) | (simp_all [gLay]; done)) rfl rfl
  · have _ := hx
    refine lv_iload hx hb dX3_laying_13 (lv_at hl 0 rfl) ?_
    refine lv_goto (tgt := 41) hx hb dX3_laying_15 (by decide) ?_
    exact z_iret hx hb hr hlocks hw dX3_laying_41 (by first | (simp [gLay, q_1]; done) | (simp_all [gLay]; done)) rfl rfl
set_option maxHeartbeats 4000000 in
set_option maxRecDepth 100000 in
theorem k_X3_kindAt (l : Launch) (E : zE) (c : zC) (mo : zM) (d : Int32) (i : Int32) (hd : vp_in d 8) (hi : vp_in i 12) (hwm : wfM mo) : Met l yX3_kindAt wsX3_kindAt (zR 2 44) (zP E c mo [.ref (zl E 32), .int d, .int i]) (cQi E (gKind mo d i) c mo) 0 0 (zA E) := by
  refine z_ent (cc := cX3_kindAt) (maxL := 3) (ret := (some .int)) (vs := [.ref (zl E 32), .int d, .int i]) (by decide) rfl (Nat.le_of_ble_eq_true rfl) ?_
  intro p e s m below meth cd ls hx hb hr hml hown hts hlocks hl hw
  have hl : lv_has ls 3 [(0, .ref (zl E 32)), (1, .int d), (2, .int i)] := hl
  have hown : s.vm.findClass RX3 = some m.cls := hown
  have hin3 : ∀ w ∈ u_ws RX3 TX3 18, w ∈ wsX3_kindAt := by decide +kernel
  refine lv_aload_n hx hb dX3_kindAt_0 rfl (lv_at hl 0 rfl) ?_
  refine lv_iload_n hx hb dX3_kindAt_1 rfl (lv_at hl 1 rfl) ?_
  refine lv_iload_n hx hb dX3_kindAt_2 rfl (lv_at hl 2 rfl) ?_
  refine z_calli (rest := []) (va_runV (As := [.int d, .int i]) (rest := []) ⟨hx, hb, hml, hown, hts⟩ (k_X3_isEmpty l E c mo d i (by assumption) (by assumption) (by assumption)) (cwV 2 hts gX3_kindAt_X3_isEmpty rfl rfl rfl (by decide +kernel) ⟨Nat.le_of_ble_eq_true rfl, Nat.le_of_ble_eq_true rfl⟩) (z_preV hw (by decide) zG_32 rfl [.int d, .int i]) rfl rfl hl.1 rfl (lv_room (Nat.le_of_ble_eq_true rfl)) dX3_kindAt_3 ⟨Nat.le_of_ble_eq_true rfl, Nat.le_of_ble_eq_true rfl⟩) hw (fun H locs hw => ?_)
  refine lv_if_eq (tgt := 13) hx hb dX3_kindAt_6 (by decide) (fun q_1 => ?_) (fun q_1 => ?_)
  · have _ := hx
    refine lv_aload_n hx hb dX3_kindAt_13 rfl (lv_at hl 0 rfl) ?_
    refine z_get (i := 32) hx hb hts hin3 hown hw (by decide) zG_32 rfl 4 (by decide) (hts (.fieldLink RX3 19 "SeedDrawersModel" "kindOf" "[I") (by decide +kernel)) rfl rfl dX3_kindAt_14 ?_
    refine lv_aload_n hx hb dX3_kindAt_17 rfl (lv_at hl 0 rfl) ?_
    refine z_get (i := 32) hx hb hts hin3 hown hw (by decide) zG_32 rfl 2 (by decide) (hts (.fieldLink RX3 16 "SeedDrawersModel" "rowOf" "[I") (by decide +kernel)) rfl rfl dX3_kindAt_18 ?_
    refine lv_iload_n hx hb dX3_kindAt_21 rfl (lv_at hl 1 rfl) ?_
    refine y_iald (i := 35) hx hb hw (by decide) (zG_9 (i := 35) (by decide)) (by assumption) (k := d.toNatClampNeg) rfl dX3_kindAt_22 ?_
    refine y_iald (i := 36) hx hb hw (by decide) (zG_9 (i := 36) (by decide)) (wfM_r hwm (by assumption)) (k := (mo.1 35 d.toNatClampNeg).toNatClampNeg) rfl dX3_kindAt_23 ?_
    exact z_iret hx hb hr hlocks hw dX3_kindAt_24 (by first | (simp [gKind, q_1]; done) | (simp_all [gKind]; done)) rfl rfl
  · have _ := hx
    refine lv_iconst (v := (-1)) hx hb dX3_kindAt_9 (by decide) ?_
    refine lv_goto (tgt := 24) hx hb dX3_kindAt_10 (by decide) ?_
    exact z_iret hx hb hr hlocks hw dX3_kindAt_24 (by first | (simp [gKind, q_1]; done) | (simp_all [gKind]; done)) rfl rfl
set_option maxHeartbeats 4000000 in
set_option maxRecDepth 100000 in
theorem k_X3_hand (l : Launch) (E : zE) (c : zC) (mo : zM)   : Met l yX3_hand wsX3_hand (zR 0 0) (zP E c mo [.ref (zl E 32)]) (cQi E (gHand mo) c mo) 0 0 (zA E) := by
  refine z_ent (cc := cX3_hand) (maxL := 1) (ret := (some .int)) (vs := [.ref (zl E 32)]) (by decide) rfl (Nat.le_of_ble_eq_true rfl) ?_
  intro p e s m below meth cd ls hx hb hr hml hown hts hlocks hl hw
  have hl : lv_has ls 1 [(0, .ref (zl E 32))] := hl
  have hown : s.vm.findClass RX3 = some m.cls := hown
  have hin3 : ∀ w ∈ u_ws RX3 TX3 18, w ∈ wsX3_hand := by decide +kernel
  refine lv_aload_n hx hb dX3_hand_0 rfl (lv_at hl 0 rfl) ?_
  refine z_get (i := 32) hx hb hts hin3 hown hw (by decide) zG_32 rfl 7 (by decide) (hts (.fieldLink RX3 66 "SeedDrawersModel" "holds" "Z") (by decide +kernel)) rfl rfl dX3_hand_1 ?_
  refine lv_if_eq (tgt := 14) hx hb dX3_hand_4 (by decide) (fun q_1 => ?_) (fun q_1 => ?_)
  · have _ := hx
    refine lv_bipush (v := (-9)) hx hb dX3_hand_14 (by decide) ?_
    exact z_iret hx hb hr hlocks hw dX3_hand_16 (by first | (simp [gHand, q_1]; done) | (simp_all [gHand]; done)) rfl rfl
  · have _ := hx
    refine lv_aload_n hx hb dX3_hand_7 rfl (lv_at hl 0 rfl) ?_
    refine z_get (i := 32) hx hb hts hin3 hown hw (by decide) zG_32 rfl 8 (by decide) (hts (.fieldLink RX3 70 "SeedDrawersModel" "handKind" "I") (by decide +kernel)) rfl rfl dX3_hand_8 ?_
    refine lv_goto (tgt := 16) hx hb dX3_hand_11 (by decide) ?_
    exact z_iret hx hb hr hlocks hw dX3_hand_16 (by first | (simp [gHand, q_1]; done) | (simp_all [gHand]; done)) rfl rfl
set_option maxHeartbeats 4000000 in
set_option maxRecDepth 100000 in
theorem k_X3_drop (l : Launch) (E : zE) (c : zC) (mo : zM)   : Met l yX3_drop wsX3_drop (zR 1 20) (zP E c mo [.ref (zl E 32)]) (cQi E (gHand mo) c (tI mo 32 7 0)) 0 0 (zA E) := by
  refine z_ent (cc := cX3_drop) (maxL := 2) (ret := (some .int)) (vs := [.ref (zl E 32)]) (by decide) rfl (Nat.le_of_ble_eq_true rfl) ?_
  intro p e s m below meth cd ls hx hb hr hml hown hts hlocks hl hw
  have hl : lv_has ls 2 [(0, .ref (zl E 32))] := hl
  have hown : s.vm.findClass RX3 = some m.cls := hown
  have hin3 : ∀ w ∈ u_ws RX3 TX3 18, w ∈ wsX3_drop := by decide +kernel
  refine lv_aload_n hx hb dX3_drop_0 rfl (lv_at hl 0 rfl) ?_
  refine z_calli (rest := []) (va_runV (As := []) (rest := []) ⟨hx, hb, hml, hown, hts⟩ (k_X3_hand l E c mo  ) (cwV 0 hts gX3_drop_X3_hand rfl rfl rfl (by decide +kernel) ⟨Nat.le_of_ble_eq_true rfl, Nat.le_of_ble_eq_true rfl⟩) (z_preV hw (by decide) zG_32 rfl []) rfl rfl hl.1 rfl (lv_room (Nat.le_of_ble_eq_true rfl)) dX3_drop_1 ⟨Nat.le_of_ble_eq_true rfl, Nat.le_of_ble_eq_true rfl⟩) hw (fun H locs hw => ?_)
  refine lv_istore_n (lv' := [(1, .int (gHand mo)), (0, .ref (zl E 32))]) hx hb dX3_drop_4 rfl hl (by decide) rfl (fun ls hl => ?_)
  refine lv_aload_n hx hb dX3_drop_5 rfl (lv_at hl 1 rfl) ?_
  refine lv_iconst (v := 0) hx hb dX3_drop_6 (by decide) ?_
  refine z_put (i := 32) (ty := .boolean) hx hb hts hin3 tyX3 tyX3_ok nmX3 hown hw (by decide) zG_32 rfl 7 (by decide) (hts (.fieldLink RX3 66 "SeedDrawersModel" "holds" "Z") (by decide +kernel)) rfl rfl (by decide +kernel) rfl rfl (Nat.le_of_ble_eq_true rfl) (zU32_7 E c mo 0) dX3_drop_7 (fun H locs hw => ?_)
  refine lv_iload_n hx hb dX3_drop_10 rfl (lv_at hl 0 rfl) ?_
  exact z_iret hx hb hr hlocks hw dX3_drop_11 (by rfl) rfl (by rfl)
set_option maxHeartbeats 4000000 in
set_option maxRecDepth 100000 in
theorem k_X3_value (l : Launch) (E : zE) (c : zC) (mo : zM)   : Met l yX3_value wsX3_value (zR 0 0) (zP E c mo [.ref (zl E 32)]) (cQl E (hValue mo) c mo) 0 0 (zA E) := by
  refine z_ent (cc := cX3_value) (maxL := 1) (ret := (some .long)) (vs := [.ref (zl E 32)]) (by decide) rfl (Nat.le_of_ble_eq_true rfl) ?_
  intro p e s m below meth cd ls hx hb hr hml hown hts hlocks hl hw
  have hl : lv_has ls 1 [(0, .ref (zl E 32))] := hl
  have hown : s.vm.findClass RX3 = some m.cls := hown
  have hin3 : ∀ w ∈ u_ws RX3 TX3 18, w ∈ wsX3_value := by decide +kernel
  refine lv_aload_n hx hb dX3_value_0 rfl (lv_at hl 0 rfl) ?_
  refine z_get (i := 32) hx hb hts hin3 hown hw (by decide) zG_32 rfl 7 (by decide) (hts (.fieldLink RX3 66 "SeedDrawersModel" "holds" "Z") (by decide +kernel)) rfl rfl dX3_value_1 ?_
  refine lv_if_eq (tgt := 14) hx hb dX3_value_4 (by decide) (fun q_1 => ?_) (fun q_1 => ?_)
  · have _ := hx
    refine lv_lconst (v := 0) hx hb dX3_value_14 (by decide) ?_
    exact z_lret hx hb hr hlocks hw dX3_value_15 (by first | (simp [hValue, q_1]; done) | (simp_all [hValue]; done)) rfl rfl
  · have _ := hx
    refine lv_aload_n hx hb dX3_value_7 rfl (lv_at hl 0 rfl) ?_
    refine z_get (i := 32) hx hb hts hin3 hown hw (by decide) zG_32 rfl 9 (by decide) (hts (.fieldLink RX3 73 "SeedDrawersModel" "handValue" "J") (by decide +kernel)) rfl rfl dX3_value_8 ?_
    refine lv_goto (tgt := 15) hx hb dX3_value_11 (by decide) ?_
    exact z_lret hx hb hr hlocks hw dX3_value_15 (by first | (simp [hValue, q_1]; done) | (simp_all [hValue]; done)) rfl rfl
set_option maxHeartbeats 4000000 in
set_option maxRecDepth 100000 in
theorem k_X3_fault (l : Launch) (E : zE) (c : zC) (mo : zM)   : Met l yX3_fault wsX3_fault (zR 0 0) (zP E c mo [.ref (zl E 32)]) (cQi E (mo.1 32 11) c mo) 0 0 (zA E) := by
  refine z_ent (cc := cX3_fault) (maxL := 1) (ret := (some .int)) (vs := [.ref (zl E 32)]) (by decide) rfl (Nat.le_of_ble_eq_true rfl) ?_
  intro p e s m below meth cd ls hx hb hr hml hown hts hlocks hl hw
  have hl : lv_has ls 1 [(0, .ref (zl E 32))] := hl
  have hown : s.vm.findClass RX3 = some m.cls := hown
  have hin3 : ∀ w ∈ u_ws RX3 TX3 18, w ∈ wsX3_fault := by decide +kernel
  refine lv_aload_n hx hb dX3_fault_0 rfl (lv_at hl 0 rfl) ?_
  refine z_get (i := 32) hx hb hts hin3 hown hw (by decide) zG_32 rfl 11 (by decide) (hts (.fieldLink RX3 45 "SeedDrawersModel" "fault" "I") (by decide +kernel)) rfl rfl dX3_fault_1 ?_
  exact z_iret hx hb hr hlocks hw dX3_fault_4 (by rfl) rfl rfl
set_option maxHeartbeats 4000000 in
set_option maxRecDepth 100000 in
theorem k_X3_taking (l : Launch) (E : zE) (c : zC) (mo : zM) (d : Int32) (i : Int32) (hd : vp_in d 8) (hwm : wfM mo) : Met l yX3_taking wsX3_taking (zR 2 48) (zP E c mo [.ref (zl E 32), .int d, .int i]) (cQi E (gCome mo d i) c (gTak mo d i)) 0 0 (zA E) := by
  refine z_ent (cc := cX3_taking) (maxL := 4) (ret := (some .int)) (vs := [.ref (zl E 32), .int d, .int i]) (by decide) rfl (Nat.le_of_ble_eq_true rfl) ?_
  intro p e s m below meth cd ls hx hb hr hml hown hts hlocks hl hw
  have hl : lv_has ls 4 [(0, .ref (zl E 32)), (1, .int d), (2, .int i)] := hl
  have hown : s.vm.findClass RX3 = some m.cls := hown
  have hin3 : ∀ w ∈ u_ws RX3 TX3 18, w ∈ wsX3_taking := by decide +kernel
  refine lv_aload_n hx hb dX3_taking_0 rfl (lv_at hl 0 rfl) ?_
  refine lv_iload_n hx hb dX3_taking_1 rfl (lv_at hl 1 rfl) ?_
  refine lv_iload_n hx hb dX3_taking_2 rfl (lv_at hl 2 rfl) ?_
  refine z_calli (rest := []) (va_runV (As := [.int d, .int i]) (rest := []) ⟨hx, hb, hml, hown, hts⟩ (k_X3_come l E c mo d i (by assumption) (by assumption)) (cwV 2 hts gX3_taking_X3_come rfl rfl rfl (by decide +kernel) ⟨Nat.le_of_ble_eq_true rfl, Nat.le_of_ble_eq_true rfl⟩) (z_preV hw (by decide) zG_32 rfl [.int d, .int i]) rfl rfl hl.1 rfl (lv_room (Nat.le_of_ble_eq_true rfl)) dX3_taking_3 ⟨Nat.le_of_ble_eq_true rfl, Nat.le_of_ble_eq_true rfl⟩) hw (fun H locs hw => ?_)
  refine lv_istore_n (lv' := [(3, .int (gCome mo d i)), (0, .ref (zl E 32)), (1, .int d), (2, .int i)]) hx hb dX3_taking_6 rfl hl (by decide) rfl (fun ls hl => ?_)
  refine lv_iload_n hx hb dX3_taking_7 rfl (lv_at hl 0 rfl) ?_
  refine lv_if_ne (tgt := 59) hx hb dX3_taking_8 (by decide) (fun q_1 => ?_) (fun q_1 => ?_)
  · have _ := hx
    refine lv_iload_n hx hb dX3_taking_59 rfl (lv_at hl 0 rfl) ?_
    exact z_iret hx hb hr hlocks hw dX3_taking_60 (by rfl) rfl (by simp [gTak, q_1, gAt, tI_r, tI_2])
  · have _ := hx
    refine lv_aload_n hx hb dX3_taking_11 rfl (lv_at hl 1 rfl) ?_
    refine lv_aload_n hx hb dX3_taking_12 rfl (lv_at hl 1 rfl) ?_
    refine lv_iload_n hx hb dX3_taking_13 rfl (lv_at hl 2 rfl) ?_
    refine lv_iload_n hx hb dX3_taking_14 rfl (lv_at hl 3 rfl) ?_
    refine z_calli (rest := [.ref (zl E 32)]) (va_runV (As := [.int d, .int i]) (rest := [.ref (zl E 32)]) ⟨hx, hb, hml, hown, hts⟩ (k_X3_isEmpty l E c mo d i hd (gCome_in (le0 (by assumption)) hwm hd) hwm) (cwV 2 hts gX3_taking_X3_isEmpty rfl rfl rfl (by decide +kernel) ⟨Nat.le_of_ble_eq_true rfl, Nat.le_of_ble_eq_true rfl⟩) (z_preV hw (by decide) zG_32 rfl [.int d, .int i]) rfl rfl hl.1 rfl (lv_room (Nat.le_of_ble_eq_true rfl)) dX3_taking_15 ⟨Nat.le_of_ble_eq_true rfl, Nat.le_of_ble_eq_true rfl⟩) hw (fun H locs hw => ?_)
    refine lv_if_ne (tgt := 25) hx hb dX3_taking_18 (by decide) (fun q_2 => ?_) (fun q_2 => ?_)
    · have _ := hx
      refine lv_iconst (v := 0) hx hb dX3_taking_25 (by decide) ?_
      refine z_put (i := 32) (ty := .boolean) hx hb hts hin3 tyX3 tyX3_ok nmX3 hown hw (by decide) zG_32 rfl 7 (by decide) (hts (.fieldLink RX3 66 "SeedDrawersModel" "holds" "Z") (by decide +kernel)) rfl rfl (by decide +kernel) rfl rfl (Nat.le_of_ble_eq_true rfl) (zU32_7 E c mo 0) dX3_taking_26 (fun H locs hw => ?_)
      refine lv_aload_n hx hb dX3_taking_29 rfl (lv_at hl 1 rfl) ?_
      refine lv_aload_n hx hb dX3_taking_30 rfl (lv_at hl 1 rfl) ?_
      refine z_get (i := 32) hx hb hts hin3 hown hw (by decide) zG_32 rfl 4 (by decide) (hts (.fieldLink RX3 19 "SeedDrawersModel" "kindOf" "[I") (by decide +kernel)) rfl rfl dX3_taking_31 ?_
      refine lv_aload_n hx hb dX3_taking_34 rfl (lv_at hl 1 rfl) ?_
      refine z_get (i := 32) hx hb hts hin3 hown hw (by decide) zG_32 rfl 2 (by decide) (hts (.fieldLink RX3 16 "SeedDrawersModel" "rowOf" "[I") (by decide +kernel)) rfl rfl dX3_taking_35 ?_
      refine lv_iload_n hx hb dX3_taking_38 rfl (lv_at hl 2 rfl) ?_
      refine y_iald (i := 35) hx hb hw (by decide) (zG_9 (i := 35) (by decide)) hd (k := d.toNatClampNeg) rfl dX3_taking_39 ?_
      refine y_iald (i := 36) hx hb hw (by decide) (zG_9 (i := 36) (by decide)) (show vp_in (mo.1 35 d.toNatClampNeg) 5000 from wfM_r hwm hd) (k := ((tI mo 32 7 0).1 35 d.toNatClampNeg).toNatClampNeg) rfl dX3_taking_40 ?_
      refine z_put (i := 32) (ty := .int) hx hb hts hin3 tyX3 tyX3_ok nmX3 hown hw (by decide) zG_32 rfl 8 (by decide) (hts (.fieldLink RX3 70 "SeedDrawersModel" "handKind" "I") (by decide +kernel)) rfl rfl (by decide +kernel) rfl rfl (Nat.le_of_ble_eq_true rfl) (zU32_8 E c (tI mo 32 7 0) ((tI mo 32 7 0).1 36 (((tI mo 32 7 0).1 35 d.toNatClampNeg).toNatClampNeg))) dX3_taking_41 (fun H locs hw => ?_)
      refine lv_aload_n hx hb dX3_taking_44 rfl (lv_at hl 1 rfl) ?_
      refine lv_aload_n hx hb dX3_taking_45 rfl (lv_at hl 1 rfl) ?_
      refine z_get (i := 32) hx hb hts hin3 hown hw (by decide) zG_32 rfl 6 (by decide) (hts (.fieldLink RX3 26 "SeedDrawersModel" "place" "[J") (by decide +kernel)) rfl rfl dX3_taking_46 ?_
      refine lv_aload_n hx hb dX3_taking_49 rfl (lv_at hl 1 rfl) ?_
      refine lv_iload_n hx hb dX3_taking_50 rfl (lv_at hl 2 rfl) ?_
      refine lv_iload_n hx hb dX3_taking_51 rfl (lv_at hl 3 rfl) ?_
      refine z_calli (rest := [.ref (zl E 38), .ref (zl E 32)]) (va_runV (As := [.int d, .int i]) (rest := [.ref (zl E 38), .ref (zl E 32)]) ⟨hx, hb, hml, hown, hts⟩ (k_X3_at l E c (tI (tI mo 32 7 0) 32 8 ((tI mo 32 7 0).1 36 (((tI mo 32 7 0).1 35 d.toNatClampNeg).toNatClampNeg))) d i (by assumption)) (cwV 2 hts gX3_taking_X3_at rfl rfl rfl (by decide +kernel) ⟨Nat.le_of_ble_eq_true rfl, Nat.le_of_ble_eq_true rfl⟩) (z_preV hw (by decide) zG_32 rfl [.int d, .int i]) rfl rfl hl.1 rfl (lv_room (Nat.le_of_ble_eq_true rfl)) dX3_taking_52 ⟨Nat.le_of_ble_eq_true rfl, Nat.le_of_ble_eq_true rfl⟩) hw (fun H locs hw => ?_)
      refine y_lald (i := 38) hx hb hw (by decide) zG_38 (gAt_in (show vp_in (mo.1 35 d.toNatClampNeg) 5000 from wfM_r hwm hd) (gCome_in (le0 (by assumption)) hwm hd)) (k := (gAt (tI (tI mo 32 7 0) 32 8 ((tI mo 32 7 0).1 36 (((tI mo 32 7 0).1 35 d.toNatClampNeg).toNatClampNeg))) d i).toNatClampNeg) rfl dX3_taking_55 ?_
      refine z_put (i := 32) (ty := .long) hx hb hts hin3 tyX3 tyX3_ok nmX3 hown hw (by decide) zG_32 rfl 9 (by decide) (hts (.fieldLink RX3 73 "SeedDrawersModel" "handValue" "J") (by decide +kernel)) rfl rfl (by decide +kernel) rfl rfl (Nat.le_of_ble_eq_true rfl) (zU32_9 E c (tI (tI mo 32 7 0) 32 8 ((tI mo 32 7 0).1 36 (((tI mo 32 7 0).1 35 d.toNatClampNeg).toNatClampNeg))) ((tI (tI mo 32 7 0) 32 8 ((tI mo 32 7 0).1 36 (((tI mo 32 7 0).1 35 d.toNatClampNeg).toNatClampNeg))).2 38 ((gAt (tI (tI mo 32 7 0) 32 8 ((tI mo 32 7 0).1 36 (((tI mo 32 7 0).1 35 d.toNatClampNeg).toNatClampNeg))) d i).toNatClampNeg))) dX3_taking_56 (fun H locs hw => ?_)
      refine lv_iload_n hx hb dX3_taking_59 rfl (lv_at hl 0 rfl) ?_
      exact z_iret hx hb hr hlocks hw dX3_taking_60 (by rfl) rfl (by simp [gTak, q_1, q_2, gAt, tI_r, tI_2])
    · have _ := hx
      refine lv_iconst (v := 1) hx hb dX3_taking_21 (by decide) ?_
      refine lv_goto (tgt := 26) hx hb dX3_taking_22 (by decide) ?_
      refine z_put (i := 32) (ty := .boolean) hx hb hts hin3 tyX3 tyX3_ok nmX3 hown hw (by decide) zG_32 rfl 7 (by decide) (hts (.fieldLink RX3 66 "SeedDrawersModel" "holds" "Z") (by decide +kernel)) rfl rfl (by decide +kernel) rfl rfl (Nat.le_of_ble_eq_true rfl) (zU32_7 E c mo 1) dX3_taking_26 (fun H locs hw => ?_)
      refine lv_aload_n hx hb dX3_taking_29 rfl (lv_at hl 1 rfl) ?_
      refine lv_aload_n hx hb dX3_taking_30 rfl (lv_at hl 1 rfl) ?_
      refine z_get (i := 32) hx hb hts hin3 hown hw (by decide) zG_32 rfl 4 (by decide) (hts (.fieldLink RX3 19 "SeedDrawersModel" "kindOf" "[I") (by decide +kernel)) rfl rfl dX3_taking_31 ?_
      refine lv_aload_n hx hb dX3_taking_34 rfl (lv_at hl 1 rfl) ?_
      refine z_get (i := 32) hx hb hts hin3 hown hw (by decide) zG_32 rfl 2 (by decide) (hts (.fieldLink RX3 16 "SeedDrawersModel" "rowOf" "[I") (by decide +kernel)) rfl rfl dX3_taking_35 ?_
      refine lv_iload_n hx hb dX3_taking_38 rfl (lv_at hl 2 rfl) ?_
      refine y_iald (i := 35) hx hb hw (by decide) (zG_9 (i := 35) (by decide)) hd (k := d.toNatClampNeg) rfl dX3_taking_39 ?_
      refine y_iald (i := 36) hx hb hw (by decide) (zG_9 (i := 36) (by decide)) (show vp_in (mo.1 35 d.toNatClampNeg) 5000 from wfM_r hwm hd) (k := ((tI mo 32 7 1).1 35 d.toNatClampNeg).toNatClampNeg) rfl dX3_taking_40 ?_
      refine z_put (i := 32) (ty := .int) hx hb hts hin3 tyX3 tyX3_ok nmX3 hown hw (by decide) zG_32 rfl 8 (by decide) (hts (.fieldLink RX3 70 "SeedDrawersModel" "handKind" "I") (by decide +kernel)) rfl rfl (by decide +kernel) rfl rfl (Nat.le_of_ble_eq_true rfl) (zU32_8 E c (tI mo 32 7 1) ((tI mo 32 7 1).1 36 (((tI mo 32 7 1).1 35 d.toNatClampNeg).toNatClampNeg))) dX3_taking_41 (fun H locs hw => ?_)
      refine lv_aload_n hx hb dX3_taking_44 rfl (lv_at hl 1 rfl) ?_
      refine lv_aload_n hx hb dX3_taking_45 rfl (lv_at hl 1 rfl) ?_
      refine z_get (i := 32) hx hb hts hin3 hown hw (by decide) zG_32 rfl 6 (by decide) (hts (.fieldLink RX3 26 "SeedDrawersModel" "place" "[J") (by decide +kernel)) rfl rfl dX3_taking_46 ?_
      refine lv_aload_n hx hb dX3_taking_49 rfl (lv_at hl 1 rfl) ?_
      refine lv_iload_n hx hb dX3_taking_50 rfl (lv_at hl 2 rfl) ?_
      refine lv_iload_n hx hb dX3_taking_51 rfl (lv_at hl 3 rfl) ?_
      refine z_calli (rest := [.ref (zl E 38), .ref (zl E 32)]) (va_runV (As := [.int d, .int i]) (rest := [.ref (zl E 38), .ref (zl E 32)]) ⟨hx, hb, hml, hown, hts⟩ (k_X3_at l E c (tI (tI mo 32 7 1) 32 8 ((tI mo 32 7 1).1 36 (((tI mo 32 7 1).1 35 d.toNatClampNeg).toNatClampNeg))) d i (by assumption)) (cwV 2 hts gX3_taking_X3_at rfl rfl rfl (by decide +kernel) ⟨Nat.le_of_ble_eq_true rfl, Nat.le_of_ble_eq_true rfl⟩) (z_preV hw (by decide) zG_32 rfl [.int d, .int i]) rfl rfl hl.1 rfl (lv_room (Nat.le_of_ble_eq_true rfl)) dX3_taking_52 ⟨Nat.le_of_ble_eq_true rfl, Nat.le_of_ble_eq_true rfl⟩) hw (fun H locs hw => ?_)
      refine y_lald (i := 38) hx hb hw (by decide) zG_38 (gAt_in (show vp_in (mo.1 35 d.toNatClampNeg) 5000 from wfM_r hwm hd) (gCome_in (le0 (by assumption)) hwm hd)) (k := (gAt (tI (tI mo 32 7 1) 32 8 ((tI mo 32 7 1).1 36 (((tI mo 32 7 1).1 35 d.toNatClampNeg).toNatClampNeg))) d i).toNatClampNeg) rfl dX3_taking_55 ?_
      refine z_put (i := 32) (ty := .long) hx hb hts hin3 tyX3 tyX3_ok nmX3 hown hw (by decide) zG_32 rfl 9 (by decide) (hts (.fieldLink RX3 73 "SeedDrawersModel" "handValue" "J") (by decide +kernel)) rfl rfl (by decide +kernel) rfl rfl (Nat.le_of_ble_eq_true rfl) (zU32_9 E c (tI (tI mo 32 7 1) 32 8 ((tI mo 32 7 1).1 36 (((tI mo 32 7 1).1 35 d.toNatClampNeg).toNatClampNeg))) ((tI (tI mo 32 7 1) 32 8 ((tI mo 32 7 1).1 36 (((tI mo 32 7 1).1 35 d.toNatClampNeg).toNatClampNeg))).2 38 ((gAt (tI (tI mo 32 7 1) 32 8 ((tI mo 32 7 1).1 36 (((tI mo 32 7 1).1 35 d.toNatClampNeg).toNatClampNeg))) d i).toNatClampNeg))) dX3_taking_56 (fun H locs hw => ?_)
      refine lv_iload_n hx hb dX3_taking_59 rfl (lv_at hl 0 rfl) ?_
      exact z_iret hx hb hr hlocks hw dX3_taking_60 (by rfl) rfl (by simp [gTak, q_1, q_2, gAt, tI_r, tI_2])
end
section
def Sm (m m' : zM) : Prop := (∀ a, ¬ a = 32 → ¬ a = 39 → ¬ a = 41 → m'.1 a = m.1 a) ∧ m'.1 32 3 = m.1 32 3 ∧ m'.1 32 10 = m.1 32 10 ∧ m'.1 32 13 = m.1 32 13 ∧ m'.1 32 15 = m.1 32 15
theorem Sm.rf (m : zM) : Sm m m := ⟨fun _ _ _ _ => rfl, rfl, rfl, rfl, rfl⟩
theorem Sm.tr {a b c : zM} (h : Sm a b) (g : Sm b c) : Sm a c := ⟨fun x h1 h2 h3 => (g.1 x h1 h2 h3).trans (h.1 x h1 h2 h3), g.2.1.trans h.2.1, g.2.2.1.trans h.2.2.1, g.2.2.2.1.trans h.2.2.2.1, g.2.2.2.2.trans h.2.2.2.2⟩
theorem Sm.j (m : zM) (i k : Nat) (v : Int64) : Sm m (tJ m i k v) := Sm.rf m
theorem Sm.i32 (m : zM) (k : Nat) (v : Int32) (h : k = 7 ∨ k = 8 ∨ k = 11 ∨ k = 17) : Sm m (tI m 32 k v) := by
  refine ⟨fun a h1 _ _ => tI_r h1, ?_, ?_, ?_, ?_⟩ <;> rcases h with rfl | rfl | rfl | rfl <;> exact tI_n (by decide)
theorem Sm.i39 (m : zM) (k : Nat) (v : Int32) : Sm m (tI m 39 k v) := ⟨fun a _ h2 _ => tI_r h2, by rw [tI_r (by decide)], by rw [tI_r (by decide)], by rw [tI_r (by decide)], by rw [tI_r (by decide)]⟩
theorem Sm.i41 (m : zM) (k : Nat) (v : Int32) : Sm m (tI m 41 k v) := ⟨fun a _ _ h2 => tI_r h2, by rw [tI_r (by decide)], by rw [tI_r (by decide)], by rw [tI_r (by decide)], by rw [tI_r (by decide)]⟩
theorem wfM_sm {m m' : zM} (h : Sm m m') (w : wfM m) : wfM m' := by
  obtain ⟨w1, w2, w3, w4⟩ := w
  refine ⟨fun d hd => by rw [h.1 35 (by decide) (by decide) (by decide)]; exact w1 d hd, fun r hr => by rw [h.1 37 (by decide) (by decide) (by decide)]; exact w2 r hr, ?_, ?_⟩
  · rw [h.2.2.2.1, h.1 40 (by decide) (by decide) (by decide)]; exact w3
  · rw [h.2.2.2.2]; exact w4
theorem Sm_met1 (m : zM) (f : Int32) : Sm m (met1 m f) := (Sm.i32 m 11 f (by simp)).tr ((Sm.i39 _ _ _).tr (Sm.i39 _ _ _))
theorem Sm_tak (m : zM) (d i : Int32) : Sm m (gTak m d i) := by
  unfold gTak
  split
  · exact (Sm.i32 m 7 _ (by simp)).tr ((Sm.i32 _ 8 _ (by simp)).tr (Sm.j _ _ _ _))
  · exact Sm.rf m
theorem Sm_put (m : zM) (d i : Int32) : Sm m (gPut m d i) := by
  unfold gPut
  split
  · exact Sm.j _ _ _ _
  · exact Sm.rf m
def zerM (r : Nat) : Nat → Nat → zM → zM
  | 0, _, m => m
  | n + 1, k, m => zerM r n (k + 1) (tJ m 38 (12 * r + k) 0)
def rowM (m : zM) (d : Nat) (k n : Int32) : zM := zerM (m.1 32 3).toNatClampNeg 12 0 (tI (tI (tI (tI m 33 d 2) 35 d (m.1 32 3)) 36 (m.1 32 3).toNatClampNeg k) 37 (m.1 32 3).toNatClampNeg n)
def hRow (d k n : Int32) : Int32 := if fNo d = 0 then (if fBey k.toInt64 0 6 = 0 then (if fBey n.toInt64 0 12 = 0 then n else -2) else -2) else -1
def tRow (m : zM) (d k n : Int32) : zM := if fNo d = 0 then (if fBey k.toInt64 0 6 = 0 then (if fBey n.toInt64 0 12 = 0 then tI (rowM m d.toNatClampNeg k n) 32 3 (m.1 32 3 + 1) else m) else m) else m
theorem ixm {x : Int32} {r i : Nat} (hx : x = nI r) : 12 * x + nI i = nI (12 * r + i) := by
  rw [hx, show (12 : Int32) = nI 12 from rfl, pk_mul, nI_add]
theorem ixm_in {x : Int32} {r i : Nat} (hx : x = nI r) (hr : r < 5000) (hi : i < 12) : vp_in (12 * x + nI i) 60000 := by
  rw [ixm hx]; exact vp_in_nI (by omega) (by decide)
theorem ixm_k {x : Int32} {r i : Nat} (hx : x = nI r) (hr : r < 5000) (hi : i < 12) : (12 * x + nI i).toNatClampNeg = 12 * r + i := by
  rw [ixm hx]; exact nI_clamp (by omega)
def gPoF (m : zM) (d i t j : Int32) : Int32 := if gCome m d i ≤ 0 then gLay m t j (gKind m d i) else gCome m d i
def psS (m : zM) (d i t j : Int32) : zM := tI (tJ m 38 (gAt m t j).toNatClampNeg (m.2 38 (gAt m d i).toNatClampNeg)) 32 17 (m.1 32 17 + 1)
def psN (d t i j : Int32) : Nat → Nat → zM → Int32 × zM
  | 0, _, m => (0, m)
  | n + 1, k, m => if gPoF m d (i + nI k) t (j + nI k) ≤ 0 then psN d t i j n (k + 1) (psS m d (i + nI k) t (j + nI k)) else (gPoF m d (i + nI k) t (j + nI k), m)
def pPs (m : zM) (d i t j n : Int32) : Int32 × zM := psN d t i j n.toNatClampNeg 0 (tI m 32 17 0)
theorem gPoF_5 (m : zM) (d i t j : Int32) : vp_in (gPoF m d i t j) 5 := by
  unfold gPoF
  split
  · exact gLay_5 m t j (gKind m d i)
  · exact gCome_5 m d i
theorem Sm_psS (m : zM) (d i t j : Int32) : Sm m (psS m d i t j) := (Sm.j m _ _ _).tr (Sm.i32 _ 17 _ (by simp))
theorem psN_5 (d t i j : Int32) : ∀ (n k : Nat) (m : zM), vp_in (psN d t i j n k m).1 5 ∧ Sm m (psN d t i j n k m).2
  | 0, _, m => ⟨show vp_in (0 : Int32) 5 from vp_in_iff.mpr (by decide), Sm.rf m⟩
  | n + 1, k, m => by
    unfold psN
    split
    · have h := psN_5 d t i j n (k + 1) (psS m d (i + nI k) t (j + nI k))
      exact ⟨h.1, (Sm_psS _ _ _ _ _).tr h.2⟩
    · exact ⟨gPoF_5 _ _ _ _ _, Sm.rf m⟩
theorem Sm_pPs (m : zM) (d i t j n : Int32) : Sm m (pPs m d i t j n).2 := (Sm.i32 m 17 0 (by simp)).tr (psN_5 _ _ _ _ _ _ _).2
def qPour (m : zM) (d i t j n : Int32) : Int32 × zM := if fNo d = 0 then (if fNo t = 0 then (if fBey i.toInt64 0 20 = 0 then (if fBey j.toInt64 0 20 = 0 then (if fBey n.toInt64 0 12 = 0 then (if (pPs m d i t j n).1 ≤ 0 then (n, (pPs m d i t j n).2) else ((met1 (pPs m d i t j n).2 (pPs m d i t j n).1).1 32 17 - 100, met1 (pPs m d i t j n).2 (pPs m d i t j n).1)) else (-2, m)) else (-2, m)) else (-2, m)) else (-1, m)) else (-1, m)
def gSw (m : zM) (a i b j : Int32) : Int32 := if gCome m a i ≤ 0 then (if gCome m b j ≤ 0 then (if gLay m a i (gKind m b j) ≤ 0 then gLay m b j (gKind m a i) else gLay m a i (gKind m b j)) else gCome m b j) else gCome m a i
theorem gSw_5 (m : zM) (a i b j : Int32) : vp_in (gSw m a i b j) 5 := by
  unfold gSw
  split
  · split
    · split
      · exact gLay_5 m b j (gKind m a i)
      · exact gLay_5 m a i (gKind m b j)
    · exact gCome_5 m b j
  · exact gCome_5 m a i
def swS (m : zM) (a i b j : Int32) : zM := tJ (tJ m 38 (gAt m a i).toNatClampNeg (m.2 38 (gAt m b j).toNatClampNeg)) 38 (gAt m b j).toNatClampNeg (m.2 38 (gAt m a i).toNatClampNeg)
def gSws (m : zM) (a i b j : Int32) : zM := if gSw m a i b j = 0 then swS m a i b j else m
theorem Sm_sws (m : zM) (a i b j : Int32) : Sm m (gSws m a i b j) := by
  unfold gSws
  split
  · exact (Sm.j m _ _ _).tr (Sm.j _ _ _ _)
  · exact Sm.rf m
def hSwap (m : zM) (a i b j : Int32) : Int32 := if fNo a = 0 then (if fNo b = 0 then rAns (gSw m a i b j) 1 else -1) else -1
def tSwap (m : zM) (a i b j : Int32) : zM := if fNo a = 0 then (if fNo b = 0 then sAns (gSws m a i b j) (gSw m a i b j) else m) else m
def trS (m : zM) (d sz : Int32) (k : Nat) : zM := tJ (tJ m 38 (gAt m d (nI k)).toNatClampNeg (m.2 38 (gAt m d (sz - 1 - nI k)).toNatClampNeg)) 38 (gAt m d (sz - 1 - nI k)).toNatClampNeg (m.2 38 (gAt m d (nI k)).toNatClampNeg)
def trN (d sz : Int32) : Nat → Nat → zM → zM
  | 0, _, m => m
  | n + 1, k, m => trN d sz n (k + 1) (trS m d sz k)
theorem Sm_trN (d sz : Int32) : ∀ (n k : Nat) (m : zM), Sm m (trN d sz n k m)
  | 0, _, m => Sm.rf m
  | n + 1, k, m => by
    unfold trN
    exact ((Sm.j m _ _ _).tr (Sm.j _ _ _ _)).tr (Sm_trN d sz n (k + 1) _)
abbrev gS (m : zM) (d : Int32) : Int32 := m.1 37 (gR m d)
def gTur (m : zM) (d : Int32) : zM := if gRow m d = 0 then trN d (gS m d) ((gS m d).toNatClampNeg / 2) 0 m else m
theorem Sm_tur (m : zM) (d : Int32) : Sm m (gTur m d) := by
  unfold gTur
  split
  · exact Sm_trN _ _ _ _ _
  · exact Sm.rf m
def hTurn (m : zM) (d : Int32) : Int32 := if fNo d = 0 then rAns (gRow m d) (if gRow m d ≤ 0 then (gTur m d).1 37 (gR (gTur m d) d) / 2 else 0) else -1
def tTurn (m : zM) (d : Int32) : zM := if fNo d = 0 then sAns (gTur m d) (gRow m d) else m
def smN (m : zM) (d : Int32) : Nat → Nat → Int64 → Int64
  | 0, _, a => a
  | n + 1, k, a => smN m d n (k + 1) (a + m.2 38 (gAt m d (nI k)).toNatClampNeg)
def hSum (m : zM) (d : Int32) : Int64 := if fNo d = 0 then (if gRow m d ≤ 0 then smN m d (gS m d).toNatClampNeg 0 0 else 0) else 0
def gIs (m : zM) (d : Int32) (k : Nat) : Int32 := if m.1 32 7 = 0 then gEmp m d (nI k) else if m.1 36 (gR m d) = m.1 32 8 then (if lg_cmp (m.2 38 (gAt m d (nI k)).toNatClampNeg) (m.2 32 9) = 0 then 1 else 0) else 0
def fdN (m : zM) (d : Int32) : Nat → Nat → Int32
  | 0, _ => -9
  | n + 1, k => if gIs m d k = 0 then fdN m d n (k + 1) else nI k
def hFind (m : zM) (d : Int32) : Int32 := if fNo d = 0 then (if gRow m d ≤ 0 then fdN m d (gS m d).toNatClampNeg 0 else rAns (gRow m d) 0) else -1
def tFind (m : zM) (d : Int32) : zM := if fNo d = 0 then (if gRow m d ≤ 0 then m else sAns m (gRow m d)) else m
def tSum (m : zM) (d : Int32) : zM := if fNo d = 0 then (if gRow m d ≤ 0 then m else met1 m (gRow m d)) else m
def wrM (m : zM) (n : Nat) (op a i b j : Int32) : zM := tI (tI (tI (tI (tI m 40 (5 * n) op) 40 (5 * n + 1) a) 40 (5 * n + 2) i) 40 (5 * n + 3) b) 40 (5 * n + 4) j
def hOrd (m : zM) (op a i b j : Int32) : Int32 := if fNo a = 0 then (if fNo b = 0 then (if fBey op.toInt64 0 4 = 0 then (if fBey i.toInt64 0 20 = 0 then (if fBey j.toInt64 0 20 = 0 then (if m.1 32 13 = 8 then -3 else m.1 32 13 + 1) else -2) else -2) else -2) else -1) else -1
def tOrd (m : zM) (op a i b j : Int32) : zM := if fNo a = 0 then (if fNo b = 0 then (if fBey op.toInt64 0 4 = 0 then (if fBey i.toInt64 0 20 = 0 then (if fBey j.toInt64 0 20 = 0 then (if m.1 32 13 = 8 then m else tI (wrM m (m.1 32 13).toNatClampNeg op a i b j) 32 13 (m.1 32 13 + 1)) else m) else m) else m) else m) else m
theorem ix5 {x : Int32} {n : Nat} (hx : x = nI n) : 5 * x = nI (5 * n) := by
  rw [hx, show (5 : Int32) = nI 5 from rfl, pk_mul]
theorem ix5a {x : Int32} {n : Nat} (q : Nat) (hx : x = nI n) : 5 * x + nI q = nI (5 * n + q) := by rw [ix5 hx, nI_add]
theorem ix5_in {x y : Int32} {n q : Nat} (hx : x = nI n) (hn : n < 8) (hq : q < 5) (hy : y = nI q) : vp_in (5 * x + y) 40 := by
  rw [hy, ix5a q hx]; exact vp_in_nI (by omega) (by decide)
theorem ix5_k {x y : Int32} {n q : Nat} (hx : x = nI n) (hn : n < 8) (hq : q < 5) (hy : y = nI q) : (5 * x + y).toNatClampNeg = 5 * n + q := by
  rw [hy, ix5a q hx]; exact nI_clamp (by omega)
theorem ix5_in0 {x : Int32} {n : Nat} (hx : x = nI n) (hn : n < 8) : vp_in (5 * x) 40 := by
  rw [ix5 hx]; exact vp_in_nI (by omega) (by decide)
theorem ix5_k0 {x : Int32} {n : Nat} (hx : x = nI n) (hn : n < 8) : (5 * x).toNatClampNeg = 5 * n := by
  rw [ix5 hx]; exact nI_clamp (by omega)
theorem pp_in {x y : Int32} {q : Nat} (hx : vp_in x 36) (hq : q < 5) (hy : y = nI q) : vp_in (x + y) 40 := by
  obtain ⟨k, hk, rfl⟩ := vp_in_of hx (by decide)
  rw [hy, nI_add]; exact vp_in_nI (by omega) (by decide)
theorem pp_k {x y : Int32} {q : Nat} (hx : vp_in x 36) (hq : q < 5) (hy : y = nI q) : (x + y).toNatClampNeg = x.toNatClampNeg + q := by
  obtain ⟨k, hk, rfl⟩ := vp_in_of hx (by decide)
  rw [hy, nI_add, nI_clamp (by omega), nI_clamp (by omega)]
def dP (m : zM) (q : Nat) : Int32 × zM := if m.1 40 q = 0 then (gCome m (m.1 40 (q + 1)) (m.1 40 (q + 2)), gTak m (m.1 40 (q + 1)) (m.1 40 (q + 2))) else if m.1 40 q = 1 then (if m.1 32 7 = 0 then (0, m) else (gLay m (m.1 40 (q + 3)) (m.1 40 (q + 4)) (m.1 32 8), gPut m (m.1 40 (q + 3)) (m.1 40 (q + 4)))) else if m.1 40 q = 2 then (gSw m (m.1 40 (q + 1)) (m.1 40 (q + 2)) (m.1 40 (q + 3)) (m.1 40 (q + 4)), gSws m (m.1 40 (q + 1)) (m.1 40 (q + 2)) (m.1 40 (q + 3)) (m.1 40 (q + 4))) else if m.1 40 q = 3 then (gRow m (m.1 40 (q + 1)), gTur m (m.1 40 (q + 1))) else pPs m (m.1 40 (q + 1)) (m.1 40 (q + 2)) (m.1 40 (q + 3)) (m.1 40 (q + 4)) 3
theorem dP_5 (m : zM) (q : Nat) : vp_in (dP m q).1 5 ∧ Sm m (dP m q).2 := by
  unfold dP
  split
  · exact ⟨gCome_5 _ _ _, Sm_tak _ _ _⟩
  split
  · split
    · exact ⟨show vp_in (0 : Int32) 5 from vp_in_iff.mpr (by decide), Sm.rf m⟩
    · exact ⟨gLay_5 _ _ _ _, Sm_put _ _ _⟩
  split
  · exact ⟨gSw_5 _ _ _ _ _, Sm_sws _ _ _ _ _⟩
  split
  · exact ⟨gRow_5 _ _, Sm_tur _ _⟩
  · exact ⟨(psN_5 _ _ _ _ _ _ _).1, Sm_pPs _ _ _ _ _ _⟩
def rnN : Nat → Nat → Int32 → zM → Int32 × zM
  | 0, _, a, m => (a, m)
  | n + 1, k, a, m => if (dP m (5 * k)).1 ≤ 0 then rnN n (k + 1) (a + 1) (tI (dP m (5 * k)).2 41 k (dP m (5 * k)).1) else rnN n (k + 1) a (met1 (tI (dP m (5 * k)).2 41 k (dP m (5 * k)).1) (dP m (5 * k)).1)
def qRun (m : zM) : Int32 × zM := ((rnN (m.1 32 13).toNatClampNeg 0 0 (tI m 32 15 (m.1 32 13))).1, tI (rnN (m.1 32 13).toNatClampNeg 0 0 (tI m 32 15 (m.1 32 13))).2 32 13 0)
theorem wfM_ord {m : zM} (w : wfM m) {k : Nat} (hk : k < (m.1 32 13).toNatClampNeg) : vp_in (m.1 40 (5 * k + 1)) 8 ∧ vp_in (m.1 40 (5 * k + 3)) 8 ∧ k < 8 := by
  obtain ⟨n, h1, h2, h3⟩ := w.2.2.1
  rw [h2, nI_clamp (by omega)] at hk
  exact ⟨(h3 k hk).1, (h3 k hk).2, by omega⟩
theorem wfM_15 {m : zM} (w : wfM m) : wfM (tI m 32 15 (m.1 32 13)) := by
  obtain ⟨w1, w2, w3, w4⟩ := w
  refine ⟨fun d hd => by rw [tI_r (by decide)]; exact w1 d hd, fun r hr => by rw [tI_r (by decide)]; exact w2 r hr, ?_, ?_⟩
  · rw [tI_n (by decide), tI_r (by decide)]; exact w3
  · rw [tI_s]
    obtain ⟨n, h1, h2, -⟩ := w3
    exact ⟨n, h1, h2⟩
def tlN (m : zM) (d : Int32) : Nat → Nat → Int32 → Int32
  | 0, _, a => a
  | n + 1, k, a => tlN m d n (k + 1) (a + (if m.1 33 d.toNatClampNeg = 2 then (if m.1 33 k = 2 then (if m.1 35 k = m.1 35 d.toNatClampNeg then 1 else 0) else 0) else 0))
def hTold (m : zM) (d w : Int32) : Int32 := if fNo d = 0 then (if w = 0 then (if 2 ≤ m.1 33 d.toNatClampNeg then 2 + m.1 36 (gR m d) else m.1 33 d.toNatClampNeg) else if w = 1 then tlN m d 8 0 0 else if w = 2 then (if m.1 33 d.toNatClampNeg = 1 then m.1 34 d.toNatClampNeg else 0) else -2) else -1
set_option maxHeartbeats 4000000 in
set_option maxRecDepth 100000 in
theorem k_X3_note (l : Launch) (E : zE) (c : zC) (mo : zM) (d : Int32) (v : Int32)  : Met l yX3_note wsX3_note (zR 2 45) (zP E c mo [.ref (zl E 32), .int d, .int v]) (cQi E (hNote d) c (tNote mo d v)) 0 0 (zA E) := by
  refine z_ent (cc := cX3_note) (maxL := 3) (ret := (some .int)) (vs := [.ref (zl E 32), .int d, .int v]) (by decide) rfl (Nat.le_of_ble_eq_true rfl) ?_
  intro p e s m below meth cd ls hx hb hr hml hown hts hlocks hl hw
  have hl : lv_has ls 3 [(0, .ref (zl E 32)), (1, .int d), (2, .int v)] := hl
  have hown : s.vm.findClass RX3 = some m.cls := hown
  have hin3 : ∀ w ∈ u_ws RX3 TX3 18, w ∈ wsX3_note := by decide +kernel
  refine lv_iload_n hx hb dX3_note_0 rfl (lv_at hl 1 rfl) ?_
  refine z_calli (rest := []) (va_runS (As := [.int d]) (rest := []) ⟨hx, hb, hml, hown, hts⟩ (k_X3_no l E c mo d ) (va_cwS 1 hts gX3_note_X3_no rfl rfl rfl (by decide +kernel) ⟨Nat.le_of_ble_eq_true rfl, Nat.le_of_ble_eq_true rfl⟩) (z_preS hw [.int d]) rfl rfl hl.1 rfl (lv_room (Nat.le_of_ble_eq_true rfl)) dX3_note_1 ⟨Nat.le_of_ble_eq_true rfl, Nat.le_of_ble_eq_true rfl⟩) hw (fun H locs hw => ?_)
  refine lv_if_eq (tgt := 9) hx hb dX3_note_4 (by decide) (fun q_1 => ?_) (fun q_1 => ?_)
  · have _ := hx
    refine lv_aload_n hx hb dX3_note_9 rfl (lv_at hl 0 rfl) ?_
    refine z_get (i := 32) hx hb hts hin3 hown hw (by decide) zG_32 rfl 0 (by decide) (hts (.fieldLink RX3 7 "SeedDrawersModel" "has" "[I") (by decide +kernel)) rfl rfl dX3_note_10 ?_
    refine lv_iload_n hx hb dX3_note_13 rfl (lv_at hl 1 rfl) ?_
    refine lv_iconst (v := 1) hx hb dX3_note_14 (by decide) ?_
    refine y_iast9 (i := 33) hx hb hw (by decide) (by decide) (fNo_in (by assumption)) (k := d.toNatClampNeg) rfl dX3_note_15 (fun H locs hw => ?_)
    refine lv_aload_n hx hb dX3_note_16 rfl (lv_at hl 0 rfl) ?_
    refine z_get (i := 32) hx hb hts hin3 hown hw (by decide) zG_32 rfl 1 (by decide) (hts (.fieldLink RX3 13 "SeedDrawersModel" "note" "[I") (by decide +kernel)) rfl rfl dX3_note_17 ?_
    refine lv_iload_n hx hb dX3_note_20 rfl (lv_at hl 1 rfl) ?_
    refine lv_iload_n hx hb dX3_note_21 rfl (lv_at hl 2 rfl) ?_
    refine y_iast9 (i := 34) hx hb hw (by decide) (by decide) (fNo_in (by assumption)) (k := d.toNatClampNeg) rfl dX3_note_22 (fun H locs hw => ?_)
    refine lv_iconst (v := 1) hx hb dX3_note_23 (by decide) ?_
    exact z_iret hx hb hr hlocks hw dX3_note_24 (by first | (simp [hNote, tNote, q_1]; done) | (simp_all [hNote, tNote]; done)) rfl (by first | (simp [hNote, tNote, q_1]; done) | (simp_all [hNote, tNote]; done))
  · have _ := hx
    refine lv_iconst (v := (-1)) hx hb dX3_note_7 (by decide) ?_
    exact z_iret hx hb hr hlocks hw dX3_note_8 (by first | (simp [hNote, tNote, q_1]; done) | (simp_all [hNote, tNote]; done)) rfl (by first | (simp [hNote, tNote, q_1]; done) | (simp_all [hNote, tNote]; done))
set_option maxHeartbeats 4000000 in
set_option maxRecDepth 100000 in
theorem k_X3_share (l : Launch) (E : zE) (c : zC) (mo : zM) (d : Int32) (f : Int32)  : Met l yX3_share wsX3_share (zR 2 45) (zP E c mo [.ref (zl E 32), .int d, .int f]) (cQi E (hShare d f) c (tShare mo d f)) 0 0 (zA E) := by
  refine z_ent (cc := cX3_share) (maxL := 3) (ret := (some .int)) (vs := [.ref (zl E 32), .int d, .int f]) (by decide) rfl (Nat.le_of_ble_eq_true rfl) ?_
  intro p e s m below meth cd ls hx hb hr hml hown hts hlocks hl hw
  have hl : lv_has ls 3 [(0, .ref (zl E 32)), (1, .int d), (2, .int f)] := hl
  have hown : s.vm.findClass RX3 = some m.cls := hown
  have hin3 : ∀ w ∈ u_ws RX3 TX3 18, w ∈ wsX3_share := by decide +kernel
  refine lv_iload_n hx hb dX3_share_0 rfl (lv_at hl 1 rfl) ?_
  refine z_calli (rest := []) (va_runS (As := [.int d]) (rest := []) ⟨hx, hb, hml, hown, hts⟩ (k_X3_no l E c mo d ) (va_cwS 1 hts gX3_share_X3_no rfl rfl rfl (by decide +kernel) ⟨Nat.le_of_ble_eq_true rfl, Nat.le_of_ble_eq_true rfl⟩) (z_preS hw [.int d]) rfl rfl hl.1 rfl (lv_room (Nat.le_of_ble_eq_true rfl)) dX3_share_1 ⟨Nat.le_of_ble_eq_true rfl, Nat.le_of_ble_eq_true rfl⟩) hw (fun H locs hw => ?_)
  refine lv_if_ne (tgt := 14) hx hb dX3_share_4 (by decide) (fun q_1 => ?_) (fun q_1 => ?_)
  · have _ := hx
    refine lv_iconst (v := (-1)) hx hb dX3_share_14 (by decide) ?_
    exact z_iret hx hb hr hlocks hw dX3_share_15 (by first | (simp [hShare, tShare, shr, q_1]; done) | (simp_all [hShare, tShare, shr]; done)) rfl (by first | (simp [hShare, tShare, shr, q_1]; done) | (simp_all [hShare, tShare, shr]; done))
  · have _ := hx
    refine lv_iload_n hx hb dX3_share_7 rfl (lv_at hl 2 rfl) ?_
    refine z_calli (rest := []) (va_runS (As := [.int f]) (rest := []) ⟨hx, hb, hml, hown, hts⟩ (k_X3_no l E c mo f ) (va_cwS 1 hts gX3_share_X3_no rfl rfl rfl (by decide +kernel) ⟨Nat.le_of_ble_eq_true rfl, Nat.le_of_ble_eq_true rfl⟩) (z_preS hw [.int f]) rfl rfl hl.1 rfl (lv_room (Nat.le_of_ble_eq_true rfl)) dX3_share_8 ⟨Nat.le_of_ble_eq_true rfl, Nat.le_of_ble_eq_true rfl⟩) hw (fun H locs hw => ?_)
    refine lv_if_eq (tgt := 16) hx hb dX3_share_11 (by decide) (fun q_2 => ?_) (fun q_2 => ?_)
    · have _ := hx
      refine lv_aload_n hx hb dX3_share_16 rfl (lv_at hl 0 rfl) ?_
      refine z_get (i := 32) hx hb hts hin3 hown hw (by decide) zG_32 rfl 0 (by decide) (hts (.fieldLink RX3 7 "SeedDrawersModel" "has" "[I") (by decide +kernel)) rfl rfl dX3_share_17 ?_
      refine lv_iload_n hx hb dX3_share_20 rfl (lv_at hl 1 rfl) ?_
      refine lv_aload_n hx hb dX3_share_21 rfl (lv_at hl 0 rfl) ?_
      refine z_get (i := 32) hx hb hts hin3 hown hw (by decide) zG_32 rfl 0 (by decide) (hts (.fieldLink RX3 7 "SeedDrawersModel" "has" "[I") (by decide +kernel)) rfl rfl dX3_share_22 ?_
      refine lv_iload_n hx hb dX3_share_25 rfl (lv_at hl 2 rfl) ?_
      refine y_iald (i := 33) hx hb hw (by decide) (zG_9 (i := 33) (by decide)) (fNo_in (by assumption)) (k := f.toNatClampNeg) rfl dX3_share_26 ?_
      refine y_iast9 (i := 33) hx hb hw (by decide) (by decide) (fNo_in (by assumption)) (k := d.toNatClampNeg) rfl dX3_share_27 (fun H locs hw => ?_)
      refine lv_aload_n hx hb dX3_share_28 rfl (lv_at hl 0 rfl) ?_
      refine z_get (i := 32) hx hb hts hin3 hown hw (by decide) zG_32 rfl 1 (by decide) (hts (.fieldLink RX3 13 "SeedDrawersModel" "note" "[I") (by decide +kernel)) rfl rfl dX3_share_29 ?_
      refine lv_iload_n hx hb dX3_share_32 rfl (lv_at hl 1 rfl) ?_
      refine lv_aload_n hx hb dX3_share_33 rfl (lv_at hl 0 rfl) ?_
      refine z_get (i := 32) hx hb hts hin3 hown hw (by decide) zG_32 rfl 1 (by decide) (hts (.fieldLink RX3 13 "SeedDrawersModel" "note" "[I") (by decide +kernel)) rfl rfl dX3_share_34 ?_
      refine lv_iload_n hx hb dX3_share_37 rfl (lv_at hl 2 rfl) ?_
      refine y_iald (i := 34) hx hb hw (by decide) (zG_9 (i := 34) (by decide)) (fNo_in (by assumption)) (k := f.toNatClampNeg) rfl dX3_share_38 ?_
      refine y_iast9 (i := 34) hx hb hw (by decide) (by decide) (fNo_in (by assumption)) (k := d.toNatClampNeg) rfl dX3_share_39 (fun H locs hw => ?_)
      refine lv_aload_n hx hb dX3_share_40 rfl (lv_at hl 0 rfl) ?_
      refine z_get (i := 32) hx hb hts hin3 hown hw (by decide) zG_32 rfl 2 (by decide) (hts (.fieldLink RX3 16 "SeedDrawersModel" "rowOf" "[I") (by decide +kernel)) rfl rfl dX3_share_41 ?_
      refine lv_iload_n hx hb dX3_share_44 rfl (lv_at hl 1 rfl) ?_
      refine lv_aload_n hx hb dX3_share_45 rfl (lv_at hl 0 rfl) ?_
      refine z_get (i := 32) hx hb hts hin3 hown hw (by decide) zG_32 rfl 2 (by decide) (hts (.fieldLink RX3 16 "SeedDrawersModel" "rowOf" "[I") (by decide +kernel)) rfl rfl dX3_share_46 ?_
      refine lv_iload_n hx hb dX3_share_49 rfl (lv_at hl 2 rfl) ?_
      refine y_iald (i := 35) hx hb hw (by decide) (zG_9 (i := 35) (by decide)) (fNo_in (by assumption)) (k := f.toNatClampNeg) rfl dX3_share_50 ?_
      refine y_iast9 (i := 35) hx hb hw (by decide) (by decide) (fNo_in (by assumption)) (k := d.toNatClampNeg) rfl dX3_share_51 (fun H locs hw => ?_)
      refine lv_iconst (v := 1) hx hb dX3_share_52 (by decide) ?_
      exact z_iret hx hb hr hlocks hw dX3_share_53 (by first | (simp [hShare, tShare, shr, q_1, q_2]; done) | (simp_all [hShare, tShare, shr]; done)) rfl (by first | (simp [hShare, tShare, shr, q_1, q_2]; done) | (simp_all [hShare, tShare, shr]; done))
    · have _ := hx
      refine lv_iconst (v := (-1)) hx hb dX3_share_14 (by decide) ?_
      exact z_iret hx hb hr hlocks hw dX3_share_15 (by first | (simp [hShare, tShare, shr, q_1, q_2]; done) | (simp_all [hShare, tShare, shr]; done)) rfl (by first | (simp [hShare, tShare, shr, q_1, q_2]; done) | (simp_all [hShare, tShare, shr]; done))
set_option maxHeartbeats 4000000 in
set_option maxRecDepth 100000 in
theorem k_X3_clear (l : Launch) (E : zE) (c : zC) (mo : zM) (d : Int32)  : Met l yX3_clear wsX3_clear (zR 2 45) (zP E c mo [.ref (zl E 32), .int d]) (cQi E (hClear mo d) c (tClear mo d)) 0 0 (zA E) := by
  refine z_ent (cc := cX3_clear) (maxL := 3) (ret := (some .int)) (vs := [.ref (zl E 32), .int d]) (by decide) rfl (Nat.le_of_ble_eq_true rfl) ?_
  intro p e s m below meth cd ls hx hb hr hml hown hts hlocks hl hw
  have hl : lv_has ls 3 [(0, .ref (zl E 32)), (1, .int d)] := hl
  have hown : s.vm.findClass RX3 = some m.cls := hown
  have hin3 : ∀ w ∈ u_ws RX3 TX3 18, w ∈ wsX3_clear := by decide +kernel
  refine lv_iload_n hx hb dX3_clear_0 rfl (lv_at hl 1 rfl) ?_
  refine z_calli (rest := []) (va_runS (As := [.int d]) (rest := []) ⟨hx, hb, hml, hown, hts⟩ (k_X3_no l E c mo d ) (va_cwS 1 hts gX3_clear_X3_no rfl rfl rfl (by decide +kernel) ⟨Nat.le_of_ble_eq_true rfl, Nat.le_of_ble_eq_true rfl⟩) (z_preS hw [.int d]) rfl rfl hl.1 rfl (lv_room (Nat.le_of_ble_eq_true rfl)) dX3_clear_1 ⟨Nat.le_of_ble_eq_true rfl, Nat.le_of_ble_eq_true rfl⟩) hw (fun H locs hw => ?_)
  refine lv_if_eq (tgt := 9) hx hb dX3_clear_4 (by decide) (fun q_1 => ?_) (fun q_1 => ?_)
  · have _ := hx
    refine lv_aload_n hx hb dX3_clear_9 rfl (lv_at hl 0 rfl) ?_
    refine z_get (i := 32) hx hb hts hin3 hown hw (by decide) zG_32 rfl 0 (by decide) (hts (.fieldLink RX3 7 "SeedDrawersModel" "has" "[I") (by decide +kernel)) rfl rfl dX3_clear_10 ?_
    refine lv_iload_n hx hb dX3_clear_13 rfl (lv_at hl 1 rfl) ?_
    refine y_iald (i := 33) hx hb hw (by decide) (zG_9 (i := 33) (by decide)) (fNo_in (by assumption)) (k := d.toNatClampNeg) rfl dX3_clear_14 ?_
    refine lv_if_le (tgt := 22) hx hb dX3_clear_15 (by decide) (fun q_2 => ?_) (fun q_2 => ?_)
    · have _ := hx
      refine lv_iconst (v := 0) hx hb dX3_clear_22 (by decide) ?_
      refine lv_istore_n (lv' := [(2, .int 0), (0, .ref (zl E 32)), (1, .int d)]) hx hb dX3_clear_23 rfl hl (by decide) rfl (fun ls hl => ?_)
      refine lv_aload_n hx hb dX3_clear_24 rfl (lv_at hl 1 rfl) ?_
      refine z_get (i := 32) hx hb hts hin3 hown hw (by decide) zG_32 rfl 0 (by decide) (hts (.fieldLink RX3 7 "SeedDrawersModel" "has" "[I") (by decide +kernel)) rfl rfl dX3_clear_25 ?_
      refine lv_iload_n hx hb dX3_clear_28 rfl (lv_at hl 2 rfl) ?_
      refine lv_iconst (v := 0) hx hb dX3_clear_29 (by decide) ?_
      refine y_iast9 (i := 33) hx hb hw (by decide) (by decide) (fNo_in (by assumption)) (k := d.toNatClampNeg) rfl dX3_clear_30 (fun H locs hw => ?_)
      refine lv_iload_n hx hb dX3_clear_31 rfl (lv_at hl 0 rfl) ?_
      exact z_iret hx hb hr hlocks hw dX3_clear_32 (by first | (simp [hClear, tClear, q_1, q_2]; done) | (simp_all [hClear, tClear]; done)) rfl (by first | (simp [hClear, tClear, q_1, q_2]; done) | (simp_all [hClear, tClear]; done))
    · have _ := hx
      refine lv_iconst (v := 1) hx hb dX3_clear_18 (by decide) ?_
      refine lv_goto (tgt := 23) hx hb dX3_clear_19 (by decide) ?_
      refine lv_istore_n (lv' := [(2, .int 1), (0, .ref (zl E 32)), (1, .int d)]) hx hb dX3_clear_23 rfl hl (by decide) rfl (fun ls hl => ?_)
      refine lv_aload_n hx hb dX3_clear_24 rfl (lv_at hl 1 rfl) ?_
      refine z_get (i := 32) hx hb hts hin3 hown hw (by decide) zG_32 rfl 0 (by decide) (hts (.fieldLink RX3 7 "SeedDrawersModel" "has" "[I") (by decide +kernel)) rfl rfl dX3_clear_25 ?_
      refine lv_iload_n hx hb dX3_clear_28 rfl (lv_at hl 2 rfl) ?_
      refine lv_iconst (v := 0) hx hb dX3_clear_29 (by decide) ?_
      refine y_iast9 (i := 33) hx hb hw (by decide) (by decide) (fNo_in (by assumption)) (k := d.toNatClampNeg) rfl dX3_clear_30 (fun H locs hw => ?_)
      refine lv_iload_n hx hb dX3_clear_31 rfl (lv_at hl 0 rfl) ?_
      exact z_iret hx hb hr hlocks hw dX3_clear_32 (by first | (simp [hClear, tClear, q_1, q_2]; done) | (simp_all [hClear, tClear]; done)) rfl (by first | (simp [hClear, tClear, q_1, q_2]; done) | (simp_all [hClear, tClear]; done))
  · have _ := hx
    refine lv_iconst (v := (-1)) hx hb dX3_clear_7 (by decide) ?_
    exact z_iret hx hb hr hlocks hw dX3_clear_8 (by first | (simp [hClear, tClear, q_1]; done) | (simp_all [hClear, tClear]; done)) rfl (by first | (simp [hClear, tClear, q_1]; done) | (simp_all [hClear, tClear]; done))
set_option maxHeartbeats 4000000 in
set_option maxRecDepth 100000 in
theorem k_X3_think (l : Launch) (E : zE) (c : zC) (mo : zM) (k : Int32) (v : Int64)  : Met l yX3_think wsX3_think (zR 1 25) (zP E c mo [.ref (zl E 32), .int k, .long v]) (cQi E (hThink k) c (tThink mo k v)) 0 0 (zA E) := by
  refine z_ent (cc := cX3_think) (maxL := 4) (ret := (some .int)) (vs := [.ref (zl E 32), .int k, .long v]) (by decide) rfl (Nat.le_of_ble_eq_true rfl) ?_
  intro p e s m below meth cd ls hx hb hr hml hown hts hlocks hl hw
  have hl : lv_has ls 4 [(0, .ref (zl E 32)), (1, .int k), (2, .long v)] := hl
  have hown : s.vm.findClass RX3 = some m.cls := hown
  have hin3 : ∀ w ∈ u_ws RX3 TX3 18, w ∈ wsX3_think := by decide +kernel
  refine lv_iload_n hx hb dX3_think_0 rfl (lv_at hl 1 rfl) ?_
  refine lv_i2l (v := k.toInt64) hx hb dX3_think_1 rfl ?_
  refine lv_lconst (v := 0) hx hb dX3_think_2 (by decide) ?_
  refine lv_ldc2 (v := 5) hx hb hown (hts (.constantLong RX3 64 (5)) (by decide +kernel)) dX3_think_3 ?_
  refine z_calli (rest := []) (va_runS (As := [.long k.toInt64, .long 0, .long 5]) (rest := []) ⟨hx, hb, hml, hown, hts⟩ (k_X3_beyond l E c mo k.toInt64 0 5 ) (va_cwS 3 hts gX3_think_X3_beyond rfl rfl rfl (by decide +kernel) ⟨Nat.le_of_ble_eq_true rfl, Nat.le_of_ble_eq_true rfl⟩) (z_preS hw [.long k.toInt64, .long 0, .long 5]) rfl rfl hl.1 rfl (lv_room (Nat.le_of_ble_eq_true rfl)) dX3_think_6 ⟨Nat.le_of_ble_eq_true rfl, Nat.le_of_ble_eq_true rfl⟩) hw (fun H locs hw => ?_)
  refine lv_if_eq (tgt := 15) hx hb dX3_think_9 (by decide) (fun q_1 => ?_) (fun q_1 => ?_)
  · have _ := hx
    refine lv_aload_n hx hb dX3_think_15 rfl (lv_at hl 0 rfl) ?_
    refine lv_iconst (v := 1) hx hb dX3_think_16 (by decide) ?_
    refine z_put (i := 32) (ty := .boolean) hx hb hts hin3 tyX3 tyX3_ok nmX3 hown hw (by decide) zG_32 rfl 7 (by decide) (hts (.fieldLink RX3 66 "SeedDrawersModel" "holds" "Z") (by decide +kernel)) rfl rfl (by decide +kernel) rfl rfl (Nat.le_of_ble_eq_true rfl) (zU32_7 E c mo 1) dX3_think_17 (fun H locs hw => ?_)
    refine lv_aload_n hx hb dX3_think_20 rfl (lv_at hl 0 rfl) ?_
    refine lv_iload_n hx hb dX3_think_21 rfl (lv_at hl 1 rfl) ?_
    refine z_put (i := 32) (ty := .int) hx hb hts hin3 tyX3 tyX3_ok nmX3 hown hw (by decide) zG_32 rfl 8 (by decide) (hts (.fieldLink RX3 70 "SeedDrawersModel" "handKind" "I") (by decide +kernel)) rfl rfl (by decide +kernel) rfl rfl (Nat.le_of_ble_eq_true rfl) (zU32_8 E c (tI mo 32 7 1) k) dX3_think_22 (fun H locs hw => ?_)
    refine lv_aload_n hx hb dX3_think_25 rfl (lv_at hl 0 rfl) ?_
    refine lv_iload_n hx hb dX3_think_26 rfl (lv_at hl 1 rfl) ?_
    refine lv_if_ne (tgt := 37) hx hb dX3_think_27 (by decide) (fun q_2 => ?_) (fun q_2 => ?_)
    · have _ := hx
      refine lv_iload_n hx hb dX3_think_37 rfl (lv_at hl 1 rfl) ?_
      refine lv_iconst (v := 1) hx hb dX3_think_38 (by decide) ?_
      refine lv_icmp_ne (tgt := 49) hx hb dX3_think_39 (by decide) (fun q_3 => ?_) (fun q_3 => ?_)
      · have _ := hx
        refine lv_iload_n hx hb dX3_think_49 rfl (lv_at hl 1 rfl) ?_
        refine lv_iconst (v := 2) hx hb dX3_think_50 (by decide) ?_
        refine lv_icmp_ne (tgt := 61) hx hb dX3_think_51 (by decide) (fun q_4 => ?_) (fun q_4 => ?_)
        · have _ := hx
          refine lv_iload_n hx hb dX3_think_61 rfl (lv_at hl 1 rfl) ?_
          refine lv_iconst (v := 3) hx hb dX3_think_62 (by decide) ?_
          refine lv_icmp_ne (tgt := 72) hx hb dX3_think_63 (by decide) (fun q_5 => ?_) (fun q_5 => ?_)
          · have _ := hx
            refine lv_iload_n hx hb dX3_think_72 rfl (lv_at hl 1 rfl) ?_
            refine lv_iconst (v := 4) hx hb dX3_think_73 (by decide) ?_
            refine lv_icmp_ne (tgt := 81) hx hb dX3_think_74 (by decide) (fun q_6 => ?_) (fun q_6 => ?_)
            · have _ := hx
              refine lv_lload_n hx hb dX3_think_81 rfl (lv_at hl 2 rfl) ?_
              refine lv_lconst (v := 0) hx hb dX3_think_82 (by decide) ?_
              refine W.lcmp hx hb dX3_think_83 ?_
              refine lv_if_eq (tgt := 91) hx hb dX3_think_84 (by decide) (fun q_7 => ?_) (fun q_7 => ?_)
              · have _ := hx
                refine lv_lconst (v := 0) hx hb dX3_think_91 (by decide) ?_
                refine z_put (i := 32) (ty := .long) hx hb hts hin3 tyX3 tyX3_ok nmX3 hown hw (by decide) zG_32 rfl 9 (by decide) (hts (.fieldLink RX3 73 "SeedDrawersModel" "handValue" "J") (by decide +kernel)) rfl rfl (by decide +kernel) rfl rfl (Nat.le_of_ble_eq_true rfl) (zU32_9 E c (tI (tI mo 32 7 1) 32 8 k) 0) dX3_think_92 (fun H locs hw => ?_)
                refine lv_iconst (v := 1) hx hb dX3_think_95 (by decide) ?_
                exact z_iret hx hb hr hlocks hw dX3_think_96 (by first | (simp [hThink, tThink, gVok, q_1, q_2, q_3, q_4, q_5, q_6, q_7]; done) | (simp_all [hThink, tThink, gVok]; done)) rfl (by first | (simp [hThink, tThink, gVok, q_1, q_2, q_3, q_4, q_5, q_6, q_7]; done) | (simp_all [hThink, tThink, gVok]; done))
              · have _ := hx
                refine lv_lconst (v := 1) hx hb dX3_think_87 (by decide) ?_
                refine lv_goto (tgt := 92) hx hb dX3_think_88 (by decide) ?_
                refine z_put (i := 32) (ty := .long) hx hb hts hin3 tyX3 tyX3_ok nmX3 hown hw (by decide) zG_32 rfl 9 (by decide) (hts (.fieldLink RX3 73 "SeedDrawersModel" "handValue" "J") (by decide +kernel)) rfl rfl (by decide +kernel) rfl rfl (Nat.le_of_ble_eq_true rfl) (zU32_9 E c (tI (tI mo 32 7 1) 32 8 k) 1) dX3_think_92 (fun H locs hw => ?_)
                refine lv_iconst (v := 1) hx hb dX3_think_95 (by decide) ?_
                exact z_iret hx hb hr hlocks hw dX3_think_96 (by first | (simp [hThink, tThink, gVok, q_1, q_2, q_3, q_4, q_5, q_6, q_7]; done) | (simp_all [hThink, tThink, gVok]; done)) rfl (by first | (simp [hThink, tThink, gVok, q_1, q_2, q_3, q_4, q_5, q_6, q_7]; done) | (simp_all [hThink, tThink, gVok]; done))
            · have _ := hx
              refine lv_lload_n hx hb dX3_think_77 rfl (lv_at hl 2 rfl) ?_
              refine lv_goto (tgt := 92) hx hb dX3_think_78 (by decide) ?_
              refine z_put (i := 32) (ty := .long) hx hb hts hin3 tyX3 tyX3_ok nmX3 hown hw (by decide) zG_32 rfl 9 (by decide) (hts (.fieldLink RX3 73 "SeedDrawersModel" "handValue" "J") (by decide +kernel)) rfl rfl (by decide +kernel) rfl rfl (Nat.le_of_ble_eq_true rfl) (zU32_9 E c (tI (tI mo 32 7 1) 32 8 k) v) dX3_think_92 (fun H locs hw => ?_)
              refine lv_iconst (v := 1) hx hb dX3_think_95 (by decide) ?_
              exact z_iret hx hb hr hlocks hw dX3_think_96 (by first | (simp [hThink, tThink, gVok, q_1, q_2, q_3, q_4, q_5, q_6]; done) | (simp_all [hThink, tThink, gVok]; done)) rfl (by first | (simp [hThink, tThink, gVok, q_1, q_2, q_3, q_4, q_5, q_6]; done) | (simp_all [hThink, tThink, gVok]; done))
          · have _ := hx
            refine lv_lload_n hx hb dX3_think_66 rfl (lv_at hl 2 rfl) ?_
            refine lv_l2i (v := v.toInt32) hx hb dX3_think_67 rfl ?_
            refine lv_i2l (v := v.toInt32.toInt64) hx hb dX3_think_68 rfl ?_
            refine lv_goto (tgt := 92) hx hb dX3_think_69 (by decide) ?_
            refine z_put (i := 32) (ty := .long) hx hb hts hin3 tyX3 tyX3_ok nmX3 hown hw (by decide) zG_32 rfl 9 (by decide) (hts (.fieldLink RX3 73 "SeedDrawersModel" "handValue" "J") (by decide +kernel)) rfl rfl (by decide +kernel) rfl rfl (Nat.le_of_ble_eq_true rfl) (zU32_9 E c (tI (tI mo 32 7 1) 32 8 k) v.toInt32.toInt64) dX3_think_92 (fun H locs hw => ?_)
            refine lv_iconst (v := 1) hx hb dX3_think_95 (by decide) ?_
            exact z_iret hx hb hr hlocks hw dX3_think_96 (by first | (simp [hThink, tThink, gVok, q_1, q_2, q_3, q_4, q_5]; done) | (simp_all [hThink, tThink, gVok]; done)) rfl (by first | (simp [hThink, tThink, gVok, q_1, q_2, q_3, q_4, q_5]; done) | (simp_all [hThink, tThink, gVok]; done))
        · have _ := hx
          refine lv_lload_n hx hb dX3_think_54 rfl (lv_at hl 2 rfl) ?_
          refine lv_l2i (v := v.toInt32) hx hb dX3_think_55 rfl ?_
          refine lv_i2c (v := (v.toInt32.toUInt32 % 65536).toInt32) hx hb dX3_think_56 rfl ?_
          refine lv_i2l (v := ((v.toInt32.toUInt32 % 65536).toInt32).toInt64) hx hb dX3_think_57 rfl ?_
          refine lv_goto (tgt := 92) hx hb dX3_think_58 (by decide) ?_
          refine z_put (i := 32) (ty := .long) hx hb hts hin3 tyX3 tyX3_ok nmX3 hown hw (by decide) zG_32 rfl 9 (by decide) (hts (.fieldLink RX3 73 "SeedDrawersModel" "handValue" "J") (by decide +kernel)) rfl rfl (by decide +kernel) rfl rfl (Nat.le_of_ble_eq_true rfl) (zU32_9 E c (tI (tI mo 32 7 1) 32 8 k) (((v.toInt32.toUInt32 % 65536).toInt32).toInt64)) dX3_think_92 (fun H locs hw => ?_)
          refine lv_iconst (v := 1) hx hb dX3_think_95 (by decide) ?_
          exact z_iret hx hb hr hlocks hw dX3_think_96 (by first | (simp [hThink, tThink, gVok, q_1, q_2, q_3, q_4]; done) | (simp_all [hThink, tThink, gVok]; done)) rfl (by first | (simp [hThink, tThink, gVok, q_1, q_2, q_3, q_4]; done) | (simp_all [hThink, tThink, gVok]; done))
      · have _ := hx
        refine lv_lload_n hx hb dX3_think_42 rfl (lv_at hl 2 rfl) ?_
        refine lv_l2i (v := v.toInt32) hx hb dX3_think_43 rfl ?_
        refine lv_i2s (v := v.toInt32.toInt16.toInt32) hx hb dX3_think_44 rfl ?_
        refine lv_i2l (v := v.toInt32.toInt16.toInt32.toInt64) hx hb dX3_think_45 rfl ?_
        refine lv_goto (tgt := 92) hx hb dX3_think_46 (by decide) ?_
        refine z_put (i := 32) (ty := .long) hx hb hts hin3 tyX3 tyX3_ok nmX3 hown hw (by decide) zG_32 rfl 9 (by decide) (hts (.fieldLink RX3 73 "SeedDrawersModel" "handValue" "J") (by decide +kernel)) rfl rfl (by decide +kernel) rfl rfl (Nat.le_of_ble_eq_true rfl) (zU32_9 E c (tI (tI mo 32 7 1) 32 8 k) v.toInt32.toInt16.toInt32.toInt64) dX3_think_92 (fun H locs hw => ?_)
        refine lv_iconst (v := 1) hx hb dX3_think_95 (by decide) ?_
        exact z_iret hx hb hr hlocks hw dX3_think_96 (by first | (simp [hThink, tThink, gVok, q_1, q_2, q_3]; done) | (simp_all [hThink, tThink, gVok]; done)) rfl (by first | (simp [hThink, tThink, gVok, q_1, q_2, q_3]; done) | (simp_all [hThink, tThink, gVok]; done))
    · have _ := hx
      refine lv_lload_n hx hb dX3_think_30 rfl (lv_at hl 2 rfl) ?_
      refine lv_l2i (v := v.toInt32) hx hb dX3_think_31 rfl ?_
      refine lv_i2b (v := v.toInt32.toInt8.toInt32) hx hb dX3_think_32 rfl ?_
      refine lv_i2l (v := v.toInt32.toInt8.toInt32.toInt64) hx hb dX3_think_33 rfl ?_
      refine lv_goto (tgt := 92) hx hb dX3_think_34 (by decide) ?_
      refine z_put (i := 32) (ty := .long) hx hb hts hin3 tyX3 tyX3_ok nmX3 hown hw (by decide) zG_32 rfl 9 (by decide) (hts (.fieldLink RX3 73 "SeedDrawersModel" "handValue" "J") (by decide +kernel)) rfl rfl (by decide +kernel) rfl rfl (Nat.le_of_ble_eq_true rfl) (zU32_9 E c (tI (tI mo 32 7 1) 32 8 k) v.toInt32.toInt8.toInt32.toInt64) dX3_think_92 (fun H locs hw => ?_)
      refine lv_iconst (v := 1) hx hb dX3_think_95 (by decide) ?_
      exact z_iret hx hb hr hlocks hw dX3_think_96 (by first | (simp [hThink, tThink, gVok, q_1, q_2]; done) | (simp_all [hThink, tThink, gVok]; done)) rfl (by first | (simp [hThink, tThink, gVok, q_1, q_2]; done) | (simp_all [hThink, tThink, gVok]; done))
  · have _ := hx
    refine lv_bipush (v := (-2)) hx hb dX3_think_12 (by decide) ?_
    exact z_iret hx hb hr hlocks hw dX3_think_14 (by first | (simp [hThink, tThink, gVok, q_1]; done) | (simp_all [hThink, tThink, gVok]; done)) rfl (by first | (simp [hThink, tThink, gVok, q_1]; done) | (simp_all [hThink, tThink, gVok]; done))
set_option maxHeartbeats 4000000 in
set_option maxRecDepth 100000 in
theorem k_X3_card (l : Launch) (E : zE) (c : zC) (mo : zM)   : Met l yX3_card wsX3_card (zR 0 0) (zP E c mo [.ref (zl E 32)]) (cQi E (hCard mo) c (tCard mo)) 0 0 (zA E) := by
  refine z_ent (cc := cX3_card) (maxL := 1) (ret := (some .int)) (vs := [.ref (zl E 32)]) (by decide) rfl (Nat.le_of_ble_eq_true rfl) ?_
  intro p e s m below meth cd ls hx hb hr hml hown hts hlocks hl hw
  have hl : lv_has ls 1 [(0, .ref (zl E 32))] := hl
  have hown : s.vm.findClass RX3 = some m.cls := hown
  have hin3 : ∀ w ∈ u_ws RX3 TX3 18, w ∈ wsX3_card := by decide +kernel
  refine lv_aload_n hx hb dX3_card_0 rfl (lv_at hl 0 rfl) ?_
  refine z_get (i := 32) hx hb hts hin3 hown hw (by decide) zG_32 rfl 10 (by decide) (hts (.fieldLink RX3 77 "SeedDrawersModel" "cards" "I") (by decide +kernel)) rfl rfl dX3_card_1 ?_
  refine lv_bipush (v := 30) hx hb dX3_card_4 (by decide) ?_
  refine lv_icmp_ne (tgt := 12) hx hb dX3_card_6 (by decide) (fun q_1 => ?_) (fun q_1 => ?_)
  · have _ := hx
    refine lv_aload_n hx hb dX3_card_12 rfl (lv_at hl 0 rfl) ?_
    refine lv_dup hx hb dX3_card_13 rfl ?_
    refine z_get (i := 32) hx hb hts hin3 hown hw (by decide) zG_32 rfl 10 (by decide) (hts (.fieldLink RX3 77 "SeedDrawersModel" "cards" "I") (by decide +kernel)) rfl rfl dX3_card_14 ?_
    refine lv_iconst (v := 1) hx hb dX3_card_17 (by decide) ?_
    refine lv_iadd hx hb dX3_card_18 ?_
    refine z_put (i := 32) (ty := .int) hx hb hts hin3 tyX3 tyX3_ok nmX3 hown hw (by decide) zG_32 rfl 10 (by decide) (hts (.fieldLink RX3 77 "SeedDrawersModel" "cards" "I") (by decide +kernel)) rfl rfl (by decide +kernel) rfl rfl (Nat.le_of_ble_eq_true rfl) (zU32_10 E c mo ((mo.1 32 10) + 1)) dX3_card_19 (fun H locs hw => ?_)
    refine lv_aload_n hx hb dX3_card_22 rfl (lv_at hl 0 rfl) ?_
    refine lv_iconst (v := 1) hx hb dX3_card_23 (by decide) ?_
    refine z_put (i := 32) (ty := .boolean) hx hb hts hin3 tyX3 tyX3_ok nmX3 hown hw (by decide) zG_32 rfl 7 (by decide) (hts (.fieldLink RX3 66 "SeedDrawersModel" "holds" "Z") (by decide +kernel)) rfl rfl (by decide +kernel) rfl rfl (Nat.le_of_ble_eq_true rfl) (zU32_7 E c (tI mo 32 10 ((mo.1 32 10) + 1)) 1) dX3_card_24 (fun H locs hw => ?_)
    refine lv_aload_n hx hb dX3_card_27 rfl (lv_at hl 0 rfl) ?_
    refine lv_bipush (v := 6) hx hb dX3_card_28 (by decide) ?_
    refine z_put (i := 32) (ty := .int) hx hb hts hin3 tyX3 tyX3_ok nmX3 hown hw (by decide) zG_32 rfl 8 (by decide) (hts (.fieldLink RX3 70 "SeedDrawersModel" "handKind" "I") (by decide +kernel)) rfl rfl (by decide +kernel) rfl rfl (Nat.le_of_ble_eq_true rfl) (zU32_8 E c (tI (tI mo 32 10 ((mo.1 32 10) + 1)) 32 7 1) 6) dX3_card_30 (fun H locs hw => ?_)
    refine lv_aload_n hx hb dX3_card_33 rfl (lv_at hl 0 rfl) ?_
    refine lv_aload_n hx hb dX3_card_34 rfl (lv_at hl 0 rfl) ?_
    refine z_get (i := 32) hx hb hts hin3 hown hw (by decide) zG_32 rfl 10 (by decide) (hts (.fieldLink RX3 77 "SeedDrawersModel" "cards" "I") (by decide +kernel)) rfl rfl dX3_card_35 ?_
    refine lv_i2l (v := ((tI (tI (tI mo 32 10 ((mo.1 32 10) + 1)) 32 7 1) 32 8 6).1 32 10).toInt64) hx hb dX3_card_38 rfl ?_
    refine z_put (i := 32) (ty := .long) hx hb hts hin3 tyX3 tyX3_ok nmX3 hown hw (by decide) zG_32 rfl 9 (by decide) (hts (.fieldLink RX3 73 "SeedDrawersModel" "handValue" "J") (by decide +kernel)) rfl rfl (by decide +kernel) rfl rfl (Nat.le_of_ble_eq_true rfl) (zU32_9 E c (tI (tI (tI mo 32 10 ((mo.1 32 10) + 1)) 32 7 1) 32 8 6) (((tI (tI (tI mo 32 10 ((mo.1 32 10) + 1)) 32 7 1) 32 8 6).1 32 10).toInt64)) dX3_card_39 (fun H locs hw => ?_)
    refine lv_aload_n hx hb dX3_card_42 rfl (lv_at hl 0 rfl) ?_
    refine z_get (i := 32) hx hb hts hin3 hown hw (by decide) zG_32 rfl 10 (by decide) (hts (.fieldLink RX3 77 "SeedDrawersModel" "cards" "I") (by decide +kernel)) rfl rfl dX3_card_43 ?_
    exact z_iret hx hb hr hlocks hw dX3_card_46 (by simp [hCard, tCard, q_1, tI_s, tI_n, tJ_1, tI_r]) rfl (by simp [hCard, tCard, q_1, tI_s, tI_n, tJ_1, tI_r])
  · have _ := hx
    refine lv_bipush (v := (-3)) hx hb dX3_card_9 (by decide) ?_
    exact z_iret hx hb hr hlocks hw dX3_card_11 (by simp [hCard, tCard, q_1, tI_s, tI_n, tJ_1, tI_r]) rfl (by simp [hCard, tCard, q_1, tI_s, tI_n, tJ_1, tI_r])
set_option maxHeartbeats 4000000 in
set_option maxRecDepth 100000 in
theorem k_X3_take (l : Launch) (E : zE) (c : zC) (mo : zM) (d : Int32) (i : Int32) (hwm : wfM mo) : Met l yX3_take wsX3_take (zR 3 71) (zP E c mo [.ref (zl E 32), .int d, .int i]) (cQi E (hTake mo d i) c (tTake mo d i)) 0 0 (zA E) := by
  refine z_ent (cc := cX3_take) (maxL := 4) (ret := (some .int)) (vs := [.ref (zl E 32), .int d, .int i]) (by decide) rfl (Nat.le_of_ble_eq_true rfl) ?_
  intro p e s m below meth cd ls hx hb hr hml hown hts hlocks hl hw
  have hl : lv_has ls 4 [(0, .ref (zl E 32)), (1, .int d), (2, .int i)] := hl
  have hown : s.vm.findClass RX3 = some m.cls := hown
  refine lv_iload_n hx hb dX3_take_0 rfl (lv_at hl 1 rfl) ?_
  refine z_calli (rest := []) (va_runS (As := [.int d]) (rest := []) ⟨hx, hb, hml, hown, hts⟩ (k_X3_no l E c mo d ) (va_cwS 1 hts gX3_take_X3_no rfl rfl rfl (by decide +kernel) ⟨Nat.le_of_ble_eq_true rfl, Nat.le_of_ble_eq_true rfl⟩) (z_preS hw [.int d]) rfl rfl hl.1 rfl (lv_room (Nat.le_of_ble_eq_true rfl)) dX3_take_1 ⟨Nat.le_of_ble_eq_true rfl, Nat.le_of_ble_eq_true rfl⟩) hw (fun H locs hw => ?_)
  refine lv_if_eq (tgt := 9) hx hb dX3_take_4 (by decide) (fun q_1 => ?_) (fun q_1 => ?_)
  · have _ := hx
    refine lv_aload_n hx hb dX3_take_9 rfl (lv_at hl 0 rfl) ?_
    refine lv_iload_n hx hb dX3_take_10 rfl (lv_at hl 1 rfl) ?_
    refine lv_iload_n hx hb dX3_take_11 rfl (lv_at hl 2 rfl) ?_
    refine z_calli (rest := []) (va_runV (As := [.int d, .int i]) (rest := []) ⟨hx, hb, hml, hown, hts⟩ (k_X3_taking l E c mo d i (fNo_in (by assumption)) hwm) (cwV 2 hts gX3_take_X3_taking rfl rfl rfl (by decide +kernel) ⟨Nat.le_of_ble_eq_true rfl, Nat.le_of_ble_eq_true rfl⟩) (z_preV hw (by decide) zG_32 rfl [.int d, .int i]) rfl rfl hl.1 rfl (lv_room (Nat.le_of_ble_eq_true rfl)) dX3_take_12 ⟨Nat.le_of_ble_eq_true rfl, Nat.le_of_ble_eq_true rfl⟩) hw (fun H locs hw => ?_)
    refine lv_istore_n (lv' := [(3, .int (gCome mo d i)), (0, .ref (zl E 32)), (1, .int d), (2, .int i)]) hx hb dX3_take_15 rfl hl (by decide) rfl (fun ls hl => ?_)
    refine lv_aload_n hx hb dX3_take_16 rfl (lv_at hl 1 rfl) ?_
    refine lv_iload_n hx hb dX3_take_17 rfl (lv_at hl 0 rfl) ?_
    refine lv_aload_n hx hb dX3_take_18 rfl (lv_at hl 1 rfl) ?_
    refine z_calli (rest := [.int (gCome mo d i), .ref (zl E 32)]) (va_runV (As := []) (rest := [.int (gCome mo d i), .ref (zl E 32)]) ⟨hx, hb, hml, hown, hts⟩ (k_X3_hand l E c (gTak mo d i)  ) (cwV 0 hts gX3_take_X3_hand rfl rfl rfl (by decide +kernel) ⟨Nat.le_of_ble_eq_true rfl, Nat.le_of_ble_eq_true rfl⟩) (z_preV hw (by decide) zG_32 rfl []) rfl rfl hl.1 rfl (lv_room (Nat.le_of_ble_eq_true rfl)) dX3_take_19 ⟨Nat.le_of_ble_eq_true rfl, Nat.le_of_ble_eq_true rfl⟩) hw (fun H locs hw => ?_)
    refine z_calli (rest := []) (va_runV (As := [.int (gCome mo d i), .int (gHand (gTak mo d i))]) (rest := []) ⟨hx, hb, hml, hown, hts⟩ (k_X3_answer l E c (gTak mo d i) (gCome mo d i) (gHand (gTak mo d i)) (gCome_5 _ _ _)) (cwV 2 hts gX3_take_X3_answer rfl rfl rfl (by decide +kernel) ⟨Nat.le_of_ble_eq_true rfl, Nat.le_of_ble_eq_true rfl⟩) (z_preV hw (by decide) zG_32 rfl [.int (gCome mo d i), .int (gHand (gTak mo d i))]) rfl rfl hl.1 rfl (lv_room (Nat.le_of_ble_eq_true rfl)) dX3_take_22 ⟨Nat.le_of_ble_eq_true rfl, Nat.le_of_ble_eq_true rfl⟩) hw (fun H locs hw => ?_)
    exact z_iret hx hb hr hlocks hw dX3_take_25 (by first | (simp [hTake, tTake, q_1]; done) | (simp_all [hTake, tTake]; done)) rfl (by first | (simp [hTake, tTake, q_1]; done) | (simp_all [hTake, tTake]; done))
  · have _ := hx
    refine lv_iconst (v := (-1)) hx hb dX3_take_7 (by decide) ?_
    exact z_iret hx hb hr hlocks hw dX3_take_8 (by first | (simp [hTake, tTake, q_1]; done) | (simp_all [hTake, tTake]; done)) rfl (by first | (simp [hTake, tTake, q_1]; done) | (simp_all [hTake, tTake]; done))
set_option maxHeartbeats 4000000 in
set_option maxRecDepth 100000 in
theorem k_X3_puts (l : Launch) (E : zE) (c : zC) (mo : zM) (d : Int32) (i : Int32) (hd : vp_in d 8) (hwm : wfM mo) : Met l yX3_puts wsX3_puts (zR 3 72) (zP E c mo [.ref (zl E 32), .int d, .int i]) (cQi E (gLay mo d i (mo.1 32 8)) c (gPut mo d i)) 0 0 (zA E) := by
  refine z_ent (cc := cX3_puts) (maxL := 4) (ret := (some .int)) (vs := [.ref (zl E 32), .int d, .int i]) (by decide) rfl (Nat.le_of_ble_eq_true rfl) ?_
  intro p e s m below meth cd ls hx hb hr hml hown hts hlocks hl hw
  have hl : lv_has ls 4 [(0, .ref (zl E 32)), (1, .int d), (2, .int i)] := hl
  have hown : s.vm.findClass RX3 = some m.cls := hown
  have hin3 : ∀ w ∈ u_ws RX3 TX3 18, w ∈ wsX3_puts := by decide +kernel
  refine lv_aload_n hx hb dX3_puts_0 rfl (lv_at hl 0 rfl) ?_
  refine lv_iload_n hx hb dX3_puts_1 rfl (lv_at hl 1 rfl) ?_
  refine lv_iload_n hx hb dX3_puts_2 rfl (lv_at hl 2 rfl) ?_
  refine lv_aload_n hx hb dX3_puts_3 rfl (lv_at hl 0 rfl) ?_
  refine z_get (i := 32) hx hb hts hin3 hown hw (by decide) zG_32 rfl 8 (by decide) (hts (.fieldLink RX3 70 "SeedDrawersModel" "handKind" "I") (by decide +kernel)) rfl rfl dX3_puts_4 ?_
  refine z_calli (rest := []) (va_runV (As := [.int d, .int i, .int (mo.1 32 8)]) (rest := []) ⟨hx, hb, hml, hown, hts⟩ (k_X3_laying l E c mo d i (mo.1 32 8) (by assumption) (by assumption)) (cwV 3 hts gX3_puts_X3_laying rfl rfl rfl (by decide +kernel) ⟨Nat.le_of_ble_eq_true rfl, Nat.le_of_ble_eq_true rfl⟩) (z_preV hw (by decide) zG_32 rfl [.int d, .int i, .int (mo.1 32 8)]) rfl rfl hl.1 rfl (lv_room (Nat.le_of_ble_eq_true rfl)) dX3_puts_7 ⟨Nat.le_of_ble_eq_true rfl, Nat.le_of_ble_eq_true rfl⟩) hw (fun H locs hw => ?_)
  refine lv_istore_n (lv' := [(3, .int (gLay mo d i (mo.1 32 8))), (0, .ref (zl E 32)), (1, .int d), (2, .int i)]) hx hb dX3_puts_10 rfl hl (by decide) rfl (fun ls hl => ?_)
  refine lv_iload_n hx hb dX3_puts_11 rfl (lv_at hl 0 rfl) ?_
  refine lv_if_ne (tgt := 30) hx hb dX3_puts_12 (by decide) (fun q_1 => ?_) (fun q_1 => ?_)
  · have _ := hx
    refine lv_iload_n hx hb dX3_puts_30 rfl (lv_at hl 0 rfl) ?_
    exact z_iret hx hb hr hlocks hw dX3_puts_31 (by first | rfl | (simp [gPut, q_1]; done)) rfl (by first | rfl | (simp [gPut, q_1]; done))
  · have _ := hx
    refine lv_aload_n hx hb dX3_puts_15 rfl (lv_at hl 1 rfl) ?_
    refine z_get (i := 32) hx hb hts hin3 hown hw (by decide) zG_32 rfl 6 (by decide) (hts (.fieldLink RX3 26 "SeedDrawersModel" "place" "[J") (by decide +kernel)) rfl rfl dX3_puts_16 ?_
    refine lv_aload_n hx hb dX3_puts_19 rfl (lv_at hl 1 rfl) ?_
    refine lv_iload_n hx hb dX3_puts_20 rfl (lv_at hl 2 rfl) ?_
    refine lv_iload_n hx hb dX3_puts_21 rfl (lv_at hl 3 rfl) ?_
    refine z_calli (rest := [.ref (zl E 38)]) (va_runV (As := [.int d, .int i]) (rest := [.ref (zl E 38)]) ⟨hx, hb, hml, hown, hts⟩ (k_X3_at l E c mo d i (by assumption)) (cwV 2 hts gX3_puts_X3_at rfl rfl rfl (by decide +kernel) ⟨Nat.le_of_ble_eq_true rfl, Nat.le_of_ble_eq_true rfl⟩) (z_preV hw (by decide) zG_32 rfl [.int d, .int i]) rfl rfl hl.1 rfl (lv_room (Nat.le_of_ble_eq_true rfl)) dX3_puts_22 ⟨Nat.le_of_ble_eq_true rfl, Nat.le_of_ble_eq_true rfl⟩) hw (fun H locs hw => ?_)
    refine lv_aload_n hx hb dX3_puts_25 rfl (lv_at hl 1 rfl) ?_
    refine z_get (i := 32) hx hb hts hin3 hown hw (by decide) zG_32 rfl 9 (by decide) (hts (.fieldLink RX3 73 "SeedDrawersModel" "handValue" "J") (by decide +kernel)) rfl rfl dX3_puts_26 ?_
    refine y_last38 hx hb hw (gAt_in (wfM_r hwm (by assumption)) (gLay_in (le0 (by assumption)) hwm hd)) (k := (gAt mo d i).toNatClampNeg) rfl dX3_puts_29 (fun H locs hw => ?_)
    refine lv_iload_n hx hb dX3_puts_30 rfl (lv_at hl 0 rfl) ?_
    exact z_iret hx hb hr hlocks hw dX3_puts_31 (by first | rfl | (simp [gPut, q_1]; done)) rfl (by first | rfl | (simp [gPut, q_1]; done))
set_option maxHeartbeats 4000000 in
set_option maxRecDepth 100000 in
theorem k_X3_lay (l : Launch) (E : zE) (c : zC) (mo : zM) (d : Int32) (i : Int32) (hwm : wfM mo) : Met l yX3_lay wsX3_lay (zR 4 95) (zP E c mo [.ref (zl E 32), .int d, .int i]) (cQi E (hLay mo d i) c (tLay mo d i)) 0 0 (zA E) := by
  refine z_ent (cc := cX3_lay) (maxL := 3) (ret := (some .int)) (vs := [.ref (zl E 32), .int d, .int i]) (by decide) rfl (Nat.le_of_ble_eq_true rfl) ?_
  intro p e s m below meth cd ls hx hb hr hml hown hts hlocks hl hw
  have hl : lv_has ls 3 [(0, .ref (zl E 32)), (1, .int d), (2, .int i)] := hl
  have hown : s.vm.findClass RX3 = some m.cls := hown
  have hin3 : ∀ w ∈ u_ws RX3 TX3 18, w ∈ wsX3_lay := by decide +kernel
  refine lv_iload_n hx hb dX3_lay_0 rfl (lv_at hl 1 rfl) ?_
  refine z_calli (rest := []) (va_runS (As := [.int d]) (rest := []) ⟨hx, hb, hml, hown, hts⟩ (k_X3_no l E c mo d ) (va_cwS 1 hts gX3_lay_X3_no rfl rfl rfl (by decide +kernel) ⟨Nat.le_of_ble_eq_true rfl, Nat.le_of_ble_eq_true rfl⟩) (z_preS hw [.int d]) rfl rfl hl.1 rfl (lv_room (Nat.le_of_ble_eq_true rfl)) dX3_lay_1 ⟨Nat.le_of_ble_eq_true rfl, Nat.le_of_ble_eq_true rfl⟩) hw (fun H locs hw => ?_)
  refine lv_if_eq (tgt := 9) hx hb dX3_lay_4 (by decide) (fun q_1 => ?_) (fun q_1 => ?_)
  · have _ := hx
    refine lv_aload_n hx hb dX3_lay_9 rfl (lv_at hl 0 rfl) ?_
    refine z_get (i := 32) hx hb hts hin3 hown hw (by decide) zG_32 rfl 7 (by decide) (hts (.fieldLink RX3 66 "SeedDrawersModel" "holds" "Z") (by decide +kernel)) rfl rfl dX3_lay_10 ?_
    refine lv_if_eq (tgt := 30) hx hb dX3_lay_13 (by decide) (fun q_2 => ?_) (fun q_2 => ?_)
    · have _ := hx
      refine lv_bipush (v := (-3)) hx hb dX3_lay_30 (by decide) ?_
      exact z_iret hx hb hr hlocks hw dX3_lay_32 (by first | (simp [hLay, tLay, q_1, q_2]; done) | (simp_all [hLay, tLay]; done)) rfl (by first | (simp [hLay, tLay, q_1, q_2]; done) | (simp_all [hLay, tLay]; done))
    · have _ := hx
      refine lv_aload_n hx hb dX3_lay_16 rfl (lv_at hl 0 rfl) ?_
      refine lv_aload_n hx hb dX3_lay_17 rfl (lv_at hl 0 rfl) ?_
      refine lv_iload_n hx hb dX3_lay_18 rfl (lv_at hl 1 rfl) ?_
      refine lv_iload_n hx hb dX3_lay_19 rfl (lv_at hl 2 rfl) ?_
      refine z_calli (rest := [.ref (zl E 32)]) (va_runV (As := [.int d, .int i]) (rest := [.ref (zl E 32)]) ⟨hx, hb, hml, hown, hts⟩ (k_X3_puts l E c mo d i (fNo_in (by assumption)) hwm) (cwV 2 hts gX3_lay_X3_puts rfl rfl rfl (by decide +kernel) ⟨Nat.le_of_ble_eq_true rfl, Nat.le_of_ble_eq_true rfl⟩) (z_preV hw (by decide) zG_32 rfl [.int d, .int i]) rfl rfl hl.1 rfl (lv_room (Nat.le_of_ble_eq_true rfl)) dX3_lay_20 ⟨Nat.le_of_ble_eq_true rfl, Nat.le_of_ble_eq_true rfl⟩) hw (fun H locs hw => ?_)
      refine lv_iconst (v := 1) hx hb dX3_lay_23 (by decide) ?_
      refine z_calli (rest := []) (va_runV (As := [.int (gLay mo d i (mo.1 32 8)), .int 1]) (rest := []) ⟨hx, hb, hml, hown, hts⟩ (k_X3_answer l E c (gPut mo d i) (gLay mo d i (mo.1 32 8)) 1 (gLay_5 _ _ _ _)) (cwV 2 hts gX3_lay_X3_answer rfl rfl rfl (by decide +kernel) ⟨Nat.le_of_ble_eq_true rfl, Nat.le_of_ble_eq_true rfl⟩) (z_preV hw (by decide) zG_32 rfl [.int (gLay mo d i (mo.1 32 8)), .int 1]) rfl rfl hl.1 rfl (lv_room (Nat.le_of_ble_eq_true rfl)) dX3_lay_24 ⟨Nat.le_of_ble_eq_true rfl, Nat.le_of_ble_eq_true rfl⟩) hw (fun H locs hw => ?_)
      refine lv_goto (tgt := 32) hx hb dX3_lay_27 (by decide) ?_
      exact z_iret hx hb hr hlocks hw dX3_lay_32 (by first | (simp [hLay, tLay, q_1, q_2]; done) | (simp_all [hLay, tLay]; done)) rfl (by first | (simp [hLay, tLay, q_1, q_2]; done) | (simp_all [hLay, tLay]; done))
  · have _ := hx
    refine lv_iconst (v := (-1)) hx hb dX3_lay_7 (by decide) ?_
    exact z_iret hx hb hr hlocks hw dX3_lay_8 (by first | (simp [hLay, tLay, q_1]; done) | (simp_all [hLay, tLay]; done)) rfl (by first | (simp [hLay, tLay, q_1]; done) | (simp_all [hLay, tLay]; done))
set_option maxHeartbeats 4000000 in
set_option maxRecDepth 100000 in
theorem k_X3_size (l : Launch) (E : zE) (c : zC) (mo : zM) (d : Int32) (hwm : wfM mo) : Met l yX3_size wsX3_size (zR 2 45) (zP E c mo [.ref (zl E 32), .int d]) (cQi E (hSize mo d) c (tFau mo d)) 0 0 (zA E) := by
  refine z_ent (cc := cX3_size) (maxL := 3) (ret := (some .int)) (vs := [.ref (zl E 32), .int d]) (by decide) rfl (Nat.le_of_ble_eq_true rfl) ?_
  intro p e s m below meth cd ls hx hb hr hml hown hts hlocks hl hw
  have hl : lv_has ls 3 [(0, .ref (zl E 32)), (1, .int d)] := hl
  have hown : s.vm.findClass RX3 = some m.cls := hown
  have hin3 : ∀ w ∈ u_ws RX3 TX3 18, w ∈ wsX3_size := by decide +kernel
  refine lv_iload_n hx hb dX3_size_0 rfl (lv_at hl 1 rfl) ?_
  refine z_calli (rest := []) (va_runS (As := [.int d]) (rest := []) ⟨hx, hb, hml, hown, hts⟩ (k_X3_no l E c mo d ) (va_cwS 1 hts gX3_size_X3_no rfl rfl rfl (by decide +kernel) ⟨Nat.le_of_ble_eq_true rfl, Nat.le_of_ble_eq_true rfl⟩) (z_preS hw [.int d]) rfl rfl hl.1 rfl (lv_room (Nat.le_of_ble_eq_true rfl)) dX3_size_1 ⟨Nat.le_of_ble_eq_true rfl, Nat.le_of_ble_eq_true rfl⟩) hw (fun H locs hw => ?_)
  refine lv_if_eq (tgt := 9) hx hb dX3_size_4 (by decide) (fun q_1 => ?_) (fun q_1 => ?_)
  · have _ := hx
    refine lv_aload_n hx hb dX3_size_9 rfl (lv_at hl 0 rfl) ?_
    refine lv_iload_n hx hb dX3_size_10 rfl (lv_at hl 1 rfl) ?_
    refine z_calli (rest := []) (va_runV (As := [.int d]) (rest := []) ⟨hx, hb, hml, hown, hts⟩ (k_X3_rowFault l E c mo d (fNo_in (by assumption))) (cwV 1 hts gX3_size_X3_rowFault rfl rfl rfl (by decide +kernel) ⟨Nat.le_of_ble_eq_true rfl, Nat.le_of_ble_eq_true rfl⟩) (z_preV hw (by decide) zG_32 rfl [.int d]) rfl rfl hl.1 rfl (lv_room (Nat.le_of_ble_eq_true rfl)) dX3_size_11 ⟨Nat.le_of_ble_eq_true rfl, Nat.le_of_ble_eq_true rfl⟩) hw (fun H locs hw => ?_)
    refine lv_istore_n (lv' := [(2, .int (gRow mo d)), (0, .ref (zl E 32)), (1, .int d)]) hx hb dX3_size_14 rfl hl (by decide) rfl (fun ls hl => ?_)
    refine lv_aload_n hx hb dX3_size_15 rfl (lv_at hl 1 rfl) ?_
    refine lv_iload_n hx hb dX3_size_16 rfl (lv_at hl 0 rfl) ?_
    refine lv_iload_n hx hb dX3_size_17 rfl (lv_at hl 0 rfl) ?_
    refine lv_if_le (tgt := 25) hx hb dX3_size_18 (by decide) (fun q_2 => ?_) (fun q_2 => ?_)
    · have _ := hx
      refine lv_aload_n hx hb dX3_size_25 rfl (lv_at hl 1 rfl) ?_
      refine z_get (i := 32) hx hb hts hin3 hown hw (by decide) zG_32 rfl 5 (by decide) (hts (.fieldLink RX3 22 "SeedDrawersModel" "sizeOf" "[I") (by decide +kernel)) rfl rfl dX3_size_26 ?_
      refine lv_aload_n hx hb dX3_size_29 rfl (lv_at hl 1 rfl) ?_
      refine z_get (i := 32) hx hb hts hin3 hown hw (by decide) zG_32 rfl 2 (by decide) (hts (.fieldLink RX3 16 "SeedDrawersModel" "rowOf" "[I") (by decide +kernel)) rfl rfl dX3_size_30 ?_
      refine lv_iload_n hx hb dX3_size_33 rfl (lv_at hl 2 rfl) ?_
      refine y_iald (i := 35) hx hb hw (by decide) (zG_9 (i := 35) (by decide)) (fNo_in (by assumption)) (k := d.toNatClampNeg) rfl dX3_size_34 ?_
      refine y_iald (i := 37) hx hb hw (by decide) (zG_9 (i := 37) (by decide)) (wfM_r hwm (fNo_in (by assumption))) (k := (mo.1 35 d.toNatClampNeg).toNatClampNeg) rfl dX3_size_35 ?_
      refine z_calli (rest := []) (va_runV (As := [.int (gRow mo d), .int (mo.1 37 ((mo.1 35 d.toNatClampNeg).toNatClampNeg))]) (rest := []) ⟨hx, hb, hml, hown, hts⟩ (k_X3_answer l E c mo (gRow mo d) (mo.1 37 ((mo.1 35 d.toNatClampNeg).toNatClampNeg)) (gRow_5 _ _)) (cwV 2 hts gX3_size_X3_answer rfl rfl rfl (by decide +kernel) ⟨Nat.le_of_ble_eq_true rfl, Nat.le_of_ble_eq_true rfl⟩) (z_preV hw (by decide) zG_32 rfl [.int (gRow mo d), .int (mo.1 37 ((mo.1 35 d.toNatClampNeg).toNatClampNeg))]) rfl rfl hl.1 rfl (lv_room (Nat.le_of_ble_eq_true rfl)) dX3_size_36 ⟨Nat.le_of_ble_eq_true rfl, Nat.le_of_ble_eq_true rfl⟩) hw (fun H locs hw => ?_)
      exact z_iret hx hb hr hlocks hw dX3_size_39 (by first | (simp [hSize, tFau, q_1, q_2]; done) | (simp_all [hSize, tFau]; done)) rfl (by first | (simp [hSize, tFau, q_1, q_2]; done) | (simp_all [hSize, tFau]; done))
    · have _ := hx
      refine lv_iconst (v := 0) hx hb dX3_size_21 (by decide) ?_
      refine lv_goto (tgt := 36) hx hb dX3_size_22 (by decide) ?_
      refine z_calli (rest := []) (va_runV (As := [.int (gRow mo d), .int 0]) (rest := []) ⟨hx, hb, hml, hown, hts⟩ (k_X3_answer l E c mo (gRow mo d) 0 (gRow_5 _ _)) (cwV 2 hts gX3_size_X3_answer rfl rfl rfl (by decide +kernel) ⟨Nat.le_of_ble_eq_true rfl, Nat.le_of_ble_eq_true rfl⟩) (z_preV hw (by decide) zG_32 rfl [.int (gRow mo d), .int 0]) rfl rfl hl.1 rfl (lv_room (Nat.le_of_ble_eq_true rfl)) dX3_size_36 ⟨Nat.le_of_ble_eq_true rfl, Nat.le_of_ble_eq_true rfl⟩) hw (fun H locs hw => ?_)
      exact z_iret hx hb hr hlocks hw dX3_size_39 (by first | (simp [hSize, tFau, q_1, q_2]; done) | (simp_all [hSize, tFau]; done)) rfl (by first | (simp [hSize, tFau, q_1, q_2]; done) | (simp_all [hSize, tFau]; done))
  · have _ := hx
    refine lv_iconst (v := (-1)) hx hb dX3_size_7 (by decide) ?_
    exact z_iret hx hb hr hlocks hw dX3_size_8 (by first | (simp [hSize, tFau, q_1]; done) | (simp_all [hSize, tFau]; done)) rfl (by first | (simp [hSize, tFau, q_1]; done) | (simp_all [hSize, tFau]; done))
set_option maxHeartbeats 4000000 in
set_option maxRecDepth 100000 in
theorem k_X3_faults (l : Launch) (E : zE) (c : zC) (mo : zM) (f : Int32)  : Met l yX3_faults wsX3_faults (zR 1 25) (zP E c mo [.ref (zl E 32), .int f]) (cQi E (hFaus mo f) c mo) 0 0 (zA E) := by
  refine z_ent (cc := cX3_faults) (maxL := 2) (ret := (some .int)) (vs := [.ref (zl E 32), .int f]) (by decide) rfl (Nat.le_of_ble_eq_true rfl) ?_
  intro p e s m below meth cd ls hx hb hr hml hown hts hlocks hl hw
  have hl : lv_has ls 2 [(0, .ref (zl E 32)), (1, .int f)] := hl
  have hown : s.vm.findClass RX3 = some m.cls := hown
  have hin3 : ∀ w ∈ u_ws RX3 TX3 18, w ∈ wsX3_faults := by decide +kernel
  refine lv_iload_n hx hb dX3_faults_0 rfl (lv_at hl 1 rfl) ?_
  refine lv_i2l (v := f.toInt64) hx hb dX3_faults_1 rfl ?_
  refine lv_lconst (v := 0) hx hb dX3_faults_2 (by decide) ?_
  refine lv_ldc2 (v := 4) hx hb hown (hts (.constantLong RX3 133 (4)) (by decide +kernel)) dX3_faults_3 ?_
  refine z_calli (rest := []) (va_runS (As := [.long f.toInt64, .long 0, .long 4]) (rest := []) ⟨hx, hb, hml, hown, hts⟩ (k_X3_beyond l E c mo f.toInt64 0 4 ) (va_cwS 3 hts gX3_faults_X3_beyond rfl rfl rfl (by decide +kernel) ⟨Nat.le_of_ble_eq_true rfl, Nat.le_of_ble_eq_true rfl⟩) (z_preS hw [.long f.toInt64, .long 0, .long 4]) rfl rfl hl.1 rfl (lv_room (Nat.le_of_ble_eq_true rfl)) dX3_faults_6 ⟨Nat.le_of_ble_eq_true rfl, Nat.le_of_ble_eq_true rfl⟩) hw (fun H locs hw => ?_)
  refine lv_if_eq (tgt := 17) hx hb dX3_faults_9 (by decide) (fun q_1 => ?_) (fun q_1 => ?_)
  · have _ := hx
    refine lv_aload_n hx hb dX3_faults_17 rfl (lv_at hl 0 rfl) ?_
    refine z_get (i := 32) hx hb hts hin3 hown hw (by decide) zG_32 rfl 12 (by decide) (hts (.fieldLink RX3 30 "SeedDrawersModel" "faults" "[I") (by decide +kernel)) rfl rfl dX3_faults_18 ?_
    refine lv_iload_n hx hb dX3_faults_21 rfl (lv_at hl 1 rfl) ?_
    refine y_iald (i := 39) hx hb hw (by decide) (zG_9 (i := 39) (by decide)) (fBey_in 4 5 (by decide) (by assumption)) (k := f.toNatClampNeg) rfl dX3_faults_22 ?_
    exact z_iret hx hb hr hlocks hw dX3_faults_23 (by first | (simp [hFaus, q_1]; done) | (simp_all [hFaus]; done)) rfl rfl
  · have _ := hx
    refine lv_bipush (v := (-9)) hx hb dX3_faults_12 (by decide) ?_
    refine lv_goto (tgt := 23) hx hb dX3_faults_14 (by decide) ?_
    exact z_iret hx hb hr hlocks hw dX3_faults_23 (by first | (simp [hFaus, q_1]; done) | (simp_all [hFaus]; done)) rfl rfl
set_option maxHeartbeats 4000000 in
set_option maxRecDepth 100000 in
theorem k_X3_met (l : Launch) (E : zE) (c : zC) (mo : zM) (k : Int32) (hwm : wfM mo) : Met l yX3_met wsX3_met (zR 1 25) (zP E c mo [.ref (zl E 32), .int k]) (cQi E (hMet mo k) c mo) 0 0 (zA E) := by
  refine z_ent (cc := cX3_met) (maxL := 2) (ret := (some .int)) (vs := [.ref (zl E 32), .int k]) (by decide) rfl (Nat.le_of_ble_eq_true rfl) ?_
  intro p e s m below meth cd ls hx hb hr hml hown hts hlocks hl hw
  have hl : lv_has ls 2 [(0, .ref (zl E 32)), (1, .int k)] := hl
  have hown : s.vm.findClass RX3 = some m.cls := hown
  have hin3 : ∀ w ∈ u_ws RX3 TX3 18, w ∈ wsX3_met := by decide +kernel
  obtain ⟨nm, hnm1, hnm2⟩ := hwm.2.2.2
  refine lv_iload_n hx hb dX3_met_0 rfl (lv_at hl 1 rfl) ?_
  refine lv_i2l (v := k.toInt64) hx hb dX3_met_1 rfl ?_
  refine lv_lconst (v := 0) hx hb dX3_met_2 (by decide) ?_
  refine lv_aload_n hx hb dX3_met_3 rfl (lv_at hl 0 rfl) ?_
  refine z_get (i := 32) hx hb hts hin3 hown hw (by decide) zG_32 rfl 15 (by decide) (hts (.fieldLink RX3 138 "SeedDrawersModel" "done" "I") (by decide +kernel)) rfl rfl dX3_met_4 ?_
  refine lv_iconst (v := 1) hx hb dX3_met_7 (by decide) ?_
  refine lv_isub hx hb dX3_met_8 ?_
  refine lv_i2l (v := ((mo.1 32 15) - 1).toInt64) hx hb dX3_met_9 rfl ?_
  refine z_calli (rest := []) (va_runS (As := [.long k.toInt64, .long 0, .long (((mo.1 32 15) - 1).toInt64)]) (rest := []) ⟨hx, hb, hml, hown, hts⟩ (k_X3_beyond l E c mo k.toInt64 0 (((mo.1 32 15) - 1).toInt64) ) (va_cwS 3 hts gX3_met_X3_beyond rfl rfl rfl (by decide +kernel) ⟨Nat.le_of_ble_eq_true rfl, Nat.le_of_ble_eq_true rfl⟩) (z_preS hw [.long k.toInt64, .long 0, .long (((mo.1 32 15) - 1).toInt64)]) rfl rfl hl.1 rfl (lv_room (Nat.le_of_ble_eq_true rfl)) dX3_met_10 ⟨Nat.le_of_ble_eq_true rfl, Nat.le_of_ble_eq_true rfl⟩) hw (fun H locs hw => ?_)
  refine lv_if_eq (tgt := 21) hx hb dX3_met_13 (by decide) (fun q_1 => ?_) (fun q_1 => ?_)
  · have _ := hx
    refine lv_aload_n hx hb dX3_met_21 rfl (lv_at hl 0 rfl) ?_
    refine z_get (i := 32) hx hb hts hin3 hown hw (by decide) zG_32 rfl 16 (by decide) (hts (.fieldLink RX3 36 "SeedDrawersModel" "doneFault" "[I") (by decide +kernel)) rfl rfl dX3_met_22 ?_
    refine lv_iload_n hx hb dX3_met_25 rfl (lv_at hl 1 rfl) ?_
    refine y_iald (i := 41) hx hb hw (by decide) (zG_9 (i := 41) (by decide)) (in_mono (fBey_n1 hnm2 (by omega) (by assumption)) hnm1) (k := k.toNatClampNeg) rfl dX3_met_26 ?_
    exact z_iret hx hb hr hlocks hw dX3_met_27 (by first | (simp [hMet, q_1]; done) | (simp_all [hMet]; done)) rfl rfl
  · have _ := hx
    refine lv_bipush (v := (-9)) hx hb dX3_met_16 (by decide) ?_
    refine lv_goto (tgt := 27) hx hb dX3_met_18 (by decide) ?_
    exact z_iret hx hb hr hlocks hw dX3_met_27 (by first | (simp [hMet, q_1]; done) | (simp_all [hMet]; done)) rfl rfl
set_option maxHeartbeats 4000000 in
set_option maxRecDepth 100000 in
theorem k_X3_row (l : Launch) (E : zE) (c : zC) (mo : zM) (d : Int32) (k : Int32) (n : Int32) (hrow : vp_in (mo.1 32 3) 5000) : Met l yX3_row wsX3_row (zR 2 45) (zP E c mo [.ref (zl E 32), .int d, .int k, .int n]) (cQi E (hRow d k n) c (tRow mo d k n)) 0 0 (zA E) := by
  refine z_ent (cc := cX3_row) (maxL := 5) (ret := (some .int)) (vs := [.ref (zl E 32), .int d, .int k, .int n]) (by decide) rfl (Nat.le_of_ble_eq_true rfl) ?_
  intro p e s m below meth cd ls hx hb hr hml hown hts hlocks hl hw
  have hl : lv_has ls 5 [(0, .ref (zl E 32)), (1, .int d), (2, .int k), (3, .int n)] := hl
  have hown : s.vm.findClass RX3 = some m.cls := hown
  have hin3 : ∀ w ∈ u_ws RX3 TX3 18, w ∈ wsX3_row := by decide +kernel
  have hr0 : mo.1 32 3 = nI (mo.1 32 3).toNatClampNeg := in_nI hrow (by decide)
  have hr1 : (mo.1 32 3).toNatClampNeg < 5000 := in_lt hrow
  refine lv_iload_n hx hb dX3_row_0 rfl (lv_at hl 1 rfl) ?_
  refine z_calli (rest := []) (va_runS (As := [.int d]) (rest := []) ⟨hx, hb, hml, hown, hts⟩ (k_X3_no l E c mo d ) (va_cwS 1 hts gX3_row_X3_no rfl rfl rfl (by decide +kernel) ⟨Nat.le_of_ble_eq_true rfl, Nat.le_of_ble_eq_true rfl⟩) (z_preS hw [.int d]) rfl rfl hl.1 rfl (lv_room (Nat.le_of_ble_eq_true rfl)) dX3_row_1 ⟨Nat.le_of_ble_eq_true rfl, Nat.le_of_ble_eq_true rfl⟩) hw (fun H locs hw => ?_)
  refine lv_if_eq (tgt := 9) hx hb dX3_row_4 (by decide) (fun q_1 => ?_) (fun q_1 => ?_)
  · have _ := hx
    refine lv_iload_n hx hb dX3_row_9 rfl (lv_at hl 2 rfl) ?_
    refine lv_i2l (v := k.toInt64) hx hb dX3_row_10 rfl ?_
    refine lv_lconst (v := 0) hx hb dX3_row_11 (by decide) ?_
    refine lv_ldc2 (v := 6) hx hb hown (hts (.constantLong RX3 57 (6)) (by decide +kernel)) dX3_row_12 ?_
    refine z_calli (rest := []) (va_runS (As := [.long k.toInt64, .long 0, .long 6]) (rest := []) ⟨hx, hb, hml, hown, hts⟩ (k_X3_beyond l E c mo k.toInt64 0 6 ) (va_cwS 3 hts gX3_row_X3_beyond rfl rfl rfl (by decide +kernel) ⟨Nat.le_of_ble_eq_true rfl, Nat.le_of_ble_eq_true rfl⟩) (z_preS hw [.long k.toInt64, .long 0, .long 6]) rfl rfl hl.1 rfl (lv_room (Nat.le_of_ble_eq_true rfl)) dX3_row_15 ⟨Nat.le_of_ble_eq_true rfl, Nat.le_of_ble_eq_true rfl⟩) hw (fun H locs hw => ?_)
    refine lv_if_ne (tgt := 33) hx hb dX3_row_18 (by decide) (fun q_2 => ?_) (fun q_2 => ?_)
    · have _ := hx
      refine lv_bipush (v := (-2)) hx hb dX3_row_33 (by decide) ?_
      exact z_iret hx hb hr hlocks hw dX3_row_35 (by simp [hRow, tRow, q_1, q_2]) rfl (by simp [hRow, tRow, q_1, q_2])
    · have _ := hx
      refine lv_iload_n hx hb dX3_row_21 rfl (lv_at hl 3 rfl) ?_
      refine lv_i2l (v := n.toInt64) hx hb dX3_row_22 rfl ?_
      refine lv_lconst (v := 0) hx hb dX3_row_23 (by decide) ?_
      refine lv_ldc2 (v := 12) hx hb hown (hts (.constantLong RX3 59 (12)) (by decide +kernel)) dX3_row_24 ?_
      refine z_calli (rest := []) (va_runS (As := [.long n.toInt64, .long 0, .long 12]) (rest := []) ⟨hx, hb, hml, hown, hts⟩ (k_X3_beyond l E c mo n.toInt64 0 12 ) (va_cwS 3 hts gX3_row_X3_beyond rfl rfl rfl (by decide +kernel) ⟨Nat.le_of_ble_eq_true rfl, Nat.le_of_ble_eq_true rfl⟩) (z_preS hw [.long n.toInt64, .long 0, .long 12]) rfl rfl hl.1 rfl (lv_room (Nat.le_of_ble_eq_true rfl)) dX3_row_27 ⟨Nat.le_of_ble_eq_true rfl, Nat.le_of_ble_eq_true rfl⟩) hw (fun H locs hw => ?_)
      refine lv_if_eq (tgt := 36) hx hb dX3_row_30 (by decide) (fun q_3 => ?_) (fun q_3 => ?_)
      · have _ := hx
        refine lv_aload_n hx hb dX3_row_36 rfl (lv_at hl 0 rfl) ?_
        refine z_get (i := 32) hx hb hts hin3 hown hw (by decide) zG_32 rfl 0 (by decide) (hts (.fieldLink RX3 7 "SeedDrawersModel" "has" "[I") (by decide +kernel)) rfl rfl dX3_row_37 ?_
        refine lv_iload_n hx hb dX3_row_40 rfl (lv_at hl 1 rfl) ?_
        refine lv_iconst (v := 2) hx hb dX3_row_41 (by decide) ?_
        refine y_iast9 (i := 33) hx hb hw (by decide) (by decide) (fNo_in (by assumption)) (k := d.toNatClampNeg) rfl dX3_row_42 (fun H locs hw => ?_)
        refine lv_aload_n hx hb dX3_row_43 rfl (lv_at hl 0 rfl) ?_
        refine z_get (i := 32) hx hb hts hin3 hown hw (by decide) zG_32 rfl 2 (by decide) (hts (.fieldLink RX3 16 "SeedDrawersModel" "rowOf" "[I") (by decide +kernel)) rfl rfl dX3_row_44 ?_
        refine lv_iload_n hx hb dX3_row_47 rfl (lv_at hl 1 rfl) ?_
        refine lv_aload_n hx hb dX3_row_48 rfl (lv_at hl 0 rfl) ?_
        refine z_get (i := 32) hx hb hts hin3 hown hw (by decide) zG_32 rfl 3 (by decide) (hts (.fieldLink RX3 61 "SeedDrawersModel" "rows" "I") (by decide +kernel)) rfl rfl dX3_row_49 ?_
        refine y_iast9 (i := 35) hx hb hw (by decide) (by decide) (fNo_in (by assumption)) (k := d.toNatClampNeg) rfl dX3_row_52 (fun H locs hw => ?_)
        refine lv_aload_n hx hb dX3_row_53 rfl (lv_at hl 0 rfl) ?_
        refine z_get (i := 32) hx hb hts hin3 hown hw (by decide) zG_32 rfl 4 (by decide) (hts (.fieldLink RX3 19 "SeedDrawersModel" "kindOf" "[I") (by decide +kernel)) rfl rfl dX3_row_54 ?_
        refine lv_aload_n hx hb dX3_row_57 rfl (lv_at hl 0 rfl) ?_
        refine z_get (i := 32) hx hb hts hin3 hown hw (by decide) zG_32 rfl 3 (by decide) (hts (.fieldLink RX3 61 "SeedDrawersModel" "rows" "I") (by decide +kernel)) rfl rfl dX3_row_58 ?_
        refine lv_iload_n hx hb dX3_row_61 rfl (lv_at hl 2 rfl) ?_
        refine y_iast9 (i := 36) hx hb hw (by decide) (by decide) (show vp_in (mo.1 32 3) 5000 from hrow) (k := ((tI (tI mo 33 d.toNatClampNeg 2) 35 d.toNatClampNeg ((tI mo 33 d.toNatClampNeg 2).1 32 3)).1 32 3).toNatClampNeg) rfl dX3_row_62 (fun H locs hw => ?_)
        refine lv_aload_n hx hb dX3_row_63 rfl (lv_at hl 0 rfl) ?_
        refine z_get (i := 32) hx hb hts hin3 hown hw (by decide) zG_32 rfl 5 (by decide) (hts (.fieldLink RX3 22 "SeedDrawersModel" "sizeOf" "[I") (by decide +kernel)) rfl rfl dX3_row_64 ?_
        refine lv_aload_n hx hb dX3_row_67 rfl (lv_at hl 0 rfl) ?_
        refine z_get (i := 32) hx hb hts hin3 hown hw (by decide) zG_32 rfl 3 (by decide) (hts (.fieldLink RX3 61 "SeedDrawersModel" "rows" "I") (by decide +kernel)) rfl rfl dX3_row_68 ?_
        refine lv_iload_n hx hb dX3_row_71 rfl (lv_at hl 3 rfl) ?_
        refine y_iast9 (i := 37) hx hb hw (by decide) (by decide) (show vp_in (mo.1 32 3) 5000 from hrow) (k := ((tI (tI (tI mo 33 d.toNatClampNeg 2) 35 d.toNatClampNeg ((tI mo 33 d.toNatClampNeg 2).1 32 3)) 36 (((tI (tI mo 33 d.toNatClampNeg 2) 35 d.toNatClampNeg ((tI mo 33 d.toNatClampNeg 2).1 32 3)).1 32 3).toNatClampNeg) k).1 32 3).toNatClampNeg) rfl dX3_row_72 (fun H locs hw => ?_)
        refine lv_iconst (v := 0) hx hb dX3_row_73 (by decide) ?_
        refine lv_istore (lv' := [(4, .int 0), (0, .ref (zl E 32)), (1, .int d), (2, .int k), (3, .int n)]) hx hb dX3_row_74 hl (by decide) rfl (fun ls hl => ?_)
        have loop76 : ∀ (n_ : Nat) (i : Nat) (m1 : zM) (H : Heap) (locs : List Loc) (ls : Array Slot), 12 - i < n_ → (i ≤ 12) → (m1.1 32 3 = mo.1 32 3) → (zerM (mo.1 32 3).toNatClampNeg (12 - i) i m1 = rowM mo d.toNatClampNeg k n) → zW E c m1 s s.heap H locs → lv_has ls 5 [(4, .int (nI i)), (0, .ref (zl E 32)), (3, .int n)] → W p l e (headSpec wsX3_row (zR 2 45)).room s m ([.ref (zl E 32), .int d, .int k, .int n] : List Value).toArray below meth cd H locs 0 0 (MQ below (cQi E (hRow d k n) c (tRow mo d k n)) ([.ref (zl E 32), .int d, .int k, .int n] : List Value).toArray s 0 0 (zA E)) (F0 m 76 ls []) := by
          intro n_
          induction n_ with
          | zero => intro i m1 H locs ls hn_; exact absurd hn_ (Nat.not_lt_zero _)
          | succ n_ ih =>
            intro i m1 H locs ls hn_ hi hq3 hR hw hl
            refine lv_iload hx hb dX3_row_76 (lv_at hl 0 rfl) ?_
            refine lv_bipush (v := 12) hx hb dX3_row_78 (by decide) ?_
            refine lv_icmp_ge (tgt := 105) hx hb dX3_row_80 (by decide) (fun q_4 => ?_) (fun q_4 => ?_)
            · have _ := hx
              have hk : 12 ≤ i := le_le (b := 12) q_4 (by omega) (by omega)
              rw [show 12 - i = 0 by omega] at hR
              have hR : m1 = rowM mo d.toNatClampNeg k n := hR
              refine lv_aload_n hx hb dX3_row_105 rfl (lv_at hl 1 rfl) ?_
              refine lv_dup hx hb dX3_row_106 rfl ?_
              refine z_get (i := 32) hx hb hts hin3 hown hw (by decide) zG_32 rfl 3 (by decide) (hts (.fieldLink RX3 61 "SeedDrawersModel" "rows" "I") (by decide +kernel)) rfl rfl dX3_row_107 ?_
              refine lv_iconst (v := 1) hx hb dX3_row_110 (by decide) ?_
              refine lv_iadd hx hb dX3_row_111 ?_
              refine z_put (i := 32) (ty := .int) hx hb hts hin3 tyX3 tyX3_ok nmX3 hown hw (by decide) zG_32 rfl 3 (by decide) (hts (.fieldLink RX3 61 "SeedDrawersModel" "rows" "I") (by decide +kernel)) rfl rfl (by decide +kernel) rfl rfl (Nat.le_of_ble_eq_true rfl) (zU32_3 E c m1 ((m1.1 32 3) + 1)) dX3_row_112 (fun H locs hw => ?_)
              refine lv_iload_n hx hb dX3_row_115 rfl (lv_at hl 2 rfl) ?_
              exact z_iret hx hb hr hlocks hw dX3_row_116 (by simp [hRow, tRow, q_1, q_2, q_3, ← hR, hq3]) rfl (by simp [hRow, tRow, q_1, q_2, q_3, ← hR, hq3])
            · have _ := hx
              have hk : i < 12 := nle_lt (b := 12) q_4 (by omega) (by omega)
              refine lv_aload_n hx hb dX3_row_83 rfl (lv_at hl 1 rfl) ?_
              refine z_get (i := 32) hx hb hts hin3 hown hw (by decide) zG_32 rfl 6 (by decide) (hts (.fieldLink RX3 26 "SeedDrawersModel" "place" "[J") (by decide +kernel)) rfl rfl dX3_row_84 ?_
              refine lv_bipush (v := 12) hx hb dX3_row_87 (by decide) ?_
              refine lv_aload_n hx hb dX3_row_89 rfl (lv_at hl 1 rfl) ?_
              refine z_get (i := 32) hx hb hts hin3 hown hw (by decide) zG_32 rfl 3 (by decide) (hts (.fieldLink RX3 61 "SeedDrawersModel" "rows" "I") (by decide +kernel)) rfl rfl dX3_row_90 ?_
              refine lv_imul hx hb dX3_row_93 ?_
              refine lv_iload hx hb dX3_row_94 (lv_at hl 0 rfl) ?_
              refine lv_iadd hx hb dX3_row_96 ?_
              refine lv_lconst (v := 0) hx hb dX3_row_97 (by decide) ?_
              refine y_last38 hx hb hw (ixm_in (hq3.trans hr0) hr1 (by omega)) (k := (12 * (mo.1 32 3).toNatClampNeg + i)) (ixm_k (hq3.trans hr0) hr1 (by omega)) dX3_row_98 (fun H locs hw => ?_)
              refine lv_iinc (v := (nI (i + 1))) (lv' := [(4, .int (nI (i + 1))), (0, .ref (zl E 32)), (3, .int n)]) hx hb dX3_row_99 hl (k := 0) rfl (nI_1 i) (by decide) rfl (fun ls hl => ?_)
              refine lv_goto (tgt := 76) hx hb dX3_row_102 (by decide) ?_
              rw [show 12 - i = (12 - (i + 1)) + 1 by omega] at hR
              exact ih (i + 1) (tJ m1 38 (12 * (mo.1 32 3).toNatClampNeg + i) 0) _ _ _ (by omega) (by omega) hq3 hR hw (lv_sub hl [0, 1, 2] rfl)
        exact loop76 (12 + 1) 0 _ _ _ _ (by omega) (by omega) (by simp [tI_r]) (by simp [rowM, tI_r]) hw (lv_sub hl [0, 1, 4] rfl)
      · have _ := hx
        refine lv_bipush (v := (-2)) hx hb dX3_row_33 (by decide) ?_
        exact z_iret hx hb hr hlocks hw dX3_row_35 (by simp [hRow, tRow, q_1, q_2, q_3]) rfl (by simp [hRow, tRow, q_1, q_2, q_3])
  · have _ := hx
    refine lv_iconst (v := (-1)) hx hb dX3_row_7 (by decide) ?_
    exact z_iret hx hb hr hlocks hw dX3_row_8 (by simp [hRow, tRow, q_1]) rfl (by simp [hRow, tRow, q_1])
end
section
set_option maxHeartbeats 4000000 in
set_option maxRecDepth 100000 in
theorem k_X3_pours (l : Launch) (E : zE) (c : zC) (mo : zM) (d : Int32) (i : Int32) (t : Int32) (j : Int32) (n : Int32) (hd : vp_in d 8) (ht : vp_in t 8) (hwm : wfM mo) (hn : vp_in n 13) : Met l yX3_pours wsX3_pours (zR 3 72) (zP E c mo [.ref (zl E 32), .int d, .int i, .int t, .int j, .int n]) (cQi E ((pPs mo d i t j n).1) c ((pPs mo d i t j n).2)) 0 0 (zA E) := by
  refine z_ent (cc := cX3_pours) (maxL := 8) (ret := (some .int)) (vs := [.ref (zl E 32), .int d, .int i, .int t, .int j, .int n]) (by decide) rfl (Nat.le_of_ble_eq_true rfl) ?_
  intro p e s m below meth cd ls hx hb hr hml hown hts hlocks hl hw
  have hl : lv_has ls 8 [(0, .ref (zl E 32)), (1, .int d), (2, .int i), (3, .int t), (4, .int j), (5, .int n)] := hl
  have hown : s.vm.findClass RX3 = some m.cls := hown
  have hin3 : ∀ w ∈ u_ws RX3 TX3 18, w ∈ wsX3_pours := by decide +kernel
  have hn2 : n = nI n.toNatClampNeg := in_nI hn (by decide)
  have hn3 : n.toNatClampNeg ≤ 12 := by have := in_lt hn; omega
  refine lv_aload_n hx hb dX3_pours_0 rfl (lv_at hl 0 rfl) ?_
  refine lv_iconst (v := 0) hx hb dX3_pours_1 (by decide) ?_
  refine z_put (i := 32) (ty := .int) hx hb hts hin3 tyX3 tyX3_ok nmX3 hown hw (by decide) zG_32 rfl 17 (by decide) (hts (.fieldLink RX3 114 "SeedDrawersModel" "poured" "I") (by decide +kernel)) rfl rfl (by decide +kernel) rfl rfl (Nat.le_of_ble_eq_true rfl) (zU32_17 E c mo 0) dX3_pours_2 (fun H locs hw => ?_)
  refine lv_iconst (v := 0) hx hb dX3_pours_5 (by decide) ?_
  refine lv_istore (lv' := [(6, .int 0), (0, .ref (zl E 32)), (1, .int d), (2, .int i), (3, .int t), (4, .int j), (5, .int n)]) hx hb dX3_pours_6 hl (by decide) rfl (fun ls hl => ?_)
  have loop8 : ∀ (n_ : Nat) (k : Nat) (m1 : zM) (H : Heap) (locs : List Loc) (ls : Array Slot), n.toNatClampNeg - k < n_ → (k ≤ n.toNatClampNeg) → (wfM m1) → (psN d t i j (n.toNatClampNeg - k) k m1 = pPs mo d i t j n) → zW E c m1 s s.heap H locs → lv_has ls 8 [(6, .int (nI k)), (0, .ref (zl E 32)), (1, .int d), (2, .int i), (3, .int t), (4, .int j), (5, .int n)] → W p l e (headSpec wsX3_pours (zR 3 72)).room s m ([.ref (zl E 32), .int d, .int i, .int t, .int j, .int n] : List Value).toArray below meth cd H locs 0 0 (MQ below (cQi E ((pPs mo d i t j n).1) c ((pPs mo d i t j n).2)) ([.ref (zl E 32), .int d, .int i, .int t, .int j, .int n] : List Value).toArray s 0 0 (zA E)) (F0 m 8 ls []) := by
    intro n_
    induction n_ with
    | zero => intro k m1 H locs ls hn_; exact absurd hn_ (Nat.not_lt_zero _)
    | succ n_ ih =>
      intro k m1 H locs ls hn_ hk hw1 hR hw hl
      refine lv_iload hx hb dX3_pours_8 (lv_at hl 0 rfl) ?_
      refine lv_iload hx hb dX3_pours_10 (lv_at hl 6 rfl) ?_
      refine lv_icmp_ge (tgt := 110) hx hb dX3_pours_12 (by decide) (fun q_1 => ?_) (fun q_1 => ?_)
      · have _ := hx
        rw [hn2] at q_1
        have hk2 : n.toNatClampNeg ≤ k := le_le q_1 (by omega) (by omega)
        rw [show n.toNatClampNeg - k = 0 by omega] at hR
        refine lv_iconst (v := 0) hx hb dX3_pours_110 (by decide) ?_
        exact z_iret hx hb hr hlocks hw dX3_pours_111 (by rw [← hR]; rfl) rfl (by rw [← hR]; rfl)
      · have _ := hx
        rw [hn2] at q_1
        have hk2 : k < n.toNatClampNeg := nle_lt q_1 (by omega) (by omega)
        rw [show n.toNatClampNeg - k = (n.toNatClampNeg - (k + 1)) + 1 by omega] at hR
        refine lv_aload_n hx hb dX3_pours_15 rfl (lv_at hl 1 rfl) ?_
        refine lv_iload_n hx hb dX3_pours_16 rfl (lv_at hl 2 rfl) ?_
        refine lv_iload_n hx hb dX3_pours_17 rfl (lv_at hl 3 rfl) ?_
        refine lv_iload hx hb dX3_pours_18 (lv_at hl 0 rfl) ?_
        refine lv_iadd hx hb dX3_pours_20 ?_
        refine z_calli (rest := []) (va_runV (As := [.int d, .int (i + (nI k))]) (rest := []) ⟨hx, hb, hml, hown, hts⟩ (k_X3_come l E c m1 d (i + (nI k)) hd hw1) (cwV 2 hts gX3_pours_X3_come rfl rfl rfl (by decide +kernel) ⟨Nat.le_of_ble_eq_true rfl, Nat.le_of_ble_eq_true rfl⟩) (z_preV hw (by decide) zG_32 rfl [.int d, .int (i + (nI k))]) rfl rfl hl.1 rfl (lv_room (Nat.le_of_ble_eq_true rfl)) dX3_pours_21 ⟨Nat.le_of_ble_eq_true rfl, Nat.le_of_ble_eq_true rfl⟩) hw (fun H locs hw => ?_)
        refine lv_istore (lv' := [(7, .int (gCome m1 d (i + (nI k)))), (6, .int (nI k)), (0, .ref (zl E 32)), (1, .int d), (2, .int i), (3, .int t), (4, .int j), (5, .int n)]) hx hb dX3_pours_24 hl (by decide) rfl (fun ls hl => ?_)
        refine lv_iload hx hb dX3_pours_26 (lv_at hl 0 rfl) ?_
        refine lv_if_le (tgt := 36) hx hb dX3_pours_28 (by decide) (fun q_2 => ?_) (fun q_2 => ?_)
        · have _ := hx
          refine lv_aload_n hx hb dX3_pours_36 rfl (lv_at hl 2 rfl) ?_
          refine lv_iload_n hx hb dX3_pours_37 rfl (lv_at hl 5 rfl) ?_
          refine lv_iload hx hb dX3_pours_38 (lv_at hl 6 rfl) ?_
          refine lv_iload hx hb dX3_pours_40 (lv_at hl 1 rfl) ?_
          refine lv_iadd hx hb dX3_pours_42 ?_
          refine lv_aload_n hx hb dX3_pours_43 rfl (lv_at hl 2 rfl) ?_
          refine lv_iload_n hx hb dX3_pours_44 rfl (lv_at hl 3 rfl) ?_
          refine lv_iload_n hx hb dX3_pours_45 rfl (lv_at hl 4 rfl) ?_
          refine lv_iload hx hb dX3_pours_46 (lv_at hl 1 rfl) ?_
          refine lv_iadd hx hb dX3_pours_48 ?_
          refine z_calli (rest := [.int (j + (nI k)), .int t, .ref (zl E 32)]) (va_runV (As := [.int d, .int (i + (nI k))]) (rest := [.int (j + (nI k)), .int t, .ref (zl E 32)]) ⟨hx, hb, hml, hown, hts⟩ (k_X3_kindAt l E c m1 d (i + (nI k)) hd (gCome_in (by assumption) hw1 hd) hw1) (cwV 2 hts gX3_pours_X3_kindAt rfl rfl rfl (by decide +kernel) ⟨Nat.le_of_ble_eq_true rfl, Nat.le_of_ble_eq_true rfl⟩) (z_preV hw (by decide) zG_32 rfl [.int d, .int (i + (nI k))]) rfl rfl hl.1 rfl (lv_room (Nat.le_of_ble_eq_true rfl)) dX3_pours_49 ⟨Nat.le_of_ble_eq_true rfl, Nat.le_of_ble_eq_true rfl⟩) hw (fun H locs hw => ?_)
          refine z_calli (rest := []) (va_runV (As := [.int t, .int (j + (nI k)), .int (gKind m1 d (i + (nI k)))]) (rest := []) ⟨hx, hb, hml, hown, hts⟩ (k_X3_laying l E c m1 t (j + (nI k)) (gKind m1 d (i + (nI k))) ht hw1) (cwV 3 hts gX3_pours_X3_laying rfl rfl rfl (by decide +kernel) ⟨Nat.le_of_ble_eq_true rfl, Nat.le_of_ble_eq_true rfl⟩) (z_preV hw (by decide) zG_32 rfl [.int t, .int (j + (nI k)), .int (gKind m1 d (i + (nI k)))]) rfl rfl hl.1 rfl (lv_room (Nat.le_of_ble_eq_true rfl)) dX3_pours_52 ⟨Nat.le_of_ble_eq_true rfl, Nat.le_of_ble_eq_true rfl⟩) hw (fun H locs hw => ?_)
          refine lv_istore (lv' := [(7, .int (gLay m1 t (j + (nI k)) (gKind m1 d (i + (nI k))))), (6, .int (nI k)), (0, .ref (zl E 32)), (1, .int d), (2, .int i), (3, .int t), (4, .int j), (5, .int n)]) hx hb dX3_pours_55 hl (by decide) rfl (fun ls hl => ?_)
          refine lv_iload hx hb dX3_pours_57 (lv_at hl 0 rfl) ?_
          refine lv_if_le (tgt := 65) hx hb dX3_pours_59 (by decide) (fun q_3 => ?_) (fun q_3 => ?_)
          · have _ := hx
            refine lv_aload_n hx hb dX3_pours_65 rfl (lv_at hl 2 rfl) ?_
            refine z_get (i := 32) hx hb hts hin3 hown hw (by decide) zG_32 rfl 6 (by decide) (hts (.fieldLink RX3 26 "SeedDrawersModel" "place" "[J") (by decide +kernel)) rfl rfl dX3_pours_66 ?_
            refine lv_aload_n hx hb dX3_pours_69 rfl (lv_at hl 2 rfl) ?_
            refine lv_iload_n hx hb dX3_pours_70 rfl (lv_at hl 5 rfl) ?_
            refine lv_iload hx hb dX3_pours_71 (lv_at hl 6 rfl) ?_
            refine lv_iload hx hb dX3_pours_73 (lv_at hl 1 rfl) ?_
            refine lv_iadd hx hb dX3_pours_75 ?_
            refine z_calli (rest := [.ref (zl E 38)]) (va_runV (As := [.int t, .int (j + (nI k))]) (rest := [.ref (zl E 38)]) ⟨hx, hb, hml, hown, hts⟩ (k_X3_at l E c m1 t (j + (nI k)) ht) (cwV 2 hts gX3_pours_X3_at rfl rfl rfl (by decide +kernel) ⟨Nat.le_of_ble_eq_true rfl, Nat.le_of_ble_eq_true rfl⟩) (z_preV hw (by decide) zG_32 rfl [.int t, .int (j + (nI k))]) rfl rfl hl.1 rfl (lv_room (Nat.le_of_ble_eq_true rfl)) dX3_pours_76 ⟨Nat.le_of_ble_eq_true rfl, Nat.le_of_ble_eq_true rfl⟩) hw (fun H locs hw => ?_)
            refine lv_aload_n hx hb dX3_pours_79 rfl (lv_at hl 2 rfl) ?_
            refine z_get (i := 32) hx hb hts hin3 hown hw (by decide) zG_32 rfl 6 (by decide) (hts (.fieldLink RX3 26 "SeedDrawersModel" "place" "[J") (by decide +kernel)) rfl rfl dX3_pours_80 ?_
            refine lv_aload_n hx hb dX3_pours_83 rfl (lv_at hl 2 rfl) ?_
            refine lv_iload_n hx hb dX3_pours_84 rfl (lv_at hl 3 rfl) ?_
            refine lv_iload_n hx hb dX3_pours_85 rfl (lv_at hl 4 rfl) ?_
            refine lv_iload hx hb dX3_pours_86 (lv_at hl 1 rfl) ?_
            refine lv_iadd hx hb dX3_pours_88 ?_
            refine z_calli (rest := [.ref (zl E 38), .int (gAt m1 t (j + (nI k))), .ref (zl E 38)]) (va_runV (As := [.int d, .int (i + (nI k))]) (rest := [.ref (zl E 38), .int (gAt m1 t (j + (nI k))), .ref (zl E 38)]) ⟨hx, hb, hml, hown, hts⟩ (k_X3_at l E c m1 d (i + (nI k)) hd) (cwV 2 hts gX3_pours_X3_at rfl rfl rfl (by decide +kernel) ⟨Nat.le_of_ble_eq_true rfl, Nat.le_of_ble_eq_true rfl⟩) (z_preV hw (by decide) zG_32 rfl [.int d, .int (i + (nI k))]) rfl rfl hl.1 rfl (lv_room (Nat.le_of_ble_eq_true rfl)) dX3_pours_89 ⟨Nat.le_of_ble_eq_true rfl, Nat.le_of_ble_eq_true rfl⟩) hw (fun H locs hw => ?_)
            refine y_lald (i := 38) hx hb hw (by decide) zG_38 (gAt_in (wfM_r hw1 hd) (gCome_in (by assumption) hw1 hd)) (k := (gAt m1 d (i + (nI k))).toNatClampNeg) rfl dX3_pours_92 ?_
            refine y_last38 hx hb hw (gAt_in (wfM_r hw1 ht) (gLay_in (by assumption) hw1 ht)) (k := (gAt m1 t (j + (nI k))).toNatClampNeg) rfl dX3_pours_93 (fun H locs hw => ?_)
            refine lv_aload_n hx hb dX3_pours_94 rfl (lv_at hl 2 rfl) ?_
            refine lv_dup hx hb dX3_pours_95 rfl ?_
            refine z_get (i := 32) hx hb hts hin3 hown hw (by decide) zG_32 rfl 17 (by decide) (hts (.fieldLink RX3 114 "SeedDrawersModel" "poured" "I") (by decide +kernel)) rfl rfl dX3_pours_96 ?_
            refine lv_iconst (v := 1) hx hb dX3_pours_99 (by decide) ?_
            refine lv_iadd hx hb dX3_pours_100 ?_
            refine z_put (i := 32) (ty := .int) hx hb hts hin3 tyX3 tyX3_ok nmX3 hown hw (by decide) zG_32 rfl 17 (by decide) (hts (.fieldLink RX3 114 "SeedDrawersModel" "poured" "I") (by decide +kernel)) rfl rfl (by decide +kernel) rfl rfl (Nat.le_of_ble_eq_true rfl) (zU32_17 E c (tJ m1 38 ((gAt m1 t (j + (nI k))).toNatClampNeg) (m1.2 38 ((gAt m1 d (i + (nI k))).toNatClampNeg))) (((tJ m1 38 ((gAt m1 t (j + (nI k))).toNatClampNeg) (m1.2 38 ((gAt m1 d (i + (nI k))).toNatClampNeg))).1 32 17) + 1)) dX3_pours_101 (fun H locs hw => ?_)
            refine lv_iinc (v := (nI (k + 1))) (lv' := [(6, .int (nI (k + 1))), (7, .int (gLay m1 t (j + (nI k)) (gKind m1 d (i + (nI k))))), (0, .ref (zl E 32)), (1, .int d), (2, .int i), (3, .int t), (4, .int j), (5, .int n)]) hx hb dX3_pours_104 hl (k := 1) rfl (nI_1 k) (by decide) rfl (fun ls hl => ?_)
            refine lv_goto (tgt := 8) hx hb dX3_pours_107 (by decide) ?_
            exact ih (k + 1) (tI (tJ m1 38 ((gAt m1 t (j + (nI k))).toNatClampNeg) (m1.2 38 ((gAt m1 d (i + (nI k))).toNatClampNeg))) 32 17 (((tJ m1 38 ((gAt m1 t (j + (nI k))).toNatClampNeg) (m1.2 38 ((gAt m1 d (i + (nI k))).toNatClampNeg))).1 32 17) + 1)) _ _ _ (by omega) (by omega) (wfM_sm (Sm_psS m1 d (i + nI k) t (j + nI k)) hw1) (by simpa [psN, gPoF, psS, tJ_1, q_2, q_3] using hR) hw (lv_sub hl [0, 2, 3, 4, 5, 6, 7] rfl)
          · have _ := hx
            refine lv_iload hx hb dX3_pours_62 (lv_at hl 0 rfl) ?_
            exact z_iret hx hb hr hlocks hw dX3_pours_64 (by rw [← hR]; simp [psN, gPoF, q_2, q_3]) rfl (by rw [← hR]; simp [psN, gPoF, q_2, q_3])
        · have _ := hx
          refine lv_iload hx hb dX3_pours_31 (lv_at hl 0 rfl) ?_
          refine lv_goto (tgt := 55) hx hb dX3_pours_33 (by decide) ?_
          refine lv_istore (lv' := [(7, .int (gCome m1 d (i + (nI k)))), (6, .int (nI k)), (0, .ref (zl E 32)), (1, .int d), (2, .int i), (3, .int t), (4, .int j), (5, .int n)]) hx hb dX3_pours_55 hl (by decide) rfl (fun ls hl => ?_)
          refine lv_iload hx hb dX3_pours_57 (lv_at hl 0 rfl) ?_
          refine lv_if_le (tgt := 65) hx hb dX3_pours_59 (by decide) (fun q_4 => ?_) (fun q_4 => ?_)
          · exact (absurd q_4 q_2)
          · have _ := hx
            refine lv_iload hx hb dX3_pours_62 (lv_at hl 0 rfl) ?_
            exact z_iret hx hb hr hlocks hw dX3_pours_64 (by rw [← hR]; simp [psN, gPoF, q_2, q_4]) rfl (by rw [← hR]; simp [psN, gPoF, q_2, q_4])
  exact loop8 (n.toNatClampNeg + 1) 0 _ _ _ _ (by omega) (by omega) (wfM_sm (Sm.i32 _ 17 _ (by simp)) hwm) rfl hw (lv_sub hl [0, 1, 2, 3, 4, 5, 6] rfl)
set_option maxHeartbeats 4000000 in
set_option maxRecDepth 100000 in
theorem k_X3_pour (l : Launch) (E : zE) (c : zC) (mo : zM) (d : Int32) (i : Int32) (t : Int32) (j : Int32) (n : Int32) (hwm : wfM mo) : Met l yX3_pour wsX3_pour (zR 4 99) (zP E c mo [.ref (zl E 32), .int d, .int i, .int t, .int j, .int n]) (cQi E ((qPour mo d i t j n).1) c ((qPour mo d i t j n).2)) 0 0 (zA E) := by
  refine z_ent (cc := cX3_pour) (maxL := 7) (ret := (some .int)) (vs := [.ref (zl E 32), .int d, .int i, .int t, .int j, .int n]) (by decide) rfl (Nat.le_of_ble_eq_true rfl) ?_
  intro p e s m below meth cd ls hx hb hr hml hown hts hlocks hl hw
  have hl : lv_has ls 7 [(0, .ref (zl E 32)), (1, .int d), (2, .int i), (3, .int t), (4, .int j), (5, .int n)] := hl
  have hown : s.vm.findClass RX3 = some m.cls := hown
  have hin3 : ∀ w ∈ u_ws RX3 TX3 18, w ∈ wsX3_pour := by decide +kernel
  refine lv_iload_n hx hb dX3_pour_0 rfl (lv_at hl 1 rfl) ?_
  refine z_calli (rest := []) (va_runS (As := [.int d]) (rest := []) ⟨hx, hb, hml, hown, hts⟩ (k_X3_no l E c mo d ) (va_cwS 1 hts gX3_pour_X3_no rfl rfl rfl (by decide +kernel) ⟨Nat.le_of_ble_eq_true rfl, Nat.le_of_ble_eq_true rfl⟩) (z_preS hw [.int d]) rfl rfl hl.1 rfl (lv_room (Nat.le_of_ble_eq_true rfl)) dX3_pour_1 ⟨Nat.le_of_ble_eq_true rfl, Nat.le_of_ble_eq_true rfl⟩) hw (fun H locs hw => ?_)
  refine lv_if_ne (tgt := 14) hx hb dX3_pour_4 (by decide) (fun q_1 => ?_) (fun q_1 => ?_)
  · have _ := hx
    refine lv_iconst (v := (-1)) hx hb dX3_pour_14 (by decide) ?_
    exact z_iret hx hb hr hlocks hw dX3_pour_15 (by first | (simp [qPour, q_1]; done) | (simp_all [qPour]; done)) rfl (by first | (simp [qPour, q_1]; done) | (simp_all [qPour]; done))
  · have _ := hx
    refine lv_iload_n hx hb dX3_pour_7 rfl (lv_at hl 3 rfl) ?_
    refine z_calli (rest := []) (va_runS (As := [.int t]) (rest := []) ⟨hx, hb, hml, hown, hts⟩ (k_X3_no l E c mo t ) (va_cwS 1 hts gX3_pour_X3_no rfl rfl rfl (by decide +kernel) ⟨Nat.le_of_ble_eq_true rfl, Nat.le_of_ble_eq_true rfl⟩) (z_preS hw [.int t]) rfl rfl hl.1 rfl (lv_room (Nat.le_of_ble_eq_true rfl)) dX3_pour_8 ⟨Nat.le_of_ble_eq_true rfl, Nat.le_of_ble_eq_true rfl⟩) hw (fun H locs hw => ?_)
    refine lv_if_eq (tgt := 16) hx hb dX3_pour_11 (by decide) (fun q_2 => ?_) (fun q_2 => ?_)
    · have _ := hx
      refine lv_iload_n hx hb dX3_pour_16 rfl (lv_at hl 2 rfl) ?_
      refine lv_i2l (v := i.toInt64) hx hb dX3_pour_17 rfl ?_
      refine lv_lconst (v := 0) hx hb dX3_pour_18 (by decide) ?_
      refine lv_ldc2 (v := 20) hx hb hown (hts (.constantLong RX3 120 (20)) (by decide +kernel)) dX3_pour_19 ?_
      refine z_calli (rest := []) (va_runS (As := [.long i.toInt64, .long 0, .long 20]) (rest := []) ⟨hx, hb, hml, hown, hts⟩ (k_X3_beyond l E c mo i.toInt64 0 20 ) (va_cwS 3 hts gX3_pour_X3_beyond rfl rfl rfl (by decide +kernel) ⟨Nat.le_of_ble_eq_true rfl, Nat.le_of_ble_eq_true rfl⟩) (z_preS hw [.long i.toInt64, .long 0, .long 20]) rfl rfl hl.1 rfl (lv_room (Nat.le_of_ble_eq_true rfl)) dX3_pour_22 ⟨Nat.le_of_ble_eq_true rfl, Nat.le_of_ble_eq_true rfl⟩) hw (fun H locs hw => ?_)
      refine lv_if_ne (tgt := 54) hx hb dX3_pour_25 (by decide) (fun q_3 => ?_) (fun q_3 => ?_)
      · have _ := hx
        refine lv_bipush (v := (-2)) hx hb dX3_pour_54 (by decide) ?_
        exact z_iret hx hb hr hlocks hw dX3_pour_56 (by first | (simp [qPour, q_1, q_2, q_3]; done) | (simp_all [qPour]; done)) rfl (by first | (simp [qPour, q_1, q_2, q_3]; done) | (simp_all [qPour]; done))
      · have _ := hx
        refine lv_iload hx hb dX3_pour_28 (lv_at hl 4 rfl) ?_
        refine lv_i2l (v := j.toInt64) hx hb dX3_pour_30 rfl ?_
        refine lv_lconst (v := 0) hx hb dX3_pour_31 (by decide) ?_
        refine lv_ldc2 (v := 20) hx hb hown (hts (.constantLong RX3 120 (20)) (by decide +kernel)) dX3_pour_32 ?_
        refine z_calli (rest := []) (va_runS (As := [.long j.toInt64, .long 0, .long 20]) (rest := []) ⟨hx, hb, hml, hown, hts⟩ (k_X3_beyond l E c mo j.toInt64 0 20 ) (va_cwS 3 hts gX3_pour_X3_beyond rfl rfl rfl (by decide +kernel) ⟨Nat.le_of_ble_eq_true rfl, Nat.le_of_ble_eq_true rfl⟩) (z_preS hw [.long j.toInt64, .long 0, .long 20]) rfl rfl hl.1 rfl (lv_room (Nat.le_of_ble_eq_true rfl)) dX3_pour_35 ⟨Nat.le_of_ble_eq_true rfl, Nat.le_of_ble_eq_true rfl⟩) hw (fun H locs hw => ?_)
        refine lv_if_ne (tgt := 54) hx hb dX3_pour_38 (by decide) (fun q_4 => ?_) (fun q_4 => ?_)
        · have _ := hx
          refine lv_bipush (v := (-2)) hx hb dX3_pour_54 (by decide) ?_
          exact z_iret hx hb hr hlocks hw dX3_pour_56 (by first | (simp [qPour, q_1, q_2, q_3, q_4]; done) | (simp_all [qPour]; done)) rfl (by first | (simp [qPour, q_1, q_2, q_3, q_4]; done) | (simp_all [qPour]; done))
        · have _ := hx
          refine lv_iload hx hb dX3_pour_41 (lv_at hl 5 rfl) ?_
          refine lv_i2l (v := n.toInt64) hx hb dX3_pour_43 rfl ?_
          refine lv_lconst (v := 0) hx hb dX3_pour_44 (by decide) ?_
          refine lv_ldc2 (v := 12) hx hb hown (hts (.constantLong RX3 59 (12)) (by decide +kernel)) dX3_pour_45 ?_
          refine z_calli (rest := []) (va_runS (As := [.long n.toInt64, .long 0, .long 12]) (rest := []) ⟨hx, hb, hml, hown, hts⟩ (k_X3_beyond l E c mo n.toInt64 0 12 ) (va_cwS 3 hts gX3_pour_X3_beyond rfl rfl rfl (by decide +kernel) ⟨Nat.le_of_ble_eq_true rfl, Nat.le_of_ble_eq_true rfl⟩) (z_preS hw [.long n.toInt64, .long 0, .long 12]) rfl rfl hl.1 rfl (lv_room (Nat.le_of_ble_eq_true rfl)) dX3_pour_48 ⟨Nat.le_of_ble_eq_true rfl, Nat.le_of_ble_eq_true rfl⟩) hw (fun H locs hw => ?_)
          refine lv_if_eq (tgt := 57) hx hb dX3_pour_51 (by decide) (fun q_5 => ?_) (fun q_5 => ?_)
          · have _ := hx
            refine lv_aload_n hx hb dX3_pour_57 rfl (lv_at hl 0 rfl) ?_
            refine lv_iload_n hx hb dX3_pour_58 rfl (lv_at hl 1 rfl) ?_
            refine lv_iload_n hx hb dX3_pour_59 rfl (lv_at hl 2 rfl) ?_
            refine lv_iload_n hx hb dX3_pour_60 rfl (lv_at hl 3 rfl) ?_
            refine lv_iload hx hb dX3_pour_61 (lv_at hl 4 rfl) ?_
            refine lv_iload hx hb dX3_pour_63 (lv_at hl 5 rfl) ?_
            refine z_calli (rest := []) (va_runV (As := [.int d, .int i, .int t, .int j, .int n]) (rest := []) ⟨hx, hb, hml, hown, hts⟩ (k_X3_pours l E c mo d i t j n (fNo_in (by assumption)) (fNo_in (by assumption)) hwm (fBey_in 12 13 (by decide) (by assumption))) (cwV 5 hts gX3_pour_X3_pours rfl rfl rfl (by decide +kernel) ⟨Nat.le_of_ble_eq_true rfl, Nat.le_of_ble_eq_true rfl⟩) (z_preV hw (by decide) zG_32 rfl [.int d, .int i, .int t, .int j, .int n]) rfl rfl hl.1 rfl (lv_room (Nat.le_of_ble_eq_true rfl)) dX3_pour_65 ⟨Nat.le_of_ble_eq_true rfl, Nat.le_of_ble_eq_true rfl⟩) hw (fun H locs hw => ?_)
            refine lv_istore (lv' := [(6, .int ((pPs mo d i t j n).1)), (0, .ref (zl E 32)), (1, .int d), (2, .int i), (3, .int t), (4, .int j), (5, .int n)]) hx hb dX3_pour_68 hl (by decide) rfl (fun ls hl => ?_)
            refine lv_iload hx hb dX3_pour_70 (lv_at hl 0 rfl) ?_
            refine lv_if_le (tgt := 91) hx hb dX3_pour_72 (by decide) (fun q_6 => ?_) (fun q_6 => ?_)
            · have _ := hx
              refine lv_iload hx hb dX3_pour_91 (lv_at hl 6 rfl) ?_
              exact z_iret hx hb hr hlocks hw dX3_pour_93 (by first | (simp [qPour, q_1, q_2, q_3, q_4, q_5, q_6]; done) | (simp_all [qPour]; done)) rfl (by first | (simp [qPour, q_1, q_2, q_3, q_4, q_5, q_6]; done) | (simp_all [qPour]; done))
            · have _ := hx
              refine lv_aload_n hx hb dX3_pour_75 rfl (lv_at hl 1 rfl) ?_
              refine lv_iload hx hb dX3_pour_76 (lv_at hl 0 rfl) ?_
              refine z_calli (rest := []) (va_runV (As := [.int ((pPs mo d i t j n).1)]) (rest := []) ⟨hx, hb, hml, hown, hts⟩ (k_X3_met1 l E c ((pPs mo d i t j n).2) ((pPs mo d i t j n).1) (psN_5 _ _ _ _ _ _ _).1) (cwV 1 hts gX3_pour_X3_met1 rfl rfl rfl (by decide +kernel) ⟨Nat.le_of_ble_eq_true rfl, Nat.le_of_ble_eq_true rfl⟩) (z_preV hw (by decide) zG_32 rfl [.int ((pPs mo d i t j n).1)]) rfl rfl hl.1 rfl (lv_room (Nat.le_of_ble_eq_true rfl)) dX3_pour_78 ⟨Nat.le_of_ble_eq_true rfl, Nat.le_of_ble_eq_true rfl⟩) hw (fun H locs hw => ?_)
              refine lv_istore (lv' := [(6, .int ((pPs mo d i t j n).1)), (0, .ref (zl E 32)), (1, .int d), (2, .int i), (3, .int t), (4, .int j), (5, .int n)]) hx hb dX3_pour_81 hl (by decide) rfl (fun ls hl => ?_)
              refine lv_aload_n hx hb dX3_pour_83 rfl (lv_at hl 1 rfl) ?_
              refine z_get (i := 32) hx hb hts hin3 hown hw (by decide) zG_32 rfl 17 (by decide) (hts (.fieldLink RX3 114 "SeedDrawersModel" "poured" "I") (by decide +kernel)) rfl rfl dX3_pour_84 ?_
              refine lv_bipush (v := 100) hx hb dX3_pour_87 (by decide) ?_
              refine lv_isub hx hb dX3_pour_89 ?_
              exact z_iret hx hb hr hlocks hw dX3_pour_90 (by first | (simp [qPour, q_1, q_2, q_3, q_4, q_5, q_6]; done) | (simp_all [qPour]; done)) rfl (by first | (simp [qPour, q_1, q_2, q_3, q_4, q_5, q_6]; done) | (simp_all [qPour]; done))
          · have _ := hx
            refine lv_bipush (v := (-2)) hx hb dX3_pour_54 (by decide) ?_
            exact z_iret hx hb hr hlocks hw dX3_pour_56 (by first | (simp [qPour, q_1, q_2, q_3, q_4, q_5]; done) | (simp_all [qPour]; done)) rfl (by first | (simp [qPour, q_1, q_2, q_3, q_4, q_5]; done) | (simp_all [qPour]; done))
    · have _ := hx
      refine lv_iconst (v := (-1)) hx hb dX3_pour_14 (by decide) ?_
      exact z_iret hx hb hr hlocks hw dX3_pour_15 (by first | (simp [qPour, q_1, q_2]; done) | (simp_all [qPour]; done)) rfl (by first | (simp [qPour, q_1, q_2]; done) | (simp_all [qPour]; done))
set_option maxHeartbeats 4000000 in
set_option maxRecDepth 100000 in
theorem k_X3_swaps (l : Launch) (E : zE) (c : zC) (mo : zM) (a : Int32) (i : Int32) (b : Int32) (j : Int32) (ha : vp_in a 8) (hb_ : vp_in b 8) (hwm : wfM mo) : Met l yX3_swaps wsX3_swaps (zR 3 72) (zP E c mo [.ref (zl E 32), .int a, .int i, .int b, .int j]) (cQi E (gSw mo a i b j) c (gSws mo a i b j)) 0 0 (zA E) := by
  refine z_ent (cc := cX3_swaps) (maxL := 8) (ret := (some .int)) (vs := [.ref (zl E 32), .int a, .int i, .int b, .int j]) (by decide) rfl (Nat.le_of_ble_eq_true rfl) ?_
  intro p e s m below meth cd ls hx hb hr hml hown hts hlocks hl hw
  have hl : lv_has ls 8 [(0, .ref (zl E 32)), (1, .int a), (2, .int i), (3, .int b), (4, .int j)] := hl
  have hown : s.vm.findClass RX3 = some m.cls := hown
  have hin3 : ∀ w ∈ u_ws RX3 TX3 18, w ∈ wsX3_swaps := by decide +kernel
  refine lv_aload_n hx hb dX3_swaps_0 rfl (lv_at hl 0 rfl) ?_
  refine lv_iload_n hx hb dX3_swaps_1 rfl (lv_at hl 1 rfl) ?_
  refine lv_iload_n hx hb dX3_swaps_2 rfl (lv_at hl 2 rfl) ?_
  refine z_calli (rest := []) (va_runV (As := [.int a, .int i]) (rest := []) ⟨hx, hb, hml, hown, hts⟩ (k_X3_come l E c mo a i ha hwm) (cwV 2 hts gX3_swaps_X3_come rfl rfl rfl (by decide +kernel) ⟨Nat.le_of_ble_eq_true rfl, Nat.le_of_ble_eq_true rfl⟩) (z_preV hw (by decide) zG_32 rfl [.int a, .int i]) rfl rfl hl.1 rfl (lv_room (Nat.le_of_ble_eq_true rfl)) dX3_swaps_3 ⟨Nat.le_of_ble_eq_true rfl, Nat.le_of_ble_eq_true rfl⟩) hw (fun H locs hw => ?_)
  refine lv_istore (lv' := [(5, .int (gCome mo a i)), (0, .ref (zl E 32)), (1, .int a), (2, .int i), (3, .int b), (4, .int j)]) hx hb dX3_swaps_6 hl (by decide) rfl (fun ls hl => ?_)
  refine lv_iload hx hb dX3_swaps_8 (lv_at hl 0 rfl) ?_
  refine lv_if_le (tgt := 18) hx hb dX3_swaps_10 (by decide) (fun q_1 => ?_) (fun q_1 => ?_)
  · have _ := hx
    refine lv_aload_n hx hb dX3_swaps_18 rfl (lv_at hl 1 rfl) ?_
    refine lv_iload_n hx hb dX3_swaps_19 rfl (lv_at hl 4 rfl) ?_
    refine lv_iload hx hb dX3_swaps_20 (lv_at hl 5 rfl) ?_
    refine z_calli (rest := []) (va_runV (As := [.int b, .int j]) (rest := []) ⟨hx, hb, hml, hown, hts⟩ (k_X3_come l E c mo b j hb_ hwm) (cwV 2 hts gX3_swaps_X3_come rfl rfl rfl (by decide +kernel) ⟨Nat.le_of_ble_eq_true rfl, Nat.le_of_ble_eq_true rfl⟩) (z_preV hw (by decide) zG_32 rfl [.int b, .int j]) rfl rfl hl.1 rfl (lv_room (Nat.le_of_ble_eq_true rfl)) dX3_swaps_22 ⟨Nat.le_of_ble_eq_true rfl, Nat.le_of_ble_eq_true rfl⟩) hw (fun H locs hw => ?_)
    refine lv_istore (lv' := [(5, .int (gCome mo b j)), (0, .ref (zl E 32)), (1, .int a), (2, .int i), (3, .int b), (4, .int j)]) hx hb dX3_swaps_25 hl (by decide) rfl (fun ls hl => ?_)
    refine lv_iload hx hb dX3_swaps_27 (lv_at hl 0 rfl) ?_
    refine lv_if_le (tgt := 37) hx hb dX3_swaps_29 (by decide) (fun q_2 => ?_) (fun q_2 => ?_)
    · have _ := hx
      refine lv_aload_n hx hb dX3_swaps_37 rfl (lv_at hl 1 rfl) ?_
      refine lv_iload_n hx hb dX3_swaps_38 rfl (lv_at hl 2 rfl) ?_
      refine lv_iload_n hx hb dX3_swaps_39 rfl (lv_at hl 3 rfl) ?_
      refine lv_aload_n hx hb dX3_swaps_40 rfl (lv_at hl 1 rfl) ?_
      refine lv_iload_n hx hb dX3_swaps_41 rfl (lv_at hl 4 rfl) ?_
      refine lv_iload hx hb dX3_swaps_42 (lv_at hl 5 rfl) ?_
      refine z_calli (rest := [.int i, .int a, .ref (zl E 32)]) (va_runV (As := [.int b, .int j]) (rest := [.int i, .int a, .ref (zl E 32)]) ⟨hx, hb, hml, hown, hts⟩ (k_X3_kindAt l E c mo b j hb_ (gCome_in (by assumption) hwm hb_) hwm) (cwV 2 hts gX3_swaps_X3_kindAt rfl rfl rfl (by decide +kernel) ⟨Nat.le_of_ble_eq_true rfl, Nat.le_of_ble_eq_true rfl⟩) (z_preV hw (by decide) zG_32 rfl [.int b, .int j]) rfl rfl hl.1 rfl (lv_room (Nat.le_of_ble_eq_true rfl)) dX3_swaps_44 ⟨Nat.le_of_ble_eq_true rfl, Nat.le_of_ble_eq_true rfl⟩) hw (fun H locs hw => ?_)
      refine z_calli (rest := []) (va_runV (As := [.int a, .int i, .int (gKind mo b j)]) (rest := []) ⟨hx, hb, hml, hown, hts⟩ (k_X3_laying l E c mo a i (gKind mo b j) ha hwm) (cwV 3 hts gX3_swaps_X3_laying rfl rfl rfl (by decide +kernel) ⟨Nat.le_of_ble_eq_true rfl, Nat.le_of_ble_eq_true rfl⟩) (z_preV hw (by decide) zG_32 rfl [.int a, .int i, .int (gKind mo b j)]) rfl rfl hl.1 rfl (lv_room (Nat.le_of_ble_eq_true rfl)) dX3_swaps_47 ⟨Nat.le_of_ble_eq_true rfl, Nat.le_of_ble_eq_true rfl⟩) hw (fun H locs hw => ?_)
      refine lv_istore (lv' := [(5, .int (gLay mo a i (gKind mo b j))), (0, .ref (zl E 32)), (1, .int a), (2, .int i), (3, .int b), (4, .int j)]) hx hb dX3_swaps_50 hl (by decide) rfl (fun ls hl => ?_)
      refine lv_iload hx hb dX3_swaps_52 (lv_at hl 0 rfl) ?_
      refine lv_if_le (tgt := 62) hx hb dX3_swaps_54 (by decide) (fun q_3 => ?_) (fun q_3 => ?_)
      · have _ := hx
        refine lv_aload_n hx hb dX3_swaps_62 rfl (lv_at hl 1 rfl) ?_
        refine lv_iload_n hx hb dX3_swaps_63 rfl (lv_at hl 4 rfl) ?_
        refine lv_iload hx hb dX3_swaps_64 (lv_at hl 5 rfl) ?_
        refine lv_aload_n hx hb dX3_swaps_66 rfl (lv_at hl 1 rfl) ?_
        refine lv_iload_n hx hb dX3_swaps_67 rfl (lv_at hl 2 rfl) ?_
        refine lv_iload_n hx hb dX3_swaps_68 rfl (lv_at hl 3 rfl) ?_
        refine z_calli (rest := [.int j, .int b, .ref (zl E 32)]) (va_runV (As := [.int a, .int i]) (rest := [.int j, .int b, .ref (zl E 32)]) ⟨hx, hb, hml, hown, hts⟩ (k_X3_kindAt l E c mo a i ha (gCome_in (by assumption) hwm ha) hwm) (cwV 2 hts gX3_swaps_X3_kindAt rfl rfl rfl (by decide +kernel) ⟨Nat.le_of_ble_eq_true rfl, Nat.le_of_ble_eq_true rfl⟩) (z_preV hw (by decide) zG_32 rfl [.int a, .int i]) rfl rfl hl.1 rfl (lv_room (Nat.le_of_ble_eq_true rfl)) dX3_swaps_69 ⟨Nat.le_of_ble_eq_true rfl, Nat.le_of_ble_eq_true rfl⟩) hw (fun H locs hw => ?_)
        refine z_calli (rest := []) (va_runV (As := [.int b, .int j, .int (gKind mo a i)]) (rest := []) ⟨hx, hb, hml, hown, hts⟩ (k_X3_laying l E c mo b j (gKind mo a i) hb_ hwm) (cwV 3 hts gX3_swaps_X3_laying rfl rfl rfl (by decide +kernel) ⟨Nat.le_of_ble_eq_true rfl, Nat.le_of_ble_eq_true rfl⟩) (z_preV hw (by decide) zG_32 rfl [.int b, .int j, .int (gKind mo a i)]) rfl rfl hl.1 rfl (lv_room (Nat.le_of_ble_eq_true rfl)) dX3_swaps_72 ⟨Nat.le_of_ble_eq_true rfl, Nat.le_of_ble_eq_true rfl⟩) hw (fun H locs hw => ?_)
        refine lv_istore (lv' := [(5, .int (gLay mo b j (gKind mo a i))), (0, .ref (zl E 32)), (1, .int a), (2, .int i), (3, .int b), (4, .int j)]) hx hb dX3_swaps_75 hl (by decide) rfl (fun ls hl => ?_)
        refine lv_iload hx hb dX3_swaps_77 (lv_at hl 0 rfl) ?_
        refine lv_if_ne (tgt := 132) hx hb dX3_swaps_79 (by decide) (fun q_4 => ?_) (fun q_4 => ?_)
        · have _ := hx
          refine lv_iload hx hb dX3_swaps_132 (lv_at hl 0 rfl) ?_
          exact z_iret hx hb hr hlocks hw dX3_swaps_134 (by first | (simp [gSw, gSws, swS, q_1, q_2, q_3, q_4]; done) | (simp [gSw, gSws, swS, q_1, q_2, q_3, q_4, gAt, tJ_1]; done) | (simp_all [gSw, gSws, swS]; done)) rfl (by first | (simp [gSw, gSws, swS, q_1, q_2, q_3, q_4]; done) | (simp [gSw, gSws, swS, q_1, q_2, q_3, q_4, gAt, tJ_1]; done) | (simp_all [gSw, gSws, swS]; done))
        · have _ := hx
          refine lv_aload_n hx hb dX3_swaps_82 rfl (lv_at hl 1 rfl) ?_
          refine z_get (i := 32) hx hb hts hin3 hown hw (by decide) zG_32 rfl 6 (by decide) (hts (.fieldLink RX3 26 "SeedDrawersModel" "place" "[J") (by decide +kernel)) rfl rfl dX3_swaps_83 ?_
          refine lv_aload_n hx hb dX3_swaps_86 rfl (lv_at hl 1 rfl) ?_
          refine lv_iload_n hx hb dX3_swaps_87 rfl (lv_at hl 2 rfl) ?_
          refine lv_iload_n hx hb dX3_swaps_88 rfl (lv_at hl 3 rfl) ?_
          refine z_calli (rest := [.ref (zl E 38)]) (va_runV (As := [.int a, .int i]) (rest := [.ref (zl E 38)]) ⟨hx, hb, hml, hown, hts⟩ (k_X3_at l E c mo a i ha) (cwV 2 hts gX3_swaps_X3_at rfl rfl rfl (by decide +kernel) ⟨Nat.le_of_ble_eq_true rfl, Nat.le_of_ble_eq_true rfl⟩) (z_preV hw (by decide) zG_32 rfl [.int a, .int i]) rfl rfl hl.1 rfl (lv_room (Nat.le_of_ble_eq_true rfl)) dX3_swaps_89 ⟨Nat.le_of_ble_eq_true rfl, Nat.le_of_ble_eq_true rfl⟩) hw (fun H locs hw => ?_)
          refine y_lald (i := 38) hx hb hw (by decide) zG_38 (gAt_in (show vp_in (mo.1 35 a.toNatClampNeg) 5000 from wfM_r hwm ha) (gCome_in (by assumption) hwm ha)) (k := (gAt mo a i).toNatClampNeg) rfl dX3_swaps_92 ?_
          refine lv_lstore (lv' := [(6, .long (mo.2 38 ((gAt mo a i).toNatClampNeg))), (5, .int (gLay mo b j (gKind mo a i))), (0, .ref (zl E 32)), (1, .int a), (2, .int i), (3, .int b), (4, .int j)]) hx hb dX3_swaps_93 hl (by decide) rfl (fun ls hl => ?_)
          refine lv_aload_n hx hb dX3_swaps_95 rfl (lv_at hl 2 rfl) ?_
          refine z_get (i := 32) hx hb hts hin3 hown hw (by decide) zG_32 rfl 6 (by decide) (hts (.fieldLink RX3 26 "SeedDrawersModel" "place" "[J") (by decide +kernel)) rfl rfl dX3_swaps_96 ?_
          refine lv_aload_n hx hb dX3_swaps_99 rfl (lv_at hl 2 rfl) ?_
          refine lv_iload_n hx hb dX3_swaps_100 rfl (lv_at hl 3 rfl) ?_
          refine lv_iload_n hx hb dX3_swaps_101 rfl (lv_at hl 4 rfl) ?_
          refine z_calli (rest := [.ref (zl E 38)]) (va_runV (As := [.int a, .int i]) (rest := [.ref (zl E 38)]) ⟨hx, hb, hml, hown, hts⟩ (k_X3_at l E c mo a i ha) (cwV 2 hts gX3_swaps_X3_at rfl rfl rfl (by decide +kernel) ⟨Nat.le_of_ble_eq_true rfl, Nat.le_of_ble_eq_true rfl⟩) (z_preV hw (by decide) zG_32 rfl [.int a, .int i]) rfl rfl hl.1 rfl (lv_room (Nat.le_of_ble_eq_true rfl)) dX3_swaps_102 ⟨Nat.le_of_ble_eq_true rfl, Nat.le_of_ble_eq_true rfl⟩) hw (fun H locs hw => ?_)
          refine lv_aload_n hx hb dX3_swaps_105 rfl (lv_at hl 2 rfl) ?_
          refine z_get (i := 32) hx hb hts hin3 hown hw (by decide) zG_32 rfl 6 (by decide) (hts (.fieldLink RX3 26 "SeedDrawersModel" "place" "[J") (by decide +kernel)) rfl rfl dX3_swaps_106 ?_
          refine lv_aload_n hx hb dX3_swaps_109 rfl (lv_at hl 2 rfl) ?_
          refine lv_iload_n hx hb dX3_swaps_110 rfl (lv_at hl 5 rfl) ?_
          refine lv_iload hx hb dX3_swaps_111 (lv_at hl 6 rfl) ?_
          refine z_calli (rest := [.ref (zl E 38), .int (gAt mo a i), .ref (zl E 38)]) (va_runV (As := [.int b, .int j]) (rest := [.ref (zl E 38), .int (gAt mo a i), .ref (zl E 38)]) ⟨hx, hb, hml, hown, hts⟩ (k_X3_at l E c mo b j hb_) (cwV 2 hts gX3_swaps_X3_at rfl rfl rfl (by decide +kernel) ⟨Nat.le_of_ble_eq_true rfl, Nat.le_of_ble_eq_true rfl⟩) (z_preV hw (by decide) zG_32 rfl [.int b, .int j]) rfl rfl hl.1 rfl (lv_room (Nat.le_of_ble_eq_true rfl)) dX3_swaps_113 ⟨Nat.le_of_ble_eq_true rfl, Nat.le_of_ble_eq_true rfl⟩) hw (fun H locs hw => ?_)
          refine y_lald (i := 38) hx hb hw (by decide) zG_38 (gAt_in (show vp_in (mo.1 35 b.toNatClampNeg) 5000 from wfM_r hwm hb_) (gCome_in (by assumption) hwm hb_)) (k := (gAt mo b j).toNatClampNeg) rfl dX3_swaps_116 ?_
          refine y_last38 hx hb hw (gAt_in (show vp_in (mo.1 35 a.toNatClampNeg) 5000 from wfM_r hwm ha) (gCome_in (by assumption) hwm ha)) (k := (gAt mo a i).toNatClampNeg) rfl dX3_swaps_117 (fun H locs hw => ?_)
          refine lv_aload_n hx hb dX3_swaps_118 rfl (lv_at hl 2 rfl) ?_
          refine z_get (i := 32) hx hb hts hin3 hown hw (by decide) zG_32 rfl 6 (by decide) (hts (.fieldLink RX3 26 "SeedDrawersModel" "place" "[J") (by decide +kernel)) rfl rfl dX3_swaps_119 ?_
          refine lv_aload_n hx hb dX3_swaps_122 rfl (lv_at hl 2 rfl) ?_
          refine lv_iload_n hx hb dX3_swaps_123 rfl (lv_at hl 5 rfl) ?_
          refine lv_iload hx hb dX3_swaps_124 (lv_at hl 6 rfl) ?_
          refine z_calli (rest := [.ref (zl E 38)]) (va_runV (As := [.int b, .int j]) (rest := [.ref (zl E 38)]) ⟨hx, hb, hml, hown, hts⟩ (k_X3_at l E c (tJ mo 38 ((gAt mo a i).toNatClampNeg) (mo.2 38 ((gAt mo b j).toNatClampNeg))) b j hb_) (cwV 2 hts gX3_swaps_X3_at rfl rfl rfl (by decide +kernel) ⟨Nat.le_of_ble_eq_true rfl, Nat.le_of_ble_eq_true rfl⟩) (z_preV hw (by decide) zG_32 rfl [.int b, .int j]) rfl rfl hl.1 rfl (lv_room (Nat.le_of_ble_eq_true rfl)) dX3_swaps_126 ⟨Nat.le_of_ble_eq_true rfl, Nat.le_of_ble_eq_true rfl⟩) hw (fun H locs hw => ?_)
          refine lv_lload hx hb dX3_swaps_129 (lv_at hl 0 rfl) ?_
          refine y_last38 hx hb hw (gAt_in (show vp_in (mo.1 35 b.toNatClampNeg) 5000 from wfM_r hwm hb_) (gCome_in (by assumption) hwm hb_)) (k := (gAt (tJ mo 38 ((gAt mo a i).toNatClampNeg) (mo.2 38 ((gAt mo b j).toNatClampNeg))) b j).toNatClampNeg) rfl dX3_swaps_131 (fun H locs hw => ?_)
          refine lv_iload hx hb dX3_swaps_132 (lv_at hl 1 rfl) ?_
          exact z_iret hx hb hr hlocks hw dX3_swaps_134 (by first | (simp [gSw, gSws, swS, q_1, q_2, q_3, q_4]; done) | (simp [gSw, gSws, swS, q_1, q_2, q_3, q_4, gAt, tJ_1]; done) | (simp_all [gSw, gSws, swS]; done)) rfl (by first | (simp [gSw, gSws, swS, q_1, q_2, q_3, q_4]; done) | (simp [gSw, gSws, swS, q_1, q_2, q_3, q_4, gAt, tJ_1]; done) | (simp_all [gSw, gSws, swS]; done))
      · have _ := hx
        refine lv_iload hx hb dX3_swaps_57 (lv_at hl 0 rfl) ?_
        refine lv_goto (tgt := 75) hx hb dX3_swaps_59 (by decide) ?_
        refine lv_istore (lv' := [(5, .int (gLay mo a i (gKind mo b j))), (0, .ref (zl E 32)), (1, .int a), (2, .int i), (3, .int b), (4, .int j)]) hx hb dX3_swaps_75 hl (by decide) rfl (fun ls hl => ?_)
        refine lv_iload hx hb dX3_swaps_77 (lv_at hl 0 rfl) ?_
        refine lv_if_ne (tgt := 132) hx hb dX3_swaps_79 (by decide) (fun q_5 => ?_) (fun q_5 => ?_)
        · have _ := hx
          refine lv_iload hx hb dX3_swaps_132 (lv_at hl 0 rfl) ?_
          exact z_iret hx hb hr hlocks hw dX3_swaps_134 (by first | (simp [gSw, gSws, swS, q_1, q_2, q_3, q_5]; done) | (simp [gSw, gSws, swS, q_1, q_2, q_3, q_5, gAt, tJ_1]; done) | (simp_all [gSw, gSws, swS]; done)) rfl (by first | (simp [gSw, gSws, swS, q_1, q_2, q_3, q_5]; done) | (simp [gSw, gSws, swS, q_1, q_2, q_3, q_5, gAt, tJ_1]; done) | (simp_all [gSw, gSws, swS]; done))
        · exact (absurd (le0 q_5) q_3)
    · have _ := hx
      refine lv_iload hx hb dX3_swaps_32 (lv_at hl 0 rfl) ?_
      refine lv_goto (tgt := 50) hx hb dX3_swaps_34 (by decide) ?_
      refine lv_istore (lv' := [(5, .int (gCome mo b j)), (0, .ref (zl E 32)), (1, .int a), (2, .int i), (3, .int b), (4, .int j)]) hx hb dX3_swaps_50 hl (by decide) rfl (fun ls hl => ?_)
      refine lv_iload hx hb dX3_swaps_52 (lv_at hl 0 rfl) ?_
      refine lv_if_le (tgt := 62) hx hb dX3_swaps_54 (by decide) (fun q_6 => ?_) (fun q_6 => ?_)
      · exact (absurd q_6 q_2)
      · have _ := hx
        refine lv_iload hx hb dX3_swaps_57 (lv_at hl 0 rfl) ?_
        refine lv_goto (tgt := 75) hx hb dX3_swaps_59 (by decide) ?_
        refine lv_istore (lv' := [(5, .int (gCome mo b j)), (0, .ref (zl E 32)), (1, .int a), (2, .int i), (3, .int b), (4, .int j)]) hx hb dX3_swaps_75 hl (by decide) rfl (fun ls hl => ?_)
        refine lv_iload hx hb dX3_swaps_77 (lv_at hl 0 rfl) ?_
        refine lv_if_ne (tgt := 132) hx hb dX3_swaps_79 (by decide) (fun q_7 => ?_) (fun q_7 => ?_)
        · have _ := hx
          refine lv_iload hx hb dX3_swaps_132 (lv_at hl 0 rfl) ?_
          exact z_iret hx hb hr hlocks hw dX3_swaps_134 (by first | (simp [gSw, gSws, swS, q_1, q_2, q_6, q_7]; done) | (simp [gSw, gSws, swS, q_1, q_2, q_6, q_7, gAt, tJ_1]; done) | (simp_all [gSw, gSws, swS]; done)) rfl (by first | (simp [gSw, gSws, swS, q_1, q_2, q_6, q_7]; done) | (simp [gSw, gSws, swS, q_1, q_2, q_6, q_7, gAt, tJ_1]; done) | (simp_all [gSw, gSws, swS]; done))
        · exact (absurd (le0 q_7) q_6)
  · have _ := hx
    refine lv_iload hx hb dX3_swaps_13 (lv_at hl 0 rfl) ?_
    refine lv_goto (tgt := 25) hx hb dX3_swaps_15 (by decide) ?_
    refine lv_istore (lv' := [(5, .int (gCome mo a i)), (0, .ref (zl E 32)), (1, .int a), (2, .int i), (3, .int b), (4, .int j)]) hx hb dX3_swaps_25 hl (by decide) rfl (fun ls hl => ?_)
    refine lv_iload hx hb dX3_swaps_27 (lv_at hl 0 rfl) ?_
    refine lv_if_le (tgt := 37) hx hb dX3_swaps_29 (by decide) (fun q_8 => ?_) (fun q_8 => ?_)
    · exact (absurd q_8 q_1)
    · have _ := hx
      refine lv_iload hx hb dX3_swaps_32 (lv_at hl 0 rfl) ?_
      refine lv_goto (tgt := 50) hx hb dX3_swaps_34 (by decide) ?_
      refine lv_istore (lv' := [(5, .int (gCome mo a i)), (0, .ref (zl E 32)), (1, .int a), (2, .int i), (3, .int b), (4, .int j)]) hx hb dX3_swaps_50 hl (by decide) rfl (fun ls hl => ?_)
      refine lv_iload hx hb dX3_swaps_52 (lv_at hl 0 rfl) ?_
      refine lv_if_le (tgt := 62) hx hb dX3_swaps_54 (by decide) (fun q_9 => ?_) (fun q_9 => ?_)
      · exact (absurd q_9 q_8)
      · have _ := hx
        refine lv_iload hx hb dX3_swaps_57 (lv_at hl 0 rfl) ?_
        refine lv_goto (tgt := 75) hx hb dX3_swaps_59 (by decide) ?_
        refine lv_istore (lv' := [(5, .int (gCome mo a i)), (0, .ref (zl E 32)), (1, .int a), (2, .int i), (3, .int b), (4, .int j)]) hx hb dX3_swaps_75 hl (by decide) rfl (fun ls hl => ?_)
        refine lv_iload hx hb dX3_swaps_77 (lv_at hl 0 rfl) ?_
        refine lv_if_ne (tgt := 132) hx hb dX3_swaps_79 (by decide) (fun q_10 => ?_) (fun q_10 => ?_)
        · have _ := hx
          refine lv_iload hx hb dX3_swaps_132 (lv_at hl 0 rfl) ?_
          exact z_iret hx hb hr hlocks hw dX3_swaps_134 (by first | (simp [gSw, gSws, swS, q_1, q_8, q_9, q_10]; done) | (simp [gSw, gSws, swS, q_1, q_8, q_9, q_10, gAt, tJ_1]; done) | (simp_all [gSw, gSws, swS]; done)) rfl (by first | (simp [gSw, gSws, swS, q_1, q_8, q_9, q_10]; done) | (simp [gSw, gSws, swS, q_1, q_8, q_9, q_10, gAt, tJ_1]; done) | (simp_all [gSw, gSws, swS]; done))
        · exact (absurd (le0 q_10) q_9)
set_option maxHeartbeats 4000000 in
set_option maxRecDepth 100000 in
theorem k_X3_swap (l : Launch) (E : zE) (c : zC) (mo : zM) (a : Int32) (i : Int32) (b : Int32) (j : Int32) (hwm : wfM mo) : Met l yX3_swap wsX3_swap (zR 4 99) (zP E c mo [.ref (zl E 32), .int a, .int i, .int b, .int j]) (cQi E (hSwap mo a i b j) c (tSwap mo a i b j)) 0 0 (zA E) := by
  refine z_ent (cc := cX3_swap) (maxL := 5) (ret := (some .int)) (vs := [.ref (zl E 32), .int a, .int i, .int b, .int j]) (by decide) rfl (Nat.le_of_ble_eq_true rfl) ?_
  intro p e s m below meth cd ls hx hb hr hml hown hts hlocks hl hw
  have hl : lv_has ls 5 [(0, .ref (zl E 32)), (1, .int a), (2, .int i), (3, .int b), (4, .int j)] := hl
  have hown : s.vm.findClass RX3 = some m.cls := hown
  refine lv_iload_n hx hb dX3_swap_0 rfl (lv_at hl 1 rfl) ?_
  refine z_calli (rest := []) (va_runS (As := [.int a]) (rest := []) ⟨hx, hb, hml, hown, hts⟩ (k_X3_no l E c mo a ) (va_cwS 1 hts gX3_swap_X3_no rfl rfl rfl (by decide +kernel) ⟨Nat.le_of_ble_eq_true rfl, Nat.le_of_ble_eq_true rfl⟩) (z_preS hw [.int a]) rfl rfl hl.1 rfl (lv_room (Nat.le_of_ble_eq_true rfl)) dX3_swap_1 ⟨Nat.le_of_ble_eq_true rfl, Nat.le_of_ble_eq_true rfl⟩) hw (fun H locs hw => ?_)
  refine lv_if_ne (tgt := 14) hx hb dX3_swap_4 (by decide) (fun q_1 => ?_) (fun q_1 => ?_)
  · have _ := hx
    refine lv_iconst (v := (-1)) hx hb dX3_swap_14 (by decide) ?_
    exact z_iret hx hb hr hlocks hw dX3_swap_15 (by first | (simp [hSwap, tSwap, q_1]; done) | (simp_all [hSwap, tSwap]; done)) rfl (by first | (simp [hSwap, tSwap, q_1]; done) | (simp_all [hSwap, tSwap]; done))
  · have _ := hx
    refine lv_iload_n hx hb dX3_swap_7 rfl (lv_at hl 3 rfl) ?_
    refine z_calli (rest := []) (va_runS (As := [.int b]) (rest := []) ⟨hx, hb, hml, hown, hts⟩ (k_X3_no l E c mo b ) (va_cwS 1 hts gX3_swap_X3_no rfl rfl rfl (by decide +kernel) ⟨Nat.le_of_ble_eq_true rfl, Nat.le_of_ble_eq_true rfl⟩) (z_preS hw [.int b]) rfl rfl hl.1 rfl (lv_room (Nat.le_of_ble_eq_true rfl)) dX3_swap_8 ⟨Nat.le_of_ble_eq_true rfl, Nat.le_of_ble_eq_true rfl⟩) hw (fun H locs hw => ?_)
    refine lv_if_eq (tgt := 16) hx hb dX3_swap_11 (by decide) (fun q_2 => ?_) (fun q_2 => ?_)
    · have _ := hx
      refine lv_aload_n hx hb dX3_swap_16 rfl (lv_at hl 0 rfl) ?_
      refine lv_aload_n hx hb dX3_swap_17 rfl (lv_at hl 0 rfl) ?_
      refine lv_iload_n hx hb dX3_swap_18 rfl (lv_at hl 1 rfl) ?_
      refine lv_iload_n hx hb dX3_swap_19 rfl (lv_at hl 2 rfl) ?_
      refine lv_iload_n hx hb dX3_swap_20 rfl (lv_at hl 3 rfl) ?_
      refine lv_iload hx hb dX3_swap_21 (lv_at hl 4 rfl) ?_
      refine z_calli (rest := [.ref (zl E 32)]) (va_runV (As := [.int a, .int i, .int b, .int j]) (rest := [.ref (zl E 32)]) ⟨hx, hb, hml, hown, hts⟩ (k_X3_swaps l E c mo a i b j (fNo_in (by assumption)) (fNo_in (by assumption)) hwm) (cwV 4 hts gX3_swap_X3_swaps rfl rfl rfl (by decide +kernel) ⟨Nat.le_of_ble_eq_true rfl, Nat.le_of_ble_eq_true rfl⟩) (z_preV hw (by decide) zG_32 rfl [.int a, .int i, .int b, .int j]) rfl rfl hl.1 rfl (lv_room (Nat.le_of_ble_eq_true rfl)) dX3_swap_23 ⟨Nat.le_of_ble_eq_true rfl, Nat.le_of_ble_eq_true rfl⟩) hw (fun H locs hw => ?_)
      refine lv_iconst (v := 1) hx hb dX3_swap_26 (by decide) ?_
      refine z_calli (rest := []) (va_runV (As := [.int (gSw mo a i b j), .int 1]) (rest := []) ⟨hx, hb, hml, hown, hts⟩ (k_X3_answer l E c (gSws mo a i b j) (gSw mo a i b j) 1 (gSw_5 _ _ _ _ _)) (cwV 2 hts gX3_swap_X3_answer rfl rfl rfl (by decide +kernel) ⟨Nat.le_of_ble_eq_true rfl, Nat.le_of_ble_eq_true rfl⟩) (z_preV hw (by decide) zG_32 rfl [.int (gSw mo a i b j), .int 1]) rfl rfl hl.1 rfl (lv_room (Nat.le_of_ble_eq_true rfl)) dX3_swap_27 ⟨Nat.le_of_ble_eq_true rfl, Nat.le_of_ble_eq_true rfl⟩) hw (fun H locs hw => ?_)
      exact z_iret hx hb hr hlocks hw dX3_swap_30 (by first | (simp [hSwap, tSwap, q_1, q_2]; done) | (simp_all [hSwap, tSwap]; done)) rfl (by first | (simp [hSwap, tSwap, q_1, q_2]; done) | (simp_all [hSwap, tSwap]; done))
    · have _ := hx
      refine lv_iconst (v := (-1)) hx hb dX3_swap_14 (by decide) ?_
      exact z_iret hx hb hr hlocks hw dX3_swap_15 (by first | (simp [hSwap, tSwap, q_1, q_2]; done) | (simp_all [hSwap, tSwap]; done)) rfl (by first | (simp [hSwap, tSwap, q_1, q_2]; done) | (simp_all [hSwap, tSwap]; done))
end
section
theorem tr_in {sz : Int32} {n k : Nat} (h : sz = nI n) (hn : n ≤ 12) (hk : k < n) : vp_in (sz - 1 - nI k) 12 := rv_in h hk hn
theorem gS_ok {m : zM} (w : wfM m) {d : Int32} (hd : vp_in d 8) : gS m d = nI (gS m d).toNatClampNeg ∧ (gS m d).toNatClampNeg ≤ 12 := by
  have h := w.2.1 _ (in_lt (wfM_r w hd))
  have h2 := in_lt h
  exact ⟨in_nI h (by decide), Nat.le_of_lt_succ h2⟩
set_option maxHeartbeats 4000000 in
set_option maxRecDepth 100000 in
theorem k_X3_turns (l : Launch) (E : zE) (c : zC) (mo : zM) (d : Int32) (hd : vp_in d 8) (hwm : wfM mo) : Met l yX3_turns wsX3_turns (zR 1 22) (zP E c mo [.ref (zl E 32), .int d]) (cQi E (gRow mo d) c (gTur mo d)) 0 0 (zA E) := by
  refine z_ent (cc := cX3_turns) (maxL := 7) (ret := (some .int)) (vs := [.ref (zl E 32), .int d]) (by decide) rfl (Nat.le_of_ble_eq_true rfl) ?_
  intro p e s m below meth cd ls hx hb hr hml hown hts hlocks hl hw
  have hl : lv_has ls 7 [(0, .ref (zl E 32)), (1, .int d)] := hl
  have hown : s.vm.findClass RX3 = some m.cls := hown
  have hin3 : ∀ w ∈ u_ws RX3 TX3 18, w ∈ wsX3_turns := by decide +kernel
  obtain ⟨hS1, hS2⟩ := gS_ok hwm hd
  have hS3 : gS mo d / 2 = nI ((gS mo d).toNatClampNeg / 2) := by rw [hS1]; rw [nI_clamp (by omega)]; exact pk_div (a := (gS mo d).toNatClampNeg) (d := 2) (by omega) (by omega) (by omega)
  refine lv_aload_n hx hb dX3_turns_0 rfl (lv_at hl 0 rfl) ?_
  refine lv_iload_n hx hb dX3_turns_1 rfl (lv_at hl 1 rfl) ?_
  refine z_calli (rest := []) (va_runV (As := [.int d]) (rest := []) ⟨hx, hb, hml, hown, hts⟩ (k_X3_rowFault l E c mo d hd) (cwV 1 hts gX3_turns_X3_rowFault rfl rfl rfl (by decide +kernel) ⟨Nat.le_of_ble_eq_true rfl, Nat.le_of_ble_eq_true rfl⟩) (z_preV hw (by decide) zG_32 rfl [.int d]) rfl rfl hl.1 rfl (lv_room (Nat.le_of_ble_eq_true rfl)) dX3_turns_2 ⟨Nat.le_of_ble_eq_true rfl, Nat.le_of_ble_eq_true rfl⟩) hw (fun H locs hw => ?_)
  refine lv_istore_n (lv' := [(2, .int (gRow mo d)), (0, .ref (zl E 32)), (1, .int d)]) hx hb dX3_turns_5 rfl hl (by decide) rfl (fun ls hl => ?_)
  refine lv_iload_n hx hb dX3_turns_6 rfl (lv_at hl 0 rfl) ?_
  refine lv_if_ne (tgt := 99) hx hb dX3_turns_7 (by decide) (fun q_1 => ?_) (fun q_1 => ?_)
  · have _ := hx
    refine lv_iload_n hx hb dX3_turns_99 rfl (lv_at hl 0 rfl) ?_
    exact z_iret hx hb hr hlocks hw dX3_turns_100 (by rfl) rfl (by simp [gTur, q_1])
  · have _ := hx
    refine lv_aload_n hx hb dX3_turns_10 rfl (lv_at hl 1 rfl) ?_
    refine z_get (i := 32) hx hb hts hin3 hown hw (by decide) zG_32 rfl 5 (by decide) (hts (.fieldLink RX3 22 "SeedDrawersModel" "sizeOf" "[I") (by decide +kernel)) rfl rfl dX3_turns_11 ?_
    refine lv_aload_n hx hb dX3_turns_14 rfl (lv_at hl 1 rfl) ?_
    refine z_get (i := 32) hx hb hts hin3 hown hw (by decide) zG_32 rfl 2 (by decide) (hts (.fieldLink RX3 16 "SeedDrawersModel" "rowOf" "[I") (by decide +kernel)) rfl rfl dX3_turns_15 ?_
    refine lv_iload_n hx hb dX3_turns_18 rfl (lv_at hl 2 rfl) ?_
    refine y_iald (i := 35) hx hb hw (by decide) (zG_9 (i := 35) (by decide)) hd (k := d.toNatClampNeg) rfl dX3_turns_19 ?_
    refine y_iald (i := 37) hx hb hw (by decide) (zG_9 (i := 37) (by decide)) (wfM_r hwm hd) (k := (mo.1 35 d.toNatClampNeg).toNatClampNeg) rfl dX3_turns_20 ?_
    refine lv_istore_n (lv' := [(3, .int (mo.1 37 ((mo.1 35 d.toNatClampNeg).toNatClampNeg))), (2, .int (gRow mo d)), (0, .ref (zl E 32)), (1, .int d)]) hx hb dX3_turns_21 rfl hl (by decide) rfl (fun ls hl => ?_)
    refine lv_iconst (v := 0) hx hb dX3_turns_22 (by decide) ?_
    refine lv_istore (lv' := [(4, .int 0), (3, .int (mo.1 37 ((mo.1 35 d.toNatClampNeg).toNatClampNeg))), (2, .int (gRow mo d)), (0, .ref (zl E 32)), (1, .int d)]) hx hb dX3_turns_23 hl (by decide) rfl (fun ls hl => ?_)
    have loop25 : ∀ (n_ : Nat) (k : Nat) (m1 : zM) (H : Heap) (locs : List Loc) (ls : Array Slot), (gS mo d).toNatClampNeg / 2 - k < n_ → (k ≤ (gS mo d).toNatClampNeg / 2) → (wfM m1) → (trN d (gS mo d) ((gS mo d).toNatClampNeg / 2 - k) k m1 = gTur mo d) → zW E c m1 s s.heap H locs → lv_has ls 7 [(4, .int (nI k)), (0, .ref (zl E 32)), (1, .int d), (2, .int (gRow mo d)), (3, .int (gS mo d))] → W p l e (headSpec wsX3_turns (zR 1 22)).room s m ([.ref (zl E 32), .int d] : List Value).toArray below meth cd H locs 0 0 (MQ below (cQi E (gRow mo d) c (gTur mo d)) ([.ref (zl E 32), .int d] : List Value).toArray s 0 0 (zA E)) (F0 m 25 ls []) := by
      intro n_
      induction n_ with
      | zero => intro k m1 H locs ls hn_; exact absurd hn_ (Nat.not_lt_zero _)
      | succ n_ ih =>
        intro k m1 H locs ls hn_ hk hw1 hR hw hl
        refine lv_iload hx hb dX3_turns_25 (lv_at hl 0 rfl) ?_
        refine lv_iload_n hx hb dX3_turns_27 rfl (lv_at hl 4 rfl) ?_
        refine lv_iconst (v := 2) hx hb dX3_turns_28 (by decide) ?_
        refine lv_idiv hx hb dX3_turns_29 (by decide) ?_
        refine lv_icmp_ge (tgt := 99) hx hb dX3_turns_30 (by decide) (fun q_2 => ?_) (fun q_2 => ?_)
        · have _ := hx
          rw [hS3] at q_2
          have hk2 : (gS mo d).toNatClampNeg / 2 ≤ k := le_le q_2 (by omega) (by omega)
          rw [show (gS mo d).toNatClampNeg / 2 - k = 0 by omega] at hR
          refine lv_iload_n hx hb dX3_turns_99 rfl (lv_at hl 3 rfl) ?_
          exact z_iret hx hb hr hlocks hw dX3_turns_100 (by rfl) rfl (by exact hR)
        · have _ := hx
          rw [hS3] at q_2
          have hk2 : k < (gS mo d).toNatClampNeg / 2 := nle_lt q_2 (by omega) (by omega)
          refine lv_aload_n hx hb dX3_turns_33 rfl (lv_at hl 1 rfl) ?_
          refine z_get (i := 32) hx hb hts hin3 hown hw (by decide) zG_32 rfl 6 (by decide) (hts (.fieldLink RX3 26 "SeedDrawersModel" "place" "[J") (by decide +kernel)) rfl rfl dX3_turns_34 ?_
          refine lv_aload_n hx hb dX3_turns_37 rfl (lv_at hl 1 rfl) ?_
          refine lv_iload_n hx hb dX3_turns_38 rfl (lv_at hl 2 rfl) ?_
          refine lv_iload hx hb dX3_turns_39 (lv_at hl 0 rfl) ?_
          refine z_calli (rest := [.ref (zl E 38)]) (va_runV (As := [.int d, .int (nI k)]) (rest := [.ref (zl E 38)]) ⟨hx, hb, hml, hown, hts⟩ (k_X3_at l E c m1 d (nI k) hd) (cwV 2 hts gX3_turns_X3_at rfl rfl rfl (by decide +kernel) ⟨Nat.le_of_ble_eq_true rfl, Nat.le_of_ble_eq_true rfl⟩) (z_preV hw (by decide) zG_32 rfl [.int d, .int (nI k)]) rfl rfl hl.1 rfl (lv_room (Nat.le_of_ble_eq_true rfl)) dX3_turns_41 ⟨Nat.le_of_ble_eq_true rfl, Nat.le_of_ble_eq_true rfl⟩) hw (fun H locs hw => ?_)
          refine y_lald (i := 38) hx hb hw (by decide) zG_38 (gAt_in (show vp_in (m1.1 35 d.toNatClampNeg) 5000 from wfM_r hw1 hd) (vp_in_nI (by omega) (by omega))) (k := (gAt m1 d (nI k)).toNatClampNeg) rfl dX3_turns_44 ?_
          refine lv_lstore (lv' := [(5, .long (m1.2 38 ((gAt m1 d (nI k)).toNatClampNeg))), (4, .int (nI k)), (0, .ref (zl E 32)), (1, .int d), (2, .int (gRow mo d)), (3, .int (gS mo d))]) hx hb dX3_turns_45 hl (by decide) rfl (fun ls hl => ?_)
          refine lv_aload_n hx hb dX3_turns_47 rfl (lv_at hl 2 rfl) ?_
          refine z_get (i := 32) hx hb hts hin3 hown hw (by decide) zG_32 rfl 6 (by decide) (hts (.fieldLink RX3 26 "SeedDrawersModel" "place" "[J") (by decide +kernel)) rfl rfl dX3_turns_48 ?_
          refine lv_aload_n hx hb dX3_turns_51 rfl (lv_at hl 2 rfl) ?_
          refine lv_iload_n hx hb dX3_turns_52 rfl (lv_at hl 3 rfl) ?_
          refine lv_iload hx hb dX3_turns_53 (lv_at hl 1 rfl) ?_
          refine z_calli (rest := [.ref (zl E 38)]) (va_runV (As := [.int d, .int (nI k)]) (rest := [.ref (zl E 38)]) ⟨hx, hb, hml, hown, hts⟩ (k_X3_at l E c m1 d (nI k) hd) (cwV 2 hts gX3_turns_X3_at rfl rfl rfl (by decide +kernel) ⟨Nat.le_of_ble_eq_true rfl, Nat.le_of_ble_eq_true rfl⟩) (z_preV hw (by decide) zG_32 rfl [.int d, .int (nI k)]) rfl rfl hl.1 rfl (lv_room (Nat.le_of_ble_eq_true rfl)) dX3_turns_55 ⟨Nat.le_of_ble_eq_true rfl, Nat.le_of_ble_eq_true rfl⟩) hw (fun H locs hw => ?_)
          refine lv_aload_n hx hb dX3_turns_58 rfl (lv_at hl 2 rfl) ?_
          refine z_get (i := 32) hx hb hts hin3 hown hw (by decide) zG_32 rfl 6 (by decide) (hts (.fieldLink RX3 26 "SeedDrawersModel" "place" "[J") (by decide +kernel)) rfl rfl dX3_turns_59 ?_
          refine lv_aload_n hx hb dX3_turns_62 rfl (lv_at hl 2 rfl) ?_
          refine lv_iload_n hx hb dX3_turns_63 rfl (lv_at hl 3 rfl) ?_
          refine lv_iload_n hx hb dX3_turns_64 rfl (lv_at hl 5 rfl) ?_
          refine lv_iconst (v := 1) hx hb dX3_turns_65 (by decide) ?_
          refine lv_isub hx hb dX3_turns_66 ?_
          refine lv_iload hx hb dX3_turns_67 (lv_at hl 1 rfl) ?_
          refine lv_isub hx hb dX3_turns_69 ?_
          refine z_calli (rest := [.ref (zl E 38), .int (gAt m1 d (nI k)), .ref (zl E 38)]) (va_runV (As := [.int d, .int (((gS mo d) - 1) - (nI k))]) (rest := [.ref (zl E 38), .int (gAt m1 d (nI k)), .ref (zl E 38)]) ⟨hx, hb, hml, hown, hts⟩ (k_X3_at l E c m1 d (((gS mo d) - 1) - (nI k)) hd) (cwV 2 hts gX3_turns_X3_at rfl rfl rfl (by decide +kernel) ⟨Nat.le_of_ble_eq_true rfl, Nat.le_of_ble_eq_true rfl⟩) (z_preV hw (by decide) zG_32 rfl [.int d, .int (((gS mo d) - 1) - (nI k))]) rfl rfl hl.1 rfl (lv_room (Nat.le_of_ble_eq_true rfl)) dX3_turns_70 ⟨Nat.le_of_ble_eq_true rfl, Nat.le_of_ble_eq_true rfl⟩) hw (fun H locs hw => ?_)
          refine y_lald (i := 38) hx hb hw (by decide) zG_38 (gAt_in (show vp_in (m1.1 35 d.toNatClampNeg) 5000 from wfM_r hw1 hd) (tr_in hS1 hS2 (by omega))) (k := (gAt m1 d (((gS mo d) - 1) - (nI k))).toNatClampNeg) rfl dX3_turns_73 ?_
          refine y_last38 hx hb hw (gAt_in (show vp_in (m1.1 35 d.toNatClampNeg) 5000 from wfM_r hw1 hd) (vp_in_nI (by omega) (by omega))) (k := (gAt m1 d (nI k)).toNatClampNeg) rfl dX3_turns_74 (fun H locs hw => ?_)
          refine lv_aload_n hx hb dX3_turns_75 rfl (lv_at hl 2 rfl) ?_
          refine z_get (i := 32) hx hb hts hin3 hown hw (by decide) zG_32 rfl 6 (by decide) (hts (.fieldLink RX3 26 "SeedDrawersModel" "place" "[J") (by decide +kernel)) rfl rfl dX3_turns_76 ?_
          refine lv_aload_n hx hb dX3_turns_79 rfl (lv_at hl 2 rfl) ?_
          refine lv_iload_n hx hb dX3_turns_80 rfl (lv_at hl 3 rfl) ?_
          refine lv_iload_n hx hb dX3_turns_81 rfl (lv_at hl 5 rfl) ?_
          refine lv_iconst (v := 1) hx hb dX3_turns_82 (by decide) ?_
          refine lv_isub hx hb dX3_turns_83 ?_
          refine lv_iload hx hb dX3_turns_84 (lv_at hl 1 rfl) ?_
          refine lv_isub hx hb dX3_turns_86 ?_
          refine z_calli (rest := [.ref (zl E 38)]) (va_runV (As := [.int d, .int (((gS mo d) - 1) - (nI k))]) (rest := [.ref (zl E 38)]) ⟨hx, hb, hml, hown, hts⟩ (k_X3_at l E c (tJ m1 38 ((gAt m1 d (nI k)).toNatClampNeg) (m1.2 38 ((gAt m1 d (((gS mo d) - 1) - (nI k))).toNatClampNeg))) d (((gS mo d) - 1) - (nI k)) hd) (cwV 2 hts gX3_turns_X3_at rfl rfl rfl (by decide +kernel) ⟨Nat.le_of_ble_eq_true rfl, Nat.le_of_ble_eq_true rfl⟩) (z_preV hw (by decide) zG_32 rfl [.int d, .int (((gS mo d) - 1) - (nI k))]) rfl rfl hl.1 rfl (lv_room (Nat.le_of_ble_eq_true rfl)) dX3_turns_87 ⟨Nat.le_of_ble_eq_true rfl, Nat.le_of_ble_eq_true rfl⟩) hw (fun H locs hw => ?_)
          refine lv_lload hx hb dX3_turns_90 (lv_at hl 0 rfl) ?_
          refine y_last38 hx hb hw (gAt_in (show vp_in (m1.1 35 d.toNatClampNeg) 5000 from wfM_r hw1 hd) (tr_in hS1 hS2 (by omega))) (k := (gAt (tJ m1 38 ((gAt m1 d (nI k)).toNatClampNeg) (m1.2 38 ((gAt m1 d (((gS mo d) - 1) - (nI k))).toNatClampNeg))) d (((gS mo d) - 1) - (nI k))).toNatClampNeg) rfl dX3_turns_92 (fun H locs hw => ?_)
          refine lv_iinc (v := (nI (k + 1))) (lv' := [(4, .int (nI (k + 1))), (5, .long (m1.2 38 ((gAt m1 d (nI k)).toNatClampNeg))), (0, .ref (zl E 32)), (1, .int d), (2, .int (gRow mo d)), (3, .int (gS mo d))]) hx hb dX3_turns_93 hl (k := 1) rfl (nI_1 k) (by decide) rfl (fun ls hl => ?_)
          refine lv_goto (tgt := 25) hx hb dX3_turns_96 (by decide) ?_
          rw [show (gS mo d).toNatClampNeg / 2 - k = ((gS mo d).toNatClampNeg / 2 - (k + 1)) + 1 by omega] at hR
          exact ih (k + 1) (tJ (tJ m1 38 ((gAt m1 d (nI k)).toNatClampNeg) (m1.2 38 ((gAt m1 d (((gS mo d) - 1) - (nI k))).toNatClampNeg))) 38 ((gAt (tJ m1 38 ((gAt m1 d (nI k)).toNatClampNeg) (m1.2 38 ((gAt m1 d (((gS mo d) - 1) - (nI k))).toNatClampNeg))) d (((gS mo d) - 1) - (nI k))).toNatClampNeg) (m1.2 38 ((gAt m1 d (nI k)).toNatClampNeg))) _ _ _ (by omega) (by omega) hw1 (by simpa [trN, trS, gAt, tJ_1] using hR) hw (lv_sub hl [0, 2, 3, 4, 5] rfl)
    exact loop25 ((gS mo d).toNatClampNeg / 2 + 1) 0 mo _ _ _ (by omega) (by omega) hwm (by rw [Nat.sub_zero]; simp [gTur, q_1]) hw (lv_sub hl [0, 3, 4, 2, 1] rfl)
set_option maxHeartbeats 4000000 in
set_option maxRecDepth 100000 in
theorem k_X3_turn (l : Launch) (E : zE) (c : zC) (mo : zM) (d : Int32) (hwm : wfM mo) : Met l yX3_turn wsX3_turn (zR 2 48) (zP E c mo [.ref (zl E 32), .int d]) (cQi E (hTurn mo d) c (tTurn mo d)) 0 0 (zA E) := by
  refine z_ent (cc := cX3_turn) (maxL := 3) (ret := (some .int)) (vs := [.ref (zl E 32), .int d]) (by decide) rfl (Nat.le_of_ble_eq_true rfl) ?_
  intro p e s m below meth cd ls hx hb hr hml hown hts hlocks hl hw
  have hl : lv_has ls 3 [(0, .ref (zl E 32)), (1, .int d)] := hl
  have hown : s.vm.findClass RX3 = some m.cls := hown
  have hin3 : ∀ w ∈ u_ws RX3 TX3 18, w ∈ wsX3_turn := by decide +kernel
  refine lv_iload_n hx hb dX3_turn_0 rfl (lv_at hl 1 rfl) ?_
  refine z_calli (rest := []) (va_runS (As := [.int d]) (rest := []) ⟨hx, hb, hml, hown, hts⟩ (k_X3_no l E c mo d ) (va_cwS 1 hts gX3_turn_X3_no rfl rfl rfl (by decide +kernel) ⟨Nat.le_of_ble_eq_true rfl, Nat.le_of_ble_eq_true rfl⟩) (z_preS hw [.int d]) rfl rfl hl.1 rfl (lv_room (Nat.le_of_ble_eq_true rfl)) dX3_turn_1 ⟨Nat.le_of_ble_eq_true rfl, Nat.le_of_ble_eq_true rfl⟩) hw (fun H locs hw => ?_)
  refine lv_if_eq (tgt := 9) hx hb dX3_turn_4 (by decide) (fun q_1 => ?_) (fun q_1 => ?_)
  · have _ := hx
    refine lv_aload_n hx hb dX3_turn_9 rfl (lv_at hl 0 rfl) ?_
    refine lv_iload_n hx hb dX3_turn_10 rfl (lv_at hl 1 rfl) ?_
    refine z_calli (rest := []) (va_runV (As := [.int d]) (rest := []) ⟨hx, hb, hml, hown, hts⟩ (k_X3_turns l E c mo d (fNo_in (by assumption)) hwm) (cwV 1 hts gX3_turn_X3_turns rfl rfl rfl (by decide +kernel) ⟨Nat.le_of_ble_eq_true rfl, Nat.le_of_ble_eq_true rfl⟩) (z_preV hw (by decide) zG_32 rfl [.int d]) rfl rfl hl.1 rfl (lv_room (Nat.le_of_ble_eq_true rfl)) dX3_turn_11 ⟨Nat.le_of_ble_eq_true rfl, Nat.le_of_ble_eq_true rfl⟩) hw (fun H locs hw => ?_)
    refine lv_istore_n (lv' := [(2, .int (gRow mo d)), (0, .ref (zl E 32)), (1, .int d)]) hx hb dX3_turn_14 rfl hl (by decide) rfl (fun ls hl => ?_)
    refine lv_aload_n hx hb dX3_turn_15 rfl (lv_at hl 1 rfl) ?_
    refine lv_iload_n hx hb dX3_turn_16 rfl (lv_at hl 0 rfl) ?_
    refine lv_iload_n hx hb dX3_turn_17 rfl (lv_at hl 0 rfl) ?_
    refine lv_if_le (tgt := 25) hx hb dX3_turn_18 (by decide) (fun q_2 => ?_) (fun q_2 => ?_)
    · have _ := hx
      refine lv_aload_n hx hb dX3_turn_25 rfl (lv_at hl 1 rfl) ?_
      refine z_get (i := 32) hx hb hts hin3 hown hw (by decide) zG_32 rfl 5 (by decide) (hts (.fieldLink RX3 22 "SeedDrawersModel" "sizeOf" "[I") (by decide +kernel)) rfl rfl dX3_turn_26 ?_
      refine lv_aload_n hx hb dX3_turn_29 rfl (lv_at hl 1 rfl) ?_
      refine z_get (i := 32) hx hb hts hin3 hown hw (by decide) zG_32 rfl 2 (by decide) (hts (.fieldLink RX3 16 "SeedDrawersModel" "rowOf" "[I") (by decide +kernel)) rfl rfl dX3_turn_30 ?_
      refine lv_iload_n hx hb dX3_turn_33 rfl (lv_at hl 2 rfl) ?_
      refine y_iald (i := 35) hx hb hw (by decide) (zG_9 (i := 35) (by decide)) (fNo_in (by assumption)) (k := d.toNatClampNeg) rfl dX3_turn_34 ?_
      refine y_iald (i := 37) hx hb hw (by decide) (zG_9 (i := 37) (by decide)) (wfM_r (wfM_sm (Sm_tur mo d) hwm) (fNo_in (by assumption))) (k := ((gTur mo d).1 35 d.toNatClampNeg).toNatClampNeg) rfl dX3_turn_35 ?_
      refine lv_iconst (v := 2) hx hb dX3_turn_36 (by decide) ?_
      refine lv_idiv hx hb dX3_turn_37 (by decide) ?_
      refine z_calli (rest := []) (va_runV (As := [.int (gRow mo d), .int (((gTur mo d).1 37 (((gTur mo d).1 35 d.toNatClampNeg).toNatClampNeg)) / 2)]) (rest := []) ⟨hx, hb, hml, hown, hts⟩ (k_X3_answer l E c (gTur mo d) (gRow mo d) (((gTur mo d).1 37 (((gTur mo d).1 35 d.toNatClampNeg).toNatClampNeg)) / 2) (gRow_5 _ _)) (cwV 2 hts gX3_turn_X3_answer rfl rfl rfl (by decide +kernel) ⟨Nat.le_of_ble_eq_true rfl, Nat.le_of_ble_eq_true rfl⟩) (z_preV hw (by decide) zG_32 rfl [.int (gRow mo d), .int (((gTur mo d).1 37 (((gTur mo d).1 35 d.toNatClampNeg).toNatClampNeg)) / 2)]) rfl rfl hl.1 rfl (lv_room (Nat.le_of_ble_eq_true rfl)) dX3_turn_38 ⟨Nat.le_of_ble_eq_true rfl, Nat.le_of_ble_eq_true rfl⟩) hw (fun H locs hw => ?_)
      exact z_iret hx hb hr hlocks hw dX3_turn_41 (by first | (simp [hTurn, tTurn, q_1, q_2]; done) | (simp_all [hTurn, tTurn]; done)) rfl (by first | (simp [hTurn, tTurn, q_1, q_2]; done) | (simp_all [hTurn, tTurn]; done))
    · have _ := hx
      refine lv_iconst (v := 0) hx hb dX3_turn_21 (by decide) ?_
      refine lv_goto (tgt := 38) hx hb dX3_turn_22 (by decide) ?_
      refine z_calli (rest := []) (va_runV (As := [.int (gRow mo d), .int 0]) (rest := []) ⟨hx, hb, hml, hown, hts⟩ (k_X3_answer l E c (gTur mo d) (gRow mo d) 0 (gRow_5 _ _)) (cwV 2 hts gX3_turn_X3_answer rfl rfl rfl (by decide +kernel) ⟨Nat.le_of_ble_eq_true rfl, Nat.le_of_ble_eq_true rfl⟩) (z_preV hw (by decide) zG_32 rfl [.int (gRow mo d), .int 0]) rfl rfl hl.1 rfl (lv_room (Nat.le_of_ble_eq_true rfl)) dX3_turn_38 ⟨Nat.le_of_ble_eq_true rfl, Nat.le_of_ble_eq_true rfl⟩) hw (fun H locs hw => ?_)
      exact z_iret hx hb hr hlocks hw dX3_turn_41 (by first | (simp [hTurn, tTurn, q_1, q_2]; done) | (simp_all [hTurn, tTurn]; done)) rfl (by first | (simp [hTurn, tTurn, q_1, q_2]; done) | (simp_all [hTurn, tTurn]; done))
  · have _ := hx
    refine lv_iconst (v := (-1)) hx hb dX3_turn_7 (by decide) ?_
    exact z_iret hx hb hr hlocks hw dX3_turn_8 (by first | (simp [hTurn, tTurn, q_1]; done) | (simp_all [hTurn, tTurn]; done)) rfl (by first | (simp [hTurn, tTurn, q_1]; done) | (simp_all [hTurn, tTurn]; done))
set_option maxHeartbeats 4000000 in
set_option maxRecDepth 100000 in
theorem k_X3_sum (l : Launch) (E : zE) (c : zC) (mo : zM) (d : Int32) (hwm : wfM mo) : Met l yX3_sum wsX3_sum (zR 2 45) (zP E c mo [.ref (zl E 32), .int d]) (cQl E (hSum mo d) c (tSum mo d)) 0 0 (zA E) := by
  refine z_ent (cc := cX3_sum) (maxL := 6) (ret := (some .long)) (vs := [.ref (zl E 32), .int d]) (by decide) rfl (Nat.le_of_ble_eq_true rfl) ?_
  intro p e s m below meth cd ls hx hb hr hml hown hts hlocks hl hw
  have hl : lv_has ls 6 [(0, .ref (zl E 32)), (1, .int d)] := hl
  have hown : s.vm.findClass RX3 = some m.cls := hown
  have hin3 : ∀ w ∈ u_ws RX3 TX3 18, w ∈ wsX3_sum := by decide +kernel
  refine lv_iload_n hx hb dX3_sum_0 rfl (lv_at hl 1 rfl) ?_
  refine z_calli (rest := []) (va_runS (As := [.int d]) (rest := []) ⟨hx, hb, hml, hown, hts⟩ (k_X3_no l E c mo d ) (va_cwS 1 hts gX3_sum_X3_no rfl rfl rfl (by decide +kernel) ⟨Nat.le_of_ble_eq_true rfl, Nat.le_of_ble_eq_true rfl⟩) (z_preS hw [.int d]) rfl rfl hl.1 rfl (lv_room (Nat.le_of_ble_eq_true rfl)) dX3_sum_1 ⟨Nat.le_of_ble_eq_true rfl, Nat.le_of_ble_eq_true rfl⟩) hw (fun H locs hw => ?_)
  refine lv_if_eq (tgt := 9) hx hb dX3_sum_4 (by decide) (fun q_1 => ?_) (fun q_1 => ?_)
  · have _ := hx
    refine lv_aload_n hx hb dX3_sum_9 rfl (lv_at hl 0 rfl) ?_
    refine lv_iload_n hx hb dX3_sum_10 rfl (lv_at hl 1 rfl) ?_
    refine z_calli (rest := []) (va_runV (As := [.int d]) (rest := []) ⟨hx, hb, hml, hown, hts⟩ (k_X3_rowFault l E c mo d (fNo_in (by assumption))) (cwV 1 hts gX3_sum_X3_rowFault rfl rfl rfl (by decide +kernel) ⟨Nat.le_of_ble_eq_true rfl, Nat.le_of_ble_eq_true rfl⟩) (z_preV hw (by decide) zG_32 rfl [.int d]) rfl rfl hl.1 rfl (lv_room (Nat.le_of_ble_eq_true rfl)) dX3_sum_11 ⟨Nat.le_of_ble_eq_true rfl, Nat.le_of_ble_eq_true rfl⟩) hw (fun H locs hw => ?_)
    refine lv_istore_n (lv' := [(2, .int (gRow mo d)), (0, .ref (zl E 32)), (1, .int d)]) hx hb dX3_sum_14 rfl hl (by decide) rfl (fun ls hl => ?_)
    refine lv_iload_n hx hb dX3_sum_15 rfl (lv_at hl 0 rfl) ?_
    refine lv_if_le (tgt := 27) hx hb dX3_sum_16 (by decide) (fun q_2 => ?_) (fun q_2 => ?_)
    · have _ := hx
      refine lv_lconst (v := 0) hx hb dX3_sum_27 (by decide) ?_
      refine lv_lstore_n (lv' := [(3, .long 0), (2, .int (gRow mo d)), (0, .ref (zl E 32)), (1, .int d)]) hx hb dX3_sum_28 rfl hl (by decide) rfl (fun ls hl => ?_)
      refine lv_iconst (v := 0) hx hb dX3_sum_29 (by decide) ?_
      refine lv_istore (lv' := [(5, .int 0), (3, .long 0), (2, .int (gRow mo d)), (0, .ref (zl E 32)), (1, .int d)]) hx hb dX3_sum_30 hl (by decide) rfl (fun ls hl => ?_)
      have hd := fNo_in q_1
      obtain ⟨hS1, hS2⟩ := gS_ok hwm hd
      have loop32 : ∀ (n_ : Nat) (k : Nat) (a : Int64) (H : Heap) (locs : List Loc) (ls : Array Slot), (gS mo d).toNatClampNeg - k < n_ → (k ≤ (gS mo d).toNatClampNeg) → (smN mo d ((gS mo d).toNatClampNeg - k) k a = hSum mo d) → zW E c mo s s.heap H locs → lv_has ls 6 [(5, .int (nI k)), (3, .long a), (0, .ref (zl E 32)), (1, .int d)] → W p l e (headSpec wsX3_sum (zR 2 45)).room s m ([.ref (zl E 32), .int d] : List Value).toArray below meth cd H locs 0 0 (MQ below (cQl E (hSum mo d) c (tSum mo d)) ([.ref (zl E 32), .int d] : List Value).toArray s 0 0 (zA E)) (F0 m 32 ls []) := by
        intro n_
        induction n_ with
        | zero => intro k a H locs ls hn_; exact absurd hn_ (Nat.not_lt_zero _)
        | succ n_ ih =>
          intro k a H locs ls hn_ hk hR hw hl
          refine lv_iload hx hb dX3_sum_32 (lv_at hl 0 rfl) ?_
          refine lv_aload_n hx hb dX3_sum_34 rfl (lv_at hl 2 rfl) ?_
          refine z_get (i := 32) hx hb hts hin3 hown hw (by decide) zG_32 rfl 5 (by decide) (hts (.fieldLink RX3 22 "SeedDrawersModel" "sizeOf" "[I") (by decide +kernel)) rfl rfl dX3_sum_35 ?_
          refine lv_aload_n hx hb dX3_sum_38 rfl (lv_at hl 2 rfl) ?_
          refine z_get (i := 32) hx hb hts hin3 hown hw (by decide) zG_32 rfl 2 (by decide) (hts (.fieldLink RX3 16 "SeedDrawersModel" "rowOf" "[I") (by decide +kernel)) rfl rfl dX3_sum_39 ?_
          refine lv_iload_n hx hb dX3_sum_42 rfl (lv_at hl 3 rfl) ?_
          refine y_iald (i := 35) hx hb hw (by decide) (zG_9 (i := 35) (by decide)) hd (k := d.toNatClampNeg) rfl dX3_sum_43 ?_
          refine y_iald (i := 37) hx hb hw (by decide) (zG_9 (i := 37) (by decide)) (wfM_r hwm hd) (k := (mo.1 35 d.toNatClampNeg).toNatClampNeg) rfl dX3_sum_44 ?_
          refine lv_icmp_ge (tgt := 69) hx hb dX3_sum_45 (by decide) (fun q_3 => ?_) (fun q_3 => ?_)
          · have _ := hx
            rw [show mo.1 37 (gR mo d) = nI (gS mo d).toNatClampNeg from hS1] at q_3
            have hk2 : (gS mo d).toNatClampNeg ≤ k := le_le q_3 (by omega) (by omega)
            rw [show (gS mo d).toNatClampNeg - k = 0 by omega] at hR
            refine lv_lload_n hx hb dX3_sum_69 rfl (lv_at hl 1 rfl) ?_
            exact z_lret hx hb hr hlocks hw dX3_sum_70 (by exact hR) rfl (by simp [hSum, tSum, q_1, q_2])
          · have _ := hx
            rw [show mo.1 37 (gR mo d) = nI (gS mo d).toNatClampNeg from hS1] at q_3
            have hk2 : k < (gS mo d).toNatClampNeg := nle_lt q_3 (by omega) (by omega)
            refine lv_lload_n hx hb dX3_sum_48 rfl (lv_at hl 1 rfl) ?_
            refine lv_aload_n hx hb dX3_sum_49 rfl (lv_at hl 2 rfl) ?_
            refine z_get (i := 32) hx hb hts hin3 hown hw (by decide) zG_32 rfl 6 (by decide) (hts (.fieldLink RX3 26 "SeedDrawersModel" "place" "[J") (by decide +kernel)) rfl rfl dX3_sum_50 ?_
            refine lv_aload_n hx hb dX3_sum_53 rfl (lv_at hl 2 rfl) ?_
            refine lv_iload_n hx hb dX3_sum_54 rfl (lv_at hl 3 rfl) ?_
            refine lv_iload hx hb dX3_sum_55 (lv_at hl 0 rfl) ?_
            refine z_calli (rest := [.ref (zl E 38), .long a]) (va_runV (As := [.int d, .int (nI k)]) (rest := [.ref (zl E 38), .long a]) ⟨hx, hb, hml, hown, hts⟩ (k_X3_at l E c mo d (nI k) hd) (cwV 2 hts gX3_sum_X3_at rfl rfl rfl (by decide +kernel) ⟨Nat.le_of_ble_eq_true rfl, Nat.le_of_ble_eq_true rfl⟩) (z_preV hw (by decide) zG_32 rfl [.int d, .int (nI k)]) rfl rfl hl.1 rfl (lv_room (Nat.le_of_ble_eq_true rfl)) dX3_sum_57 ⟨Nat.le_of_ble_eq_true rfl, Nat.le_of_ble_eq_true rfl⟩) hw (fun H locs hw => ?_)
            refine y_lald (i := 38) hx hb hw (by decide) zG_38 (gAt_in (wfM_r hwm hd) (vp_in_nI (by omega) (by omega))) (k := (gAt mo d (nI k)).toNatClampNeg) rfl dX3_sum_60 ?_
            refine lv_ladd hx hb dX3_sum_61 ?_
            refine lv_lstore_n (lv' := [(3, .long (a + (mo.2 38 ((gAt mo d (nI k)).toNatClampNeg)))), (5, .int (nI k)), (0, .ref (zl E 32)), (1, .int d)]) hx hb dX3_sum_62 rfl hl (by decide) rfl (fun ls hl => ?_)
            refine lv_iinc (v := (nI (k + 1))) (lv' := [(5, .int (nI (k + 1))), (3, .long (a + (mo.2 38 ((gAt mo d (nI k)).toNatClampNeg)))), (0, .ref (zl E 32)), (1, .int d)]) hx hb dX3_sum_63 hl (k := 1) rfl (nI_1 k) (by decide) rfl (fun ls hl => ?_)
            refine lv_goto (tgt := 32) hx hb dX3_sum_66 (by decide) ?_
            rw [show (gS mo d).toNatClampNeg - k = ((gS mo d).toNatClampNeg - (k + 1)) + 1 by omega] at hR
            exact ih (k + 1) (a + (mo.2 38 ((gAt mo d (nI k)).toNatClampNeg))) _ _ _ (by omega) (by omega) hR hw (lv_sub hl [0, 1, 2, 3] rfl)
      exact loop32 ((gS mo d).toNatClampNeg + 1) 0 0 _ _ _ (by omega) (by omega) (by rw [Nat.sub_zero]; simp [hSum, q_1, q_2]) hw (lv_sub hl [0, 1, 3, 4] rfl)
    · have _ := hx
      refine lv_aload_n hx hb dX3_sum_19 rfl (lv_at hl 1 rfl) ?_
      refine lv_iload_n hx hb dX3_sum_20 rfl (lv_at hl 0 rfl) ?_
      refine z_calli (rest := []) (va_runV (As := [.int (gRow mo d)]) (rest := []) ⟨hx, hb, hml, hown, hts⟩ (k_X3_met1 l E c mo (gRow mo d) (gRow_5 _ _)) (cwV 1 hts gX3_sum_X3_met1 rfl rfl rfl (by decide +kernel) ⟨Nat.le_of_ble_eq_true rfl, Nat.le_of_ble_eq_true rfl⟩) (z_preV hw (by decide) zG_32 rfl [.int (gRow mo d)]) rfl rfl hl.1 rfl (lv_room (Nat.le_of_ble_eq_true rfl)) dX3_sum_21 ⟨Nat.le_of_ble_eq_true rfl, Nat.le_of_ble_eq_true rfl⟩) hw (fun H locs hw => ?_)
      refine lv_istore_n (lv' := [(2, .int (gRow mo d)), (0, .ref (zl E 32)), (1, .int d)]) hx hb dX3_sum_24 rfl hl (by decide) rfl (fun ls hl => ?_)
      refine lv_lconst (v := 0) hx hb dX3_sum_25 (by decide) ?_
      exact z_lret hx hb hr hlocks hw dX3_sum_26 (by simp [hSum, tSum, q_1, q_2]) rfl (by simp [hSum, tSum, q_1, q_2])
  · have _ := hx
    refine lv_lconst (v := 0) hx hb dX3_sum_7 (by decide) ?_
    exact z_lret hx hb hr hlocks hw dX3_sum_8 (by simp [hSum, tSum, q_1]) rfl (by simp [hSum, tSum, q_1])
end
