section
-- ===== PART A: goes FIRST, ahead of the names: the tables' words, and 'selects' of the private methods out of them =====
/-- a private method of a class that the tables say can be made, by its rows of tables_1 -/
def lw_okq (q : MethodName × Nat) : Prop := (q.1.cls ≠ "java/lang/invoke/MethodHandle" ∧ q.1.cls ≠ "java/lang/invoke/VarHandle") ∧ Cond.instantiable q.1.cls q.2 ∈ tables_1 ∧ Cond.privateMethod q.1 ∈ tables_1 ∧ Cond.instanceMethod q.1 ∈ tables_1
theorem lw_p0 : lw_okq (⟨"DerDesk$Reader", "readValues", "()I"⟩, 10) := ⟨⟨by decide +kernel, by decide +kernel⟩, List.mem_of_getElem? (i := 16) (by decide +kernel), List.mem_of_getElem? (i := 107) (by decide +kernel), List.mem_of_getElem? (i := 108) (by decide +kernel)⟩
theorem lw_p1 : lw_okq (⟨"DerDesk$Reader", "readValue", "(I)I"⟩, 10) := ⟨⟨by decide +kernel, by decide +kernel⟩, List.mem_of_getElem? (i := 16) (by decide +kernel), List.mem_of_getElem? (i := 111) (by decide +kernel), List.mem_of_getElem? (i := 112) (by decide +kernel)⟩
theorem lw_p2 : lw_okq (⟨"DerDesk$Reader", "readIdentifier", "(I)I"⟩, 10) := ⟨⟨by decide +kernel, by decide +kernel⟩, List.mem_of_getElem? (i := 16) (by decide +kernel), List.mem_of_getElem? (i := 115) (by decide +kernel), List.mem_of_getElem? (i := 116) (by decide +kernel)⟩
theorem lw_p3 : lw_okq (⟨"DerDesk$Reader", "offend", "(II)I"⟩, 10) := ⟨⟨by decide +kernel, by decide +kernel⟩, List.mem_of_getElem? (i := 16) (by decide +kernel), List.mem_of_getElem? (i := 119) (by decide +kernel), List.mem_of_getElem? (i := 120) (by decide +kernel)⟩
theorem lw_p4 : lw_okq (⟨"DerDesk$Reader", "readLength", "(I)I"⟩, 10) := ⟨⟨by decide +kernel, by decide +kernel⟩, List.mem_of_getElem? (i := 16) (by decide +kernel), List.mem_of_getElem? (i := 126) (by decide +kernel), List.mem_of_getElem? (i := 127) (by decide +kernel)⟩
theorem lw_p5 : lw_okq (⟨"DerDesk$Reader", "limitHere", "()I"⟩, 10) := ⟨⟨by decide +kernel, by decide +kernel⟩, List.mem_of_getElem? (i := 16) (by decide +kernel), List.mem_of_getElem? (i := 130) (by decide +kernel), List.mem_of_getElem? (i := 131) (by decide +kernel)⟩
theorem lw_p6 : lw_okq (⟨"DerDesk$Reader", "endOf", "(I)I"⟩, 10) := ⟨⟨by decide +kernel, by decide +kernel⟩, List.mem_of_getElem? (i := 16) (by decide +kernel), List.mem_of_getElem? (i := 134) (by decide +kernel), List.mem_of_getElem? (i := 135) (by decide +kernel)⟩
theorem lw_p7 : lw_okq (⟨"DerDesk$Reader", "offendByCutLength", "(I)I"⟩, 10) := ⟨⟨by decide +kernel, by decide +kernel⟩, List.mem_of_getElem? (i := 16) (by decide +kernel), List.mem_of_getElem? (i := 138) (by decide +kernel), List.mem_of_getElem? (i := 139) (by decide +kernel)⟩
theorem lw_p8 : lw_okq (⟨"DerDesk$Reader", "numberAt", "(II)I"⟩, 10) := ⟨⟨by decide +kernel, by decide +kernel⟩, List.mem_of_getElem? (i := 16) (by decide +kernel), List.mem_of_getElem? (i := 142) (by decide +kernel), List.mem_of_getElem? (i := 143) (by decide +kernel)⟩
theorem lw_p9 : lw_okq (⟨"DerDesk$Reader", "checkContents", "(I)I"⟩, 10) := ⟨⟨by decide +kernel, by decide +kernel⟩, List.mem_of_getElem? (i := 16) (by decide +kernel), List.mem_of_getElem? (i := 149) (by decide +kernel), List.mem_of_getElem? (i := 150) (by decide +kernel)⟩
theorem lw_p10 : lw_okq (⟨"DerDesk$Reader", "goOnFrom", "(I)I"⟩, 10) := ⟨⟨by decide +kernel, by decide +kernel⟩, List.mem_of_getElem? (i := 16) (by decide +kernel), List.mem_of_getElem? (i := 165) (by decide +kernel), List.mem_of_getElem? (i := 166) (by decide +kernel)⟩
theorem lw_p11 : lw_okq (⟨"DerDesk$Reader", "leaveSequencesThatEndAt", "(I)V"⟩, 10) := ⟨⟨by decide +kernel, by decide +kernel⟩, List.mem_of_getElem? (i := 16) (by decide +kernel), List.mem_of_getElem? (i := 169) (by decide +kernel), List.mem_of_getElem? (i := 170) (by decide +kernel)⟩
theorem lw_p12 : lw_okq (⟨"DerDesk$Reader", "isNode", "(I)Z"⟩, 10) := ⟨⟨by decide +kernel, by decide +kernel⟩, List.mem_of_getElem? (i := 16) (by decide +kernel), List.mem_of_getElem? (i := 189) (by decide +kernel), List.mem_of_getElem? (i := 190) (by decide +kernel)⟩
theorem lw_p13 : lw_okq (⟨"DerDesk$Reader", "partOf", "(II)J"⟩, 10) := ⟨⟨by decide +kernel, by decide +kernel⟩, List.mem_of_getElem? (i := 16) (by decide +kernel), List.mem_of_getElem? (i := 213) (by decide +kernel), List.mem_of_getElem? (i := 214) (by decide +kernel)⟩
theorem lw_p14 : lw_okq (⟨"DerDesk$Writer", "canHoldValue", "()Z"⟩, 4) := ⟨⟨by decide +kernel, by decide +kernel⟩, List.mem_of_getElem? (i := 60) (by decide +kernel), List.mem_of_getElem? (i := 262) (by decide +kernel), List.mem_of_getElem? (i := 263) (by decide +kernel)⟩
theorem lw_p15 : lw_okq (⟨"DerDesk$Writer", "openTag", "()I"⟩, 4) := ⟨⟨by decide +kernel, by decide +kernel⟩, List.mem_of_getElem? (i := 60) (by decide +kernel), List.mem_of_getElem? (i := 266) (by decide +kernel), List.mem_of_getElem? (i := 267) (by decide +kernel)⟩
def lw_privs_1 : List (MethodName × Nat) := [(⟨"DerDesk$Reader", "readValues", "()I"⟩, 10), (⟨"DerDesk$Reader", "readValue", "(I)I"⟩, 10), (⟨"DerDesk$Reader", "readIdentifier", "(I)I"⟩, 10), (⟨"DerDesk$Reader", "offend", "(II)I"⟩, 10), (⟨"DerDesk$Reader", "readLength", "(I)I"⟩, 10), (⟨"DerDesk$Reader", "limitHere", "()I"⟩, 10), (⟨"DerDesk$Reader", "endOf", "(I)I"⟩, 10), (⟨"DerDesk$Reader", "offendByCutLength", "(I)I"⟩, 10), (⟨"DerDesk$Reader", "numberAt", "(II)I"⟩, 10), (⟨"DerDesk$Reader", "checkContents", "(I)I"⟩, 10), (⟨"DerDesk$Reader", "goOnFrom", "(I)I"⟩, 10), (⟨"DerDesk$Reader", "leaveSequencesThatEndAt", "(I)V"⟩, 10), (⟨"DerDesk$Reader", "isNode", "(I)Z"⟩, 10), (⟨"DerDesk$Reader", "partOf", "(II)J"⟩, 10), (⟨"DerDesk$Writer", "canHoldValue", "()Z"⟩, 4), (⟨"DerDesk$Writer", "openTag", "()I"⟩, 4)]
theorem lw_r1 : ∀ q ∈ lw_privs_1, lw_okq q := List.forall_mem_cons.mpr ⟨lw_p0, List.forall_mem_cons.mpr ⟨lw_p1, List.forall_mem_cons.mpr ⟨lw_p2, List.forall_mem_cons.mpr ⟨lw_p3, List.forall_mem_cons.mpr ⟨lw_p4, List.forall_mem_cons.mpr ⟨lw_p5, List.forall_mem_cons.mpr ⟨lw_p6, List.forall_mem_cons.mpr ⟨lw_p7, List.forall_mem_cons.mpr ⟨lw_p8, List.forall_mem_cons.mpr ⟨lw_p9, List.forall_mem_cons.mpr ⟨lw_p10, List.forall_mem_cons.mpr ⟨lw_p11, List.forall_mem_cons.mpr ⟨lw_p12, List.forall_mem_cons.mpr ⟨lw_p13, List.forall_mem_cons.mpr ⟨lw_p14, List.forall_mem_cons.mpr ⟨lw_p15, fun _ h => absurd h List.not_mem_nil⟩⟩⟩⟩⟩⟩⟩⟩⟩⟩⟩⟩⟩⟩⟩⟩
theorem lw_p16 : lw_okq (⟨"DerDesk$Writer", "hasRoom", "(I)Z"⟩, 4) := ⟨⟨by decide +kernel, by decide +kernel⟩, List.mem_of_getElem? (i := 60) (by decide +kernel), List.mem_of_getElem? (i := 270) (by decide +kernel), List.mem_of_getElem? (i := 271) (by decide +kernel)⟩
theorem lw_p17 : lw_okq (⟨"DerDesk$Writer", "append", "(I)V"⟩, 4) := ⟨⟨by decide +kernel, by decide +kernel⟩, List.mem_of_getElem? (i := 60) (by decide +kernel), List.mem_of_getElem? (i := 274) (by decide +kernel), List.mem_of_getElem? (i := 275) (by decide +kernel)⟩
theorem lw_p18 : lw_okq (⟨"DerDesk$Writer", "openLength", "()I"⟩, 4) := ⟨⟨by decide +kernel, by decide +kernel⟩, List.mem_of_getElem? (i := 60) (by decide +kernel), List.mem_of_getElem? (i := 295) (by decide +kernel), List.mem_of_getElem? (i := 296) (by decide +kernel)⟩
theorem lw_p19 : lw_okq (⟨"DerDesk$Writer", "makeGap", "(II)V"⟩, 4) := ⟨⟨by decide +kernel, by decide +kernel⟩, List.mem_of_getElem? (i := 60) (by decide +kernel), List.mem_of_getElem? (i := 323) (by decide +kernel), List.mem_of_getElem? (i := 324) (by decide +kernel)⟩
theorem lw_p20 : lw_okq (⟨"DerDesk$Writer", "writeLength", "(III)V"⟩, 4) := ⟨⟨by decide +kernel, by decide +kernel⟩, List.mem_of_getElem? (i := 60) (by decide +kernel), List.mem_of_getElem? (i := 327) (by decide +kernel), List.mem_of_getElem? (i := 328) (by decide +kernel)⟩
theorem lw_p21 : lw_okq (⟨"DerDeskModel", "value", "()V"⟩, 22) := ⟨⟨by decide +kernel, by decide +kernel⟩, List.mem_of_getElem? (i := 355) (by decide +kernel), List.mem_of_getElem? (i := 443) (by decide +kernel), List.mem_of_getElem? (i := 444) (by decide +kernel)⟩
theorem lw_p22 : lw_okq (⟨"DerDeskModel", "isMissing", "(II)Z"⟩, 22) := ⟨⟨by decide +kernel, by decide +kernel⟩, List.mem_of_getElem? (i := 355) (by decide +kernel), List.mem_of_getElem? (i := 447) (by decide +kernel), List.mem_of_getElem? (i := 448) (by decide +kernel)⟩
theorem lw_p23 : lw_okq (⟨"DerDeskModel", "fail", "(II)V"⟩, 22) := ⟨⟨by decide +kernel, by decide +kernel⟩, List.mem_of_getElem? (i := 355) (by decide +kernel), List.mem_of_getElem? (i := 451) (by decide +kernel), List.mem_of_getElem? (i := 452) (by decide +kernel)⟩
theorem lw_p24 : lw_okq (⟨"DerDeskModel", "length", "(I)I"⟩, 22) := ⟨⟨by decide +kernel, by decide +kernel⟩, List.mem_of_getElem? (i := 355) (by decide +kernel), List.mem_of_getElem? (i := 458) (by decide +kernel), List.mem_of_getElem? (i := 459) (by decide +kernel)⟩
theorem lw_p25 : lw_okq (⟨"DerDeskModel", "isRight", "(II)Z"⟩, 22) := ⟨⟨by decide +kernel, by decide +kernel⟩, List.mem_of_getElem? (i := 355) (by decide +kernel), List.mem_of_getElem? (i := 462) (by decide +kernel), List.mem_of_getElem? (i := 463) (by decide +kernel)⟩
theorem lw_p26 : lw_okq (⟨"DerDeskModel", "isNode", "(I)Z"⟩, 22) := ⟨⟨by decide +kernel, by decide +kernel⟩, List.mem_of_getElem? (i := 355) (by decide +kernel), List.mem_of_getElem? (i := 478) (by decide +kernel), List.mem_of_getElem? (i := 479) (by decide +kernel)⟩
theorem lw_p27 : lw_okq (⟨"DerDeskModel", "openTag", "()I"⟩, 22) := ⟨⟨by decide +kernel, by decide +kernel⟩, List.mem_of_getElem? (i := 355) (by decide +kernel), List.mem_of_getElem? (i := 521) (by decide +kernel), List.mem_of_getElem? (i := 522) (by decide +kernel)⟩
def lw_privs_2 : List (MethodName × Nat) := [(⟨"DerDesk$Writer", "hasRoom", "(I)Z"⟩, 4), (⟨"DerDesk$Writer", "append", "(I)V"⟩, 4), (⟨"DerDesk$Writer", "openLength", "()I"⟩, 4), (⟨"DerDesk$Writer", "makeGap", "(II)V"⟩, 4), (⟨"DerDesk$Writer", "writeLength", "(III)V"⟩, 4), (⟨"DerDeskModel", "value", "()V"⟩, 22), (⟨"DerDeskModel", "isMissing", "(II)Z"⟩, 22), (⟨"DerDeskModel", "fail", "(II)V"⟩, 22), (⟨"DerDeskModel", "length", "(I)I"⟩, 22), (⟨"DerDeskModel", "isRight", "(II)Z"⟩, 22), (⟨"DerDeskModel", "isNode", "(I)Z"⟩, 22), (⟨"DerDeskModel", "openTag", "()I"⟩, 22)]
theorem lw_r2 : ∀ q ∈ lw_privs_2, lw_okq q := List.forall_mem_cons.mpr ⟨lw_p16, List.forall_mem_cons.mpr ⟨lw_p17, List.forall_mem_cons.mpr ⟨lw_p18, List.forall_mem_cons.mpr ⟨lw_p19, List.forall_mem_cons.mpr ⟨lw_p20, List.forall_mem_cons.mpr ⟨lw_p21, List.forall_mem_cons.mpr ⟨lw_p22, List.forall_mem_cons.mpr ⟨lw_p23, List.forall_mem_cons.mpr ⟨lw_p24, List.forall_mem_cons.mpr ⟨lw_p25, List.forall_mem_cons.mpr ⟨lw_p26, List.forall_mem_cons.mpr ⟨lw_p27, fun _ h => absurd h List.not_mem_nil⟩⟩⟩⟩⟩⟩⟩⟩⟩⟩⟩⟩
def lw_privs : List (MethodName × Nat) := lw_privs_1 ++ (lw_privs_2)
def lw_tbl : List Cond := k2_sels lw_privs ++ tables_1
theorem lw_privs_ok : ∀ q ∈ lw_privs, lw_okq q := by
  show ∀ q ∈ lw_privs_1 ++ (lw_privs_2), lw_okq q
  exact List.forall_mem_append.mpr ⟨lw_r1, lw_r2⟩
end
section
/-! ===== BEGIN words of one list among another's, by their places ===== -/
theorem goodIn_r {big : List Cond} (ws : List Cond) (ps : List Nat) (hp : ws = ps.filterMap (fun i => big[i]?)) (h : ws.all goodWord = true) : GoodIn big ws := by
  intro w hw
  have h1 := List.all_eq_true.mp h w hw
  rw [hp] at hw
  obtain ⟨i, -, hi⟩ := List.mem_filterMap.mp hw
  have hm : w ∈ big := by first | exact List.mem_of_getElem? hi | exact List.getElem?_mem hi
  exact ⟨hm, good_of_word h1⟩
theorem goodIn_app {big a b : List Cond} (ha : GoodIn big a) (hb : GoodIn big b) : GoodIn big (a ++ b) := fun w h => (List.mem_append.mp h).elim (ha w) (hb w)
theorem goodIn_ca {big a b : List Cond} {c : Cond} (ha : GoodIn big (c :: a)) (hb : GoodIn big b) : GoodIn big (c :: (a ++ b)) := fun w h => (List.mem_cons.mp h).elim (fun e => ha w (List.mem_cons.mpr (Or.inl e))) (fun h => (List.mem_append.mp h).elim (fun h => ha w (List.mem_cons.mpr (Or.inr h))) (hb w))
theorem goodIn_sub {big ws : List Cond} (hm : ∀ w ∈ ws, w ∈ big) (h : ws.all goodWord = true) : GoodIn big ws := fun w hw => ⟨hm w hw, good_of_word (List.all_eq_true.mp h w hw)⟩
/-! ===== END ===== -/

/-! ===== BEGIN printed: names, fields, word lists, decode rows ===== -/
def RX0 : String := "DerDesk$Reader"
def TX0 : u_T := fun k => match k with
  | 0 => ("DerDesk$Reader", "row", "[I", true)
  | 1 => ("DerDesk$Reader", "rowSize", "I", false)
  | 2 => ("DerDesk$Reader", "tags", "[I", true)
  | 3 => ("DerDesk$Reader", "starts", "[I", true)
  | 4 => ("DerDesk$Reader", "lengths", "[I", true)
  | 5 => ("DerDesk$Reader", "parents", "[I", true)
  | 6 => ("DerDesk$Reader", "nodes", "I", false)
  | 7 => ("DerDesk$Reader", "around", "[I", true)
  | 8 => ("DerDesk$Reader", "level", "I", false)
  | _ => ("DerDesk$Reader", "offencePlace", "I", false)
def tyX0 : Nat → FieldType := fun k => match k with
  | 0 => .array .int
  | 1 => .int
  | 2 => .array .int
  | 3 => .array .int
  | 4 => .array .int
  | 5 => .array .int
  | 6 => .int
  | 7 => .array .int
  | 8 => .int
  | _ => .int
abbrev wsX00 : List Cond := u_ws RX0 TX0 10
theorem nmX0 : ∀ a, a < 10 → ∀ b, b < 10 → a ≠ b → (TX0 a).2.1 ≠ (TX0 b).2.1 := by decide +kernel
theorem tyX0_ok : ∀ k, k < 10 → parseFieldDescriptor (TX0 k).2.2.1 = some (tyX0 k) := by decide +kernel
abbrev cX0_init : ByteArray := prog_2_method_1_code
def yX0_init : MethodName := ⟨RX0, "<init>", "()V"⟩
abbrev cX0_addByte : ByteArray := prog_2_method_2_code
def yX0_addByte : MethodName := ⟨RX0, "addByte", "(I)I"⟩
abbrev cX0_clear : ByteArray := prog_2_method_3_code
def yX0_clear : MethodName := ⟨RX0, "clear", "()V"⟩
abbrev cX0_readRow : ByteArray := prog_2_method_4_code
def yX0_readRow : MethodName := ⟨RX0, "readRow", "()I"⟩
abbrev cX0_readValues : ByteArray := prog_2_method_5_code
def yX0_readValues : MethodName := ⟨RX0, "readValues", "()I"⟩
abbrev cX0_readValue : ByteArray := prog_2_method_6_code
def yX0_readValue : MethodName := ⟨RX0, "readValue", "(I)I"⟩
abbrev cX0_readIdentifier : ByteArray := prog_2_method_7_code
def yX0_readIdentifier : MethodName := ⟨RX0, "readIdentifier", "(I)I"⟩
abbrev cX0_readLength : ByteArray := prog_2_method_8_code
def yX0_readLength : MethodName := ⟨RX0, "readLength", "(I)I"⟩
abbrev cX0_checkContents : ByteArray := prog_2_method_9_code
def yX0_checkContents : MethodName := ⟨RX0, "checkContents", "(I)I"⟩
abbrev cX0_goOnFrom : ByteArray := prog_2_method_10_code
def yX0_goOnFrom : MethodName := ⟨RX0, "goOnFrom", "(I)I"⟩
abbrev cX0_leaveSequencesThatEndAt : ByteArray := prog_2_method_11_code
def yX0_leaveSequencesThatEndAt : MethodName := ⟨RX0, "leaveSequencesThatEndAt", "(I)V"⟩
abbrev cX0_limitHere : ByteArray := prog_2_method_12_code
def yX0_limitHere : MethodName := ⟨RX0, "limitHere", "()I"⟩
abbrev cX0_endOf : ByteArray := prog_2_method_13_code
def yX0_endOf : MethodName := ⟨RX0, "endOf", "(I)I"⟩
abbrev cX0_numberAt : ByteArray := prog_2_method_14_code
def yX0_numberAt : MethodName := ⟨RX0, "numberAt", "(II)I"⟩
abbrev cX0_offendByCutLength : ByteArray := prog_2_method_15_code
def yX0_offendByCutLength : MethodName := ⟨RX0, "offendByCutLength", "(I)I"⟩
abbrev cX0_offend : ByteArray := prog_2_method_16_code
def yX0_offend : MethodName := ⟨RX0, "offend", "(II)I"⟩
abbrev cX0_isNode : ByteArray := prog_2_method_17_code
def yX0_isNode : MethodName := ⟨RX0, "isNode", "(I)Z"⟩
abbrev cX0_ofNode : ByteArray := prog_2_method_18_code
def yX0_ofNode : MethodName := ⟨RX0, "ofNode", "([II)I"⟩
abbrev cX0_isSmallInteger : ByteArray := prog_2_method_19_code
def yX0_isSmallInteger : MethodName := ⟨RX0, "isSmallInteger", "(I)Z"⟩
abbrev cX0_smallInteger : ByteArray := prog_2_method_20_code
def yX0_smallInteger : MethodName := ⟨RX0, "smallInteger", "(I)I"⟩
abbrev cX0_arcOf : ByteArray := prog_2_method_21_code
def yX0_arcOf : MethodName := ⟨RX0, "arcOf", "(II)I"⟩
abbrev cX0_firstArcOf : ByteArray := prog_2_method_22_code
def yX0_firstArcOf : MethodName := ⟨RX0, "firstArcOf", "(J)I"⟩
abbrev cX0_partOf : ByteArray := prog_2_method_23_code
def yX0_partOf : MethodName := ⟨RX0, "partOf", "(II)J"⟩
def RX1 : String := "DerDesk$Rules"
def TX1 : u_T := fun k => match k with
  | _ => ("", "", "", false)
def tyX1 : Nat → FieldType := fun k => match k with
  | _ => .int
abbrev wsX10 : List Cond := u_ws RX1 TX1 0
theorem nmX1 : ∀ a, a < 0 → ∀ b, b < 0 → a ≠ b → (TX1 a).2.1 ≠ (TX1 b).2.1 := by decide +kernel
theorem tyX1_ok : ∀ k, k < 0 → parseFieldDescriptor (TX1 k).2.2.1 = some (tyX1 k) := by decide +kernel
abbrev cX1_isByte : ByteArray := prog_3_method_2_code
def yX1_isByte : MethodName := ⟨RX1, "isByte", "(I)Z"⟩
abbrev cX1_isIdentifier : ByteArray := prog_3_method_3_code
def yX1_isIdentifier : MethodName := ⟨RX1, "isIdentifier", "(I)Z"⟩
abbrev cX1_lengthSize : ByteArray := prog_3_method_4_code
def yX1_lengthSize : MethodName := ⟨RX1, "lengthSize", "(I)I"⟩
abbrev cX1_hold : ByteArray := prog_3_method_5_code
def yX1_hold : MethodName := ⟨RX1, "hold", "(I[III)Z"⟩
abbrev cX1_isRightInteger : ByteArray := prog_3_method_6_code
def yX1_isRightInteger : MethodName := ⟨RX1, "isRightInteger", "([III)Z"⟩
abbrev cX1_isRightBits : ByteArray := prog_3_method_7_code
def yX1_isRightBits : MethodName := ⟨RX1, "isRightBits", "([III)Z"⟩
abbrev cX1_isRightObject : ByteArray := prog_3_method_8_code
def yX1_isRightObject : MethodName := ⟨RX1, "isRightObject", "([III)Z"⟩
def RX2 : String := "DerDesk$Writer"
def TX2 : u_T := fun k => match k with
  | 0 => ("DerDesk$Writer", "bytes", "[I", true)
  | 1 => ("DerDesk$Writer", "size", "I", false)
  | 2 => ("DerDesk$Writer", "opened", "[I", true)
  | _ => ("DerDesk$Writer", "depth", "I", false)
def tyX2 : Nat → FieldType := fun k => match k with
  | 0 => .array .int
  | 1 => .int
  | 2 => .array .int
  | _ => .int
abbrev wsX20 : List Cond := u_ws RX2 TX2 4
theorem nmX2 : ∀ a, a < 4 → ∀ b, b < 4 → a ≠ b → (TX2 a).2.1 ≠ (TX2 b).2.1 := by decide +kernel
theorem tyX2_ok : ∀ k, k < 4 → parseFieldDescriptor (TX2 k).2.2.1 = some (tyX2 k) := by decide +kernel
abbrev cX2_init : ByteArray := prog_4_method_1_code
def yX2_init : MethodName := ⟨RX2, "<init>", "()V"⟩
abbrev cX2_clear : ByteArray := prog_4_method_2_code
def yX2_clear : MethodName := ⟨RX2, "clear", "()V"⟩
abbrev cX2_open : ByteArray := prog_4_method_3_code
def yX2_open : MethodName := ⟨RX2, "open", "(I)I"⟩
abbrev cX2_addByte : ByteArray := prog_4_method_4_code
def yX2_addByte : MethodName := ⟨RX2, "addByte", "(I)I"⟩
abbrev cX2_addInteger : ByteArray := prog_4_method_5_code
def yX2_addInteger : MethodName := ⟨RX2, "addInteger", "(I)I"⟩
abbrev cX2_addPart : ByteArray := prog_4_method_6_code
def yX2_addPart : MethodName := ⟨RX2, "addPart", "(I)I"⟩
abbrev cX2_close : ByteArray := prog_4_method_7_code
def yX2_close : MethodName := ⟨RX2, "close", "()I"⟩
abbrev cX2_byteAt : ByteArray := prog_4_method_8_code
def yX2_byteAt : MethodName := ⟨RX2, "byteAt", "(I)I"⟩
abbrev cX2_canHoldValue : ByteArray := prog_4_method_9_code
def yX2_canHoldValue : MethodName := ⟨RX2, "canHoldValue", "()Z"⟩
abbrev cX2_openTag : ByteArray := prog_4_method_10_code
def yX2_openTag : MethodName := ⟨RX2, "openTag", "()I"⟩
abbrev cX2_openLength : ByteArray := prog_4_method_11_code
def yX2_openLength : MethodName := ⟨RX2, "openLength", "()I"⟩
abbrev cX2_hasRoom : ByteArray := prog_4_method_12_code
def yX2_hasRoom : MethodName := ⟨RX2, "hasRoom", "(I)Z"⟩
abbrev cX2_append : ByteArray := prog_4_method_13_code
def yX2_append : MethodName := ⟨RX2, "append", "(I)V"⟩
abbrev cX2_integerSize : ByteArray := prog_4_method_14_code
def yX2_integerSize : MethodName := ⟨RX2, "integerSize", "(I)I"⟩
abbrev cX2_partSize : ByteArray := prog_4_method_15_code
def yX2_partSize : MethodName := ⟨RX2, "partSize", "(I)I"⟩
abbrev cX2_makeGap : ByteArray := prog_4_method_16_code
def yX2_makeGap : MethodName := ⟨RX2, "makeGap", "(II)V"⟩
abbrev cX2_writeLength : ByteArray := prog_4_method_17_code
def yX2_writeLength : MethodName := ⟨RX2, "writeLength", "(III)V"⟩
def RX3 : String := "DerDesk"
def TX3 : u_T := fun k => match k with
  | 0 => ("DerDesk", "reader", "LDerDesk$Reader;", true)
  | _ => ("DerDesk", "writer", "LDerDesk$Writer;", true)
def tyX3 : Nat → FieldType := fun k => match k with
  | 0 => .object "DerDesk$Reader"
  | _ => .object "DerDesk$Writer"
abbrev wsX30 : List Cond := u_ws RX3 TX3 2
theorem nmX3 : ∀ a, a < 2 → ∀ b, b < 2 → a ≠ b → (TX3 a).2.1 ≠ (TX3 b).2.1 := by decide +kernel
theorem tyX3_ok : ∀ k, k < 2 → parseFieldDescriptor (TX3 k).2.2.1 = some (tyX3 k) := by decide +kernel
abbrev cX3_init : ByteArray := prog_1_method_1_code
def yX3_init : MethodName := ⟨RX3, "<init>", "()V"⟩
abbrev cX3_feed : ByteArray := prog_1_method_2_code
def yX3_feed : MethodName := ⟨RX3, "feed", "(I)I"⟩
abbrev cX3_parse : ByteArray := prog_1_method_3_code
def yX3_parse : MethodName := ⟨RX3, "parse", "()I"⟩
abbrev cX3_offence : ByteArray := prog_1_method_4_code
def yX3_offence : MethodName := ⟨RX3, "offence", "()I"⟩
abbrev cX3_nodeCount : ByteArray := prog_1_method_5_code
def yX3_nodeCount : MethodName := ⟨RX3, "nodeCount", "()I"⟩
abbrev cX3_tagOf : ByteArray := prog_1_method_6_code
def yX3_tagOf : MethodName := ⟨RX3, "tagOf", "(I)I"⟩
abbrev cX3_contentAt : ByteArray := prog_1_method_7_code
def yX3_contentAt : MethodName := ⟨RX3, "contentAt", "(I)I"⟩
abbrev cX3_contentLen : ByteArray := prog_1_method_8_code
def yX3_contentLen : MethodName := ⟨RX3, "contentLen", "(I)I"⟩
abbrev cX3_parent : ByteArray := prog_1_method_9_code
def yX3_parent : MethodName := ⟨RX3, "parent", "(I)I"⟩
abbrev cX3_oidArc : ByteArray := prog_1_method_10_code
def yX3_oidArc : MethodName := ⟨RX3, "oidArc", "(II)I"⟩
abbrev cX3_intFits : ByteArray := prog_1_method_11_code
def yX3_intFits : MethodName := ⟨RX3, "intFits", "(I)Z"⟩
abbrev cX3_intValue : ByteArray := prog_1_method_12_code
def yX3_intValue : MethodName := ⟨RX3, "intValue", "(I)I"⟩
abbrev cX3_wipe : ByteArray := prog_1_method_13_code
def yX3_wipe : MethodName := ⟨RX3, "wipe", "()V"⟩
abbrev cX3_begin : ByteArray := prog_1_method_14_code
def yX3_begin : MethodName := ⟨RX3, "begin", "(I)I"⟩
abbrev cX3_putByte : ByteArray := prog_1_method_15_code
def yX3_putByte : MethodName := ⟨RX3, "putByte", "(I)I"⟩
abbrev cX3_putInt : ByteArray := prog_1_method_16_code
def yX3_putInt : MethodName := ⟨RX3, "putInt", "(I)I"⟩
abbrev cX3_putPart : ByteArray := prog_1_method_17_code
def yX3_putPart : MethodName := ⟨RX3, "putPart", "(I)I"⟩
abbrev cX3_end : ByteArray := prog_1_method_18_code
def yX3_end : MethodName := ⟨RX3, "end", "()I"⟩
abbrev cX3_out : ByteArray := prog_1_method_19_code
def yX3_out : MethodName := ⟨RX3, "out", "(I)I"⟩
abbrev cX3_outSize : ByteArray := prog_1_method_20_code
def yX3_outSize : MethodName := ⟨RX3, "outSize", "()I"⟩
abbrev cX3_depth : ByteArray := prog_1_method_21_code
def yX3_depth : MethodName := ⟨RX3, "depth", "()I"⟩
abbrev cX3_restart : ByteArray := prog_1_method_22_code
def yX3_restart : MethodName := ⟨RX3, "restart", "()V"⟩
def RX4 : String := "DerDeskModel"
def TX4 : u_T := fun k => match k with
  | 0 => ("DerDeskModel", "code", "I", false)
  | 1 => ("DerDeskModel", "row", "[I", true)
  | 2 => ("DerDeskModel", "size", "I", false)
  | 3 => ("DerDeskModel", "nodes", "I", false)
  | 4 => ("DerDeskModel", "tags", "[I", true)
  | 5 => ("DerDeskModel", "starts", "[I", true)
  | 6 => ("DerDeskModel", "lengths", "[I", true)
  | 7 => ("DerDeskModel", "parents", "[I", true)
  | 8 => ("DerDeskModel", "read", "Z", false)
  | 9 => ("DerDeskModel", "offence", "I", false)
  | 10 => ("DerDeskModel", "around", "[I", true)
  | 11 => ("DerDeskModel", "depth", "I", false)
  | 12 => ("DerDeskModel", "at", "I", false)
  | 13 => ("DerDeskModel", "result", "I", false)
  | 14 => ("DerDeskModel", "found", "I", false)
  | 15 => ("DerDeskModel", "place", "I", false)
  | 16 => ("DerDeskModel", "text", "[I", true)
  | 17 => ("DerDeskModel", "output", "[I", true)
  | 18 => ("DerDeskModel", "written", "I", false)
  | 19 => ("DerDeskModel", "opens", "[I", true)
  | 20 => ("DerDeskModel", "open", "I", false)
  | _ => ("DerDeskModel", "done", "Z", false)
def tyX4 : Nat → FieldType := fun k => match k with
  | 0 => .int
  | 1 => .array .int
  | 2 => .int
  | 3 => .int
  | 4 => .array .int
  | 5 => .array .int
  | 6 => .array .int
  | 7 => .array .int
  | 8 => .boolean
  | 9 => .int
  | 10 => .array .int
  | 11 => .int
  | 12 => .int
  | 13 => .int
  | 14 => .int
  | 15 => .int
  | 16 => .array .int
  | 17 => .array .int
  | 18 => .int
  | 19 => .array .int
  | 20 => .int
  | _ => .boolean
abbrev wsX40 : List Cond := u_ws RX4 TX4 22
theorem nmX4 : ∀ a, a < 22 → ∀ b, b < 22 → a ≠ b → (TX4 a).2.1 ≠ (TX4 b).2.1 := by decide +kernel
theorem tyX4_ok : ∀ k, k < 22 → parseFieldDescriptor (TX4 k).2.2.1 = some (tyX4 k) := by decide +kernel
abbrev cX4_init : ByteArray := prog_6_method_1_code
def yX4_init : MethodName := ⟨RX4, "<init>", "()V"⟩
abbrev cX4_isByte : ByteArray := prog_6_method_3_code
def yX4_isByte : MethodName := ⟨RX4, "isByte", "(I)Z"⟩
abbrev cX4_isTag : ByteArray := prog_6_method_4_code
def yX4_isTag : MethodName := ⟨RX4, "isTag", "(I)Z"⟩
abbrev cX4_feed : ByteArray := prog_6_method_5_code
def yX4_feed : MethodName := ⟨RX4, "feed", "(I)I"⟩
abbrev cX4_wipe : ByteArray := prog_6_method_6_code
def yX4_wipe : MethodName := ⟨RX4, "wipe", "()V"⟩
abbrev cX4_isRight : ByteArray := prog_6_method_7_code
def yX4_isRight : MethodName := ⟨RX4, "isRight", "(II)Z"⟩
abbrev cX4_fail : ByteArray := prog_6_method_8_code
def yX4_fail : MethodName := ⟨RX4, "fail", "(II)V"⟩
abbrev cX4_isMissing : ByteArray := prog_6_method_9_code
def yX4_isMissing : MethodName := ⟨RX4, "isMissing", "(II)Z"⟩
abbrev cX4_length : ByteArray := prog_6_method_10_code
def yX4_length : MethodName := ⟨RX4, "length", "(I)I"⟩
abbrev cX4_value : ByteArray := prog_6_method_11_code
def yX4_value : MethodName := ⟨RX4, "value", "()V"⟩
abbrev cX4_parse : ByteArray := prog_6_method_12_code
def yX4_parse : MethodName := ⟨RX4, "parse", "()I"⟩
abbrev cX4_offence : ByteArray := prog_6_method_13_code
def yX4_offence : MethodName := ⟨RX4, "offence", "()I"⟩
abbrev cX4_nodeCount : ByteArray := prog_6_method_14_code
def yX4_nodeCount : MethodName := ⟨RX4, "nodeCount", "()I"⟩
abbrev cX4_isNode : ByteArray := prog_6_method_15_code
def yX4_isNode : MethodName := ⟨RX4, "isNode", "(I)Z"⟩
abbrev cX4_tagOf : ByteArray := prog_6_method_16_code
def yX4_tagOf : MethodName := ⟨RX4, "tagOf", "(I)I"⟩
abbrev cX4_contentAt : ByteArray := prog_6_method_17_code
def yX4_contentAt : MethodName := ⟨RX4, "contentAt", "(I)I"⟩
abbrev cX4_contentLen : ByteArray := prog_6_method_18_code
def yX4_contentLen : MethodName := ⟨RX4, "contentLen", "(I)I"⟩
abbrev cX4_parent : ByteArray := prog_6_method_19_code
def yX4_parent : MethodName := ⟨RX4, "parent", "(I)I"⟩
abbrev cX4_oidArc : ByteArray := prog_6_method_20_code
def yX4_oidArc : MethodName := ⟨RX4, "oidArc", "(II)I"⟩
abbrev cX4_intFits : ByteArray := prog_6_method_21_code
def yX4_intFits : MethodName := ⟨RX4, "intFits", "(I)Z"⟩
abbrev cX4_intValue : ByteArray := prog_6_method_22_code
def yX4_intValue : MethodName := ⟨RX4, "intValue", "(I)I"⟩
abbrev cX4_restart : ByteArray := prog_6_method_23_code
def yX4_restart : MethodName := ⟨RX4, "restart", "()V"⟩
abbrev cX4_openTag : ByteArray := prog_6_method_24_code
def yX4_openTag : MethodName := ⟨RX4, "openTag", "()I"⟩
abbrev cX4_begin : ByteArray := prog_6_method_25_code
def yX4_begin : MethodName := ⟨RX4, "begin", "(I)I"⟩
abbrev cX4_putByte : ByteArray := prog_6_method_26_code
def yX4_putByte : MethodName := ⟨RX4, "putByte", "(I)I"⟩
abbrev cX4_putInt : ByteArray := prog_6_method_27_code
def yX4_putInt : MethodName := ⟨RX4, "putInt", "(I)I"⟩
abbrev cX4_putPart : ByteArray := prog_6_method_28_code
def yX4_putPart : MethodName := ⟨RX4, "putPart", "(I)I"⟩
abbrev cX4_end : ByteArray := prog_6_method_29_code
def yX4_end : MethodName := ⟨RX4, "end", "()I"⟩
abbrev cX4_out : ByteArray := prog_6_method_30_code
def yX4_out : MethodName := ⟨RX4, "out", "(I)I"⟩
abbrev cX4_outSize : ByteArray := prog_6_method_31_code
def yX4_outSize : MethodName := ⟨RX4, "outSize", "()I"⟩
abbrev cX4_depth : ByteArray := prog_6_method_32_code
def yX4_depth : MethodName := ⟨RX4, "depth", "()I"⟩
def RJ9 : String := "java/lang/Math"
def TJ9 : u_T := fun k => match k with
  | _ => ("", "", "", false)
def tyJ9 : Nat → FieldType := fun k => match k with
  | _ => .int
abbrev wsJ90 : List Cond := u_ws RJ9 TJ9 0
theorem nmJ9 : ∀ a, a < 0 → ∀ b, b < 0 → a ≠ b → (TJ9 a).2.1 ≠ (TJ9 b).2.1 := by decide +kernel
theorem tyJ9_ok : ∀ k, k < 0 → parseFieldDescriptor (TJ9 k).2.2.1 = some (tyJ9 k) := by decide +kernel
abbrev cJ9_min_f86c9 : ByteArray := prog_7_method_70_code
def yJ9_min_f86c9 : MethodName := ⟨RJ9, "min", "(JJ)J"⟩
def RL : String := "DerDeskLaw"
abbrev cL_law : ByteArray := code
def yL_law : MethodName := ⟨RL, "law", "([I)Z"⟩
def wsX0_init : List Cond := .code yX0_init cX0_init 1 none :: ([.methodLink RX0 3 objectInit, .instanceMethod objectInit, .code objectInit ⟨#[0xb1]⟩ 1 none, .arrayClass .int, .fieldLink RX0 9 "DerDesk$Reader" "row" "[I", .fieldLink RX0 15 "DerDesk$Reader" "rowSize" "I", .fieldLink RX0 19 "DerDesk$Reader" "tags" "[I", .fieldLink RX0 22 "DerDesk$Reader" "starts" "[I", .fieldLink RX0 25 "DerDesk$Reader" "lengths" "[I", .fieldLink RX0 28 "DerDesk$Reader" "parents" "[I", .fieldLink RX0 31 "DerDesk$Reader" "nodes" "I", .fieldLink RX0 34 "DerDesk$Reader" "around" "[I", .fieldLink RX0 37 "DerDesk$Reader" "level" "I", .fieldLink RX0 40 "DerDesk$Reader" "offencePlace" "I"] ++ wsX00)
def wsX1_isByte : List Cond := .code yX1_isByte cX1_isByte 1 (some .boolean) :: ([])
def wsX0_addByte : List Cond := .code yX0_addByte cX0_addByte 2 (some .int) :: ([.fieldLink RX0 15 "DerDesk$Reader" "rowSize" "I", .fieldLink RX0 9 "DerDesk$Reader" "row" "[I", .fieldLink RX0 31 "DerDesk$Reader" "nodes" "I", .methodLink RX0 43 yX1_isByte, .static yX1_isByte, .initialized RX1, .code yX1_isByte cX1_isByte 1 (some .boolean)] ++ wsX00)
def wsX0_clear : List Cond := .code yX0_clear cX0_clear 1 none :: ([.fieldLink RX0 15 "DerDesk$Reader" "rowSize" "I", .fieldLink RX0 31 "DerDesk$Reader" "nodes" "I"] ++ wsX00)
def wsX0_offend : List Cond := .code yX0_offend cX0_offend 3 (some .int) :: ([.fieldLink RX0 40 "DerDesk$Reader" "offencePlace" "I"] ++ wsX00)
def wsX1_isIdentifier : List Cond := .code yX1_isIdentifier cX1_isIdentifier 1 (some .boolean) :: ([])
def wsX0_readIdentifier : List Cond := .code yX0_readIdentifier cX0_readIdentifier 2 (some .int) :: ([.fieldLink RX0 15 "DerDesk$Reader" "rowSize" "I", .fieldLink RX0 9 "DerDesk$Reader" "row" "[I", .fieldLink RX0 31 "DerDesk$Reader" "nodes" "I", .fieldLink RX0 37 "DerDesk$Reader" "level" "I", .fieldLink RX0 19 "DerDesk$Reader" "tags" "[I", .fieldLink RX0 28 "DerDesk$Reader" "parents" "[I", .fieldLink RX0 34 "DerDesk$Reader" "around" "[I", .methodLink RX0 64 yX0_offend, .instanceMethod yX0_offend, .selects RX0 yX0_offend yX0_offend, .initialized RX0, .code yX0_offend cX0_offend 3 (some .int), .fieldLink RX0 40 "DerDesk$Reader" "offencePlace" "I", .methodLink RX0 77 yX1_isIdentifier, .static yX1_isIdentifier, .initialized RX1, .code yX1_isIdentifier cX1_isIdentifier 1 (some .boolean)] ++ wsX00)
def wsX0_endOf : List Cond := .code yX0_endOf cX0_endOf 2 (some .int) :: ([.fieldLink RX0 22 "DerDesk$Reader" "starts" "[I", .fieldLink RX0 25 "DerDesk$Reader" "lengths" "[I"] ++ wsX00)
def wsX0_limitHere : List Cond := .code yX0_limitHere cX0_limitHere 1 (some .int) :: ([.fieldLink RX0 37 "DerDesk$Reader" "level" "I", .fieldLink RX0 15 "DerDesk$Reader" "rowSize" "I", .fieldLink RX0 34 "DerDesk$Reader" "around" "[I", .methodLink RX0 96 yX0_endOf, .instanceMethod yX0_endOf, .selects RX0 yX0_endOf yX0_endOf, .initialized RX0, .code yX0_endOf cX0_endOf 2 (some .int), .fieldLink RX0 22 "DerDesk$Reader" "starts" "[I", .fieldLink RX0 25 "DerDesk$Reader" "lengths" "[I"] ++ wsX00)
def wsX0_offendByCutLength : List Cond := .code yX0_offendByCutLength cX0_offendByCutLength 2 (some .int) :: ([.fieldLink RX0 37 "DerDesk$Reader" "level" "I", .fieldLink RX0 15 "DerDesk$Reader" "rowSize" "I", .methodLink RX0 64 yX0_offend, .instanceMethod yX0_offend, .selects RX0 yX0_offend yX0_offend, .initialized RX0, .code yX0_offend cX0_offend 3 (some .int), .fieldLink RX0 40 "DerDesk$Reader" "offencePlace" "I"] ++ wsX00)
def wsX0_numberAt : List Cond := .code yX0_numberAt cX0_numberAt 5 (some .int) :: ([.fieldLink RX0 9 "DerDesk$Reader" "row" "[I"] ++ wsX00)
def wsX1_lengthSize : List Cond := .code yX1_lengthSize cX1_lengthSize 1 (some .int) :: ([])
def wsX0_readLength_r1 : List Cond := [Cond.fieldLink RX0 9 "DerDesk$Reader" "row" "[I", Cond.fieldLink RX0 22 "DerDesk$Reader" "starts" "[I", Cond.fieldLink RX0 31 "DerDesk$Reader" "nodes" "I", Cond.fieldLink RX0 25 "DerDesk$Reader" "lengths" "[I", Cond.methodLink RX0 80 yX0_limitHere, Cond.instanceMethod yX0_limitHere, Cond.selects RX0 yX0_limitHere yX0_limitHere, Cond.initialized RX0, Cond.code yX0_limitHere cX0_limitHere 1 (some .int), Cond.fieldLink RX0 37 "DerDesk$Reader" "level" "I", Cond.fieldLink RX0 15 "DerDesk$Reader" "rowSize" "I", Cond.fieldLink RX0 34 "DerDesk$Reader" "around" "[I", Cond.methodLink RX0 96 yX0_endOf, Cond.instanceMethod yX0_endOf, Cond.selects RX0 yX0_endOf yX0_endOf, Cond.code yX0_endOf cX0_endOf 2 (some .int), Cond.methodLink RX0 83 yX0_offendByCutLength, Cond.instanceMethod yX0_offendByCutLength, Cond.selects RX0 yX0_offendByCutLength yX0_offendByCutLength, Cond.code yX0_offendByCutLength cX0_offendByCutLength 2 (some .int), Cond.methodLink RX0 64 yX0_offend, Cond.instanceMethod yX0_offend, Cond.selects RX0 yX0_offend yX0_offend, Cond.code yX0_offend cX0_offend 3 (some .int)]
def wsX0_readLength_r2 : List Cond := [Cond.fieldLink RX0 40 "DerDesk$Reader" "offencePlace" "I", Cond.methodLink RX0 86 yX0_numberAt, Cond.instanceMethod yX0_numberAt, Cond.selects RX0 yX0_numberAt yX0_numberAt, Cond.code yX0_numberAt cX0_numberAt 5 (some .int), Cond.methodLink RX0 89 yX1_lengthSize, Cond.static yX1_lengthSize, Cond.initialized RX1, Cond.code yX1_lengthSize cX1_lengthSize 1 (some .int)]
def wsX0_readLength : List Cond := .code yX0_readLength cX0_readLength 7 (some .int) :: ((wsX0_readLength_r1 ++ wsX0_readLength_r2) ++ wsX00)
def wsX1_isRightInteger : List Cond := .code yX1_isRightInteger cX1_isRightInteger 4 (some .boolean) :: ([])
def wsX1_isRightBits : List Cond := .code yX1_isRightBits cX1_isRightBits 5 (some .boolean) :: ([])
def wsX1_isRightObject : List Cond := .code yX1_isRightObject cX1_isRightObject 5 (some .boolean) :: ([])
def wsX1_hold : List Cond := .code yX1_hold cX1_hold 4 (some .boolean) :: ([.methodLink RX1 9 yX1_isRightInteger, .static yX1_isRightInteger, .initialized RX1, .code yX1_isRightInteger cX1_isRightInteger 4 (some .boolean), .methodLink RX1 15 yX1_isRightBits, .static yX1_isRightBits, .code yX1_isRightBits cX1_isRightBits 5 (some .boolean), .methodLink RX1 18 yX1_isRightObject, .static yX1_isRightObject, .code yX1_isRightObject cX1_isRightObject 5 (some .boolean)])
def wsX0_checkContents_r1 : List Cond := [Cond.fieldLink RX0 22 "DerDesk$Reader" "starts" "[I", Cond.fieldLink RX0 31 "DerDesk$Reader" "nodes" "I", Cond.fieldLink RX0 25 "DerDesk$Reader" "lengths" "[I", Cond.fieldLink RX0 19 "DerDesk$Reader" "tags" "[I", Cond.fieldLink RX0 9 "DerDesk$Reader" "row" "[I", Cond.methodLink RX0 80 yX0_limitHere, Cond.instanceMethod yX0_limitHere, Cond.selects RX0 yX0_limitHere yX0_limitHere, Cond.initialized RX0, Cond.code yX0_limitHere cX0_limitHere 1 (some .int), Cond.fieldLink RX0 37 "DerDesk$Reader" "level" "I", Cond.fieldLink RX0 15 "DerDesk$Reader" "rowSize" "I", Cond.fieldLink RX0 34 "DerDesk$Reader" "around" "[I", Cond.methodLink RX0 96 yX0_endOf, Cond.instanceMethod yX0_endOf, Cond.selects RX0 yX0_endOf yX0_endOf, Cond.code yX0_endOf cX0_endOf 2 (some .int), Cond.methodLink RX0 64 yX0_offend, Cond.instanceMethod yX0_offend, Cond.selects RX0 yX0_offend yX0_offend, Cond.code yX0_offend cX0_offend 3 (some .int), Cond.fieldLink RX0 40 "DerDesk$Reader" "offencePlace" "I", Cond.methodLink RX0 92 yX1_hold, Cond.static yX1_hold]
def wsX0_checkContents_r2 : List Cond := [Cond.initialized RX1, Cond.code yX1_hold cX1_hold 4 (some .boolean), Cond.methodLink RX1 9 yX1_isRightInteger, Cond.static yX1_isRightInteger, Cond.code yX1_isRightInteger cX1_isRightInteger 4 (some .boolean), Cond.methodLink RX1 15 yX1_isRightBits, Cond.static yX1_isRightBits, Cond.code yX1_isRightBits cX1_isRightBits 5 (some .boolean), Cond.methodLink RX1 18 yX1_isRightObject, Cond.static yX1_isRightObject, Cond.code yX1_isRightObject cX1_isRightObject 5 (some .boolean)]
def wsX0_checkContents : List Cond := .code yX0_checkContents cX0_checkContents 4 (some .int) :: ((wsX0_checkContents_r1 ++ wsX0_checkContents_r2) ++ wsX00)
def wsX0_readValue_r1 : List Cond := [Cond.fieldLink RX0 31 "DerDesk$Reader" "nodes" "I", Cond.methodLink RX0 68 yX0_readIdentifier, Cond.instanceMethod yX0_readIdentifier, Cond.selects RX0 yX0_readIdentifier yX0_readIdentifier, Cond.initialized RX0, Cond.code yX0_readIdentifier cX0_readIdentifier 2 (some .int), Cond.fieldLink RX0 15 "DerDesk$Reader" "rowSize" "I", Cond.fieldLink RX0 9 "DerDesk$Reader" "row" "[I", Cond.fieldLink RX0 37 "DerDesk$Reader" "level" "I", Cond.fieldLink RX0 19 "DerDesk$Reader" "tags" "[I", Cond.fieldLink RX0 28 "DerDesk$Reader" "parents" "[I", Cond.fieldLink RX0 34 "DerDesk$Reader" "around" "[I", Cond.methodLink RX0 64 yX0_offend, Cond.instanceMethod yX0_offend, Cond.selects RX0 yX0_offend yX0_offend, Cond.code yX0_offend cX0_offend 3 (some .int), Cond.fieldLink RX0 40 "DerDesk$Reader" "offencePlace" "I", Cond.methodLink RX0 77 yX1_isIdentifier, Cond.static yX1_isIdentifier, Cond.initialized RX1, Cond.code yX1_isIdentifier cX1_isIdentifier 1 (some .boolean), Cond.methodLink RX0 71 yX0_readLength, Cond.instanceMethod yX0_readLength, Cond.selects RX0 yX0_readLength yX0_readLength]
def wsX0_readValue_r2 : List Cond := [Cond.code yX0_readLength cX0_readLength 7 (some .int), Cond.fieldLink RX0 22 "DerDesk$Reader" "starts" "[I", Cond.fieldLink RX0 25 "DerDesk$Reader" "lengths" "[I", Cond.methodLink RX0 80 yX0_limitHere, Cond.instanceMethod yX0_limitHere, Cond.selects RX0 yX0_limitHere yX0_limitHere, Cond.code yX0_limitHere cX0_limitHere 1 (some .int), Cond.methodLink RX0 96 yX0_endOf, Cond.instanceMethod yX0_endOf, Cond.selects RX0 yX0_endOf yX0_endOf, Cond.code yX0_endOf cX0_endOf 2 (some .int), Cond.methodLink RX0 83 yX0_offendByCutLength, Cond.instanceMethod yX0_offendByCutLength, Cond.selects RX0 yX0_offendByCutLength yX0_offendByCutLength, Cond.code yX0_offendByCutLength cX0_offendByCutLength 2 (some .int), Cond.methodLink RX0 86 yX0_numberAt, Cond.instanceMethod yX0_numberAt, Cond.selects RX0 yX0_numberAt yX0_numberAt, Cond.code yX0_numberAt cX0_numberAt 5 (some .int), Cond.methodLink RX0 89 yX1_lengthSize, Cond.static yX1_lengthSize, Cond.code yX1_lengthSize cX1_lengthSize 1 (some .int), Cond.methodLink RX0 74 yX0_checkContents, Cond.instanceMethod yX0_checkContents]
def wsX0_readValue_r3 : List Cond := [Cond.selects RX0 yX0_checkContents yX0_checkContents, Cond.code yX0_checkContents cX0_checkContents 4 (some .int), Cond.methodLink RX0 92 yX1_hold, Cond.static yX1_hold, Cond.code yX1_hold cX1_hold 4 (some .boolean), Cond.methodLink RX1 9 yX1_isRightInteger, Cond.static yX1_isRightInteger, Cond.code yX1_isRightInteger cX1_isRightInteger 4 (some .boolean), Cond.methodLink RX1 15 yX1_isRightBits, Cond.static yX1_isRightBits, Cond.code yX1_isRightBits cX1_isRightBits 5 (some .boolean), Cond.methodLink RX1 18 yX1_isRightObject, Cond.static yX1_isRightObject, Cond.code yX1_isRightObject cX1_isRightObject 5 (some .boolean)]
def wsX0_readValue : List Cond := .code yX0_readValue cX0_readValue 3 (some .int) :: ((wsX0_readValue_r1 ++ (wsX0_readValue_r2 ++ wsX0_readValue_r3)) ++ wsX00)
def wsX0_goOnFrom : List Cond := .code yX0_goOnFrom cX0_goOnFrom 2 (some .int) :: ([.fieldLink RX0 19 "DerDesk$Reader" "tags" "[I", .fieldLink RX0 34 "DerDesk$Reader" "around" "[I", .fieldLink RX0 37 "DerDesk$Reader" "level" "I", .fieldLink RX0 22 "DerDesk$Reader" "starts" "[I", .methodLink RX0 96 yX0_endOf, .instanceMethod yX0_endOf, .selects RX0 yX0_endOf yX0_endOf, .initialized RX0, .code yX0_endOf cX0_endOf 2 (some .int), .fieldLink RX0 25 "DerDesk$Reader" "lengths" "[I"] ++ wsX00)
def wsX0_leaveSequencesThatEndAt : List Cond := .code yX0_leaveSequencesThatEndAt cX0_leaveSequencesThatEndAt 2 none :: ([.fieldLink RX0 37 "DerDesk$Reader" "level" "I", .fieldLink RX0 34 "DerDesk$Reader" "around" "[I", .methodLink RX0 96 yX0_endOf, .instanceMethod yX0_endOf, .selects RX0 yX0_endOf yX0_endOf, .initialized RX0, .code yX0_endOf cX0_endOf 2 (some .int), .fieldLink RX0 22 "DerDesk$Reader" "starts" "[I", .fieldLink RX0 25 "DerDesk$Reader" "lengths" "[I"] ++ wsX00)
def wsX0_readValues_r1 : List Cond := [Cond.fieldLink RX0 31 "DerDesk$Reader" "nodes" "I", Cond.fieldLink RX0 37 "DerDesk$Reader" "level" "I", Cond.fieldLink RX0 15 "DerDesk$Reader" "rowSize" "I", Cond.methodLink RX0 53 yX0_readValue, Cond.instanceMethod yX0_readValue, Cond.selects RX0 yX0_readValue yX0_readValue, Cond.initialized RX0, Cond.code yX0_readValue cX0_readValue 3 (some .int), Cond.methodLink RX0 68 yX0_readIdentifier, Cond.instanceMethod yX0_readIdentifier, Cond.selects RX0 yX0_readIdentifier yX0_readIdentifier, Cond.code yX0_readIdentifier cX0_readIdentifier 2 (some .int), Cond.fieldLink RX0 9 "DerDesk$Reader" "row" "[I", Cond.fieldLink RX0 19 "DerDesk$Reader" "tags" "[I", Cond.fieldLink RX0 28 "DerDesk$Reader" "parents" "[I", Cond.fieldLink RX0 34 "DerDesk$Reader" "around" "[I", Cond.methodLink RX0 64 yX0_offend, Cond.instanceMethod yX0_offend, Cond.selects RX0 yX0_offend yX0_offend, Cond.code yX0_offend cX0_offend 3 (some .int), Cond.fieldLink RX0 40 "DerDesk$Reader" "offencePlace" "I", Cond.methodLink RX0 77 yX1_isIdentifier, Cond.static yX1_isIdentifier, Cond.initialized RX1]
def wsX0_readValues_r2 : List Cond := [Cond.code yX1_isIdentifier cX1_isIdentifier 1 (some .boolean), Cond.methodLink RX0 71 yX0_readLength, Cond.instanceMethod yX0_readLength, Cond.selects RX0 yX0_readLength yX0_readLength, Cond.code yX0_readLength cX0_readLength 7 (some .int), Cond.fieldLink RX0 22 "DerDesk$Reader" "starts" "[I", Cond.fieldLink RX0 25 "DerDesk$Reader" "lengths" "[I", Cond.methodLink RX0 80 yX0_limitHere, Cond.instanceMethod yX0_limitHere, Cond.selects RX0 yX0_limitHere yX0_limitHere, Cond.code yX0_limitHere cX0_limitHere 1 (some .int), Cond.methodLink RX0 96 yX0_endOf, Cond.instanceMethod yX0_endOf, Cond.selects RX0 yX0_endOf yX0_endOf, Cond.code yX0_endOf cX0_endOf 2 (some .int), Cond.methodLink RX0 83 yX0_offendByCutLength, Cond.instanceMethod yX0_offendByCutLength, Cond.selects RX0 yX0_offendByCutLength yX0_offendByCutLength, Cond.code yX0_offendByCutLength cX0_offendByCutLength 2 (some .int), Cond.methodLink RX0 86 yX0_numberAt, Cond.instanceMethod yX0_numberAt, Cond.selects RX0 yX0_numberAt yX0_numberAt, Cond.code yX0_numberAt cX0_numberAt 5 (some .int), Cond.methodLink RX0 89 yX1_lengthSize]
def wsX0_readValues_r3 : List Cond := [Cond.static yX1_lengthSize, Cond.code yX1_lengthSize cX1_lengthSize 1 (some .int), Cond.methodLink RX0 74 yX0_checkContents, Cond.instanceMethod yX0_checkContents, Cond.selects RX0 yX0_checkContents yX0_checkContents, Cond.code yX0_checkContents cX0_checkContents 4 (some .int), Cond.methodLink RX0 92 yX1_hold, Cond.static yX1_hold, Cond.code yX1_hold cX1_hold 4 (some .boolean), Cond.methodLink RX1 9 yX1_isRightInteger, Cond.static yX1_isRightInteger, Cond.code yX1_isRightInteger cX1_isRightInteger 4 (some .boolean), Cond.methodLink RX1 15 yX1_isRightBits, Cond.static yX1_isRightBits, Cond.code yX1_isRightBits cX1_isRightBits 5 (some .boolean), Cond.methodLink RX1 18 yX1_isRightObject, Cond.static yX1_isRightObject, Cond.code yX1_isRightObject cX1_isRightObject 5 (some .boolean), Cond.methodLink RX0 57 yX0_goOnFrom, Cond.instanceMethod yX0_goOnFrom, Cond.selects RX0 yX0_goOnFrom yX0_goOnFrom, Cond.code yX0_goOnFrom cX0_goOnFrom 2 (some .int), Cond.methodLink RX0 60 yX0_leaveSequencesThatEndAt, Cond.instanceMethod yX0_leaveSequencesThatEndAt]
def wsX0_readValues_r4 : List Cond := [Cond.selects RX0 yX0_leaveSequencesThatEndAt yX0_leaveSequencesThatEndAt, Cond.code yX0_leaveSequencesThatEndAt cX0_leaveSequencesThatEndAt 2 none]
def wsX0_readValues : List Cond := .code yX0_readValues cX0_readValues 4 (some .int) :: ((wsX0_readValues_r1 ++ (wsX0_readValues_r2 ++ (wsX0_readValues_r3 ++ wsX0_readValues_r4))) ++ wsX00)
def wsX0_readRow_r1 : List Cond := [Cond.fieldLink RX0 31 "DerDesk$Reader" "nodes" "I", Cond.fieldLink RX0 37 "DerDesk$Reader" "level" "I", Cond.fieldLink RX0 40 "DerDesk$Reader" "offencePlace" "I", Cond.methodLink RX0 49 yX0_readValues, Cond.instanceMethod yX0_readValues, Cond.selects RX0 yX0_readValues yX0_readValues, Cond.initialized RX0, Cond.code yX0_readValues cX0_readValues 4 (some .int), Cond.fieldLink RX0 15 "DerDesk$Reader" "rowSize" "I", Cond.methodLink RX0 53 yX0_readValue, Cond.instanceMethod yX0_readValue, Cond.selects RX0 yX0_readValue yX0_readValue, Cond.code yX0_readValue cX0_readValue 3 (some .int), Cond.methodLink RX0 68 yX0_readIdentifier, Cond.instanceMethod yX0_readIdentifier, Cond.selects RX0 yX0_readIdentifier yX0_readIdentifier, Cond.code yX0_readIdentifier cX0_readIdentifier 2 (some .int), Cond.fieldLink RX0 9 "DerDesk$Reader" "row" "[I", Cond.fieldLink RX0 19 "DerDesk$Reader" "tags" "[I", Cond.fieldLink RX0 28 "DerDesk$Reader" "parents" "[I", Cond.fieldLink RX0 34 "DerDesk$Reader" "around" "[I", Cond.methodLink RX0 64 yX0_offend, Cond.instanceMethod yX0_offend, Cond.selects RX0 yX0_offend yX0_offend]
def wsX0_readRow_r2 : List Cond := [Cond.code yX0_offend cX0_offend 3 (some .int), Cond.methodLink RX0 77 yX1_isIdentifier, Cond.static yX1_isIdentifier, Cond.initialized RX1, Cond.code yX1_isIdentifier cX1_isIdentifier 1 (some .boolean), Cond.methodLink RX0 71 yX0_readLength, Cond.instanceMethod yX0_readLength, Cond.selects RX0 yX0_readLength yX0_readLength, Cond.code yX0_readLength cX0_readLength 7 (some .int), Cond.fieldLink RX0 22 "DerDesk$Reader" "starts" "[I", Cond.fieldLink RX0 25 "DerDesk$Reader" "lengths" "[I", Cond.methodLink RX0 80 yX0_limitHere, Cond.instanceMethod yX0_limitHere, Cond.selects RX0 yX0_limitHere yX0_limitHere, Cond.code yX0_limitHere cX0_limitHere 1 (some .int), Cond.methodLink RX0 96 yX0_endOf, Cond.instanceMethod yX0_endOf, Cond.selects RX0 yX0_endOf yX0_endOf, Cond.code yX0_endOf cX0_endOf 2 (some .int), Cond.methodLink RX0 83 yX0_offendByCutLength, Cond.instanceMethod yX0_offendByCutLength, Cond.selects RX0 yX0_offendByCutLength yX0_offendByCutLength, Cond.code yX0_offendByCutLength cX0_offendByCutLength 2 (some .int), Cond.methodLink RX0 86 yX0_numberAt]
def wsX0_readRow_r3 : List Cond := [Cond.instanceMethod yX0_numberAt, Cond.selects RX0 yX0_numberAt yX0_numberAt, Cond.code yX0_numberAt cX0_numberAt 5 (some .int), Cond.methodLink RX0 89 yX1_lengthSize, Cond.static yX1_lengthSize, Cond.code yX1_lengthSize cX1_lengthSize 1 (some .int), Cond.methodLink RX0 74 yX0_checkContents, Cond.instanceMethod yX0_checkContents, Cond.selects RX0 yX0_checkContents yX0_checkContents, Cond.code yX0_checkContents cX0_checkContents 4 (some .int), Cond.methodLink RX0 92 yX1_hold, Cond.static yX1_hold, Cond.code yX1_hold cX1_hold 4 (some .boolean), Cond.methodLink RX1 9 yX1_isRightInteger, Cond.static yX1_isRightInteger, Cond.code yX1_isRightInteger cX1_isRightInteger 4 (some .boolean), Cond.methodLink RX1 15 yX1_isRightBits, Cond.static yX1_isRightBits, Cond.code yX1_isRightBits cX1_isRightBits 5 (some .boolean), Cond.methodLink RX1 18 yX1_isRightObject, Cond.static yX1_isRightObject, Cond.code yX1_isRightObject cX1_isRightObject 5 (some .boolean), Cond.methodLink RX0 57 yX0_goOnFrom, Cond.instanceMethod yX0_goOnFrom]
def wsX0_readRow_r4 : List Cond := [Cond.selects RX0 yX0_goOnFrom yX0_goOnFrom, Cond.code yX0_goOnFrom cX0_goOnFrom 2 (some .int), Cond.methodLink RX0 60 yX0_leaveSequencesThatEndAt, Cond.instanceMethod yX0_leaveSequencesThatEndAt, Cond.selects RX0 yX0_leaveSequencesThatEndAt yX0_leaveSequencesThatEndAt, Cond.code yX0_leaveSequencesThatEndAt cX0_leaveSequencesThatEndAt 2 none]
def wsX0_readRow : List Cond := .code yX0_readRow cX0_readRow 2 (some .int) :: ((wsX0_readRow_r1 ++ (wsX0_readRow_r2 ++ (wsX0_readRow_r3 ++ wsX0_readRow_r4))) ++ wsX00)
def wsX0_isNode : List Cond := .code yX0_isNode cX0_isNode 2 (some .boolean) :: ([.fieldLink RX0 31 "DerDesk$Reader" "nodes" "I"] ++ wsX00)
def wsX0_ofNode : List Cond := .code yX0_ofNode cX0_ofNode 3 (some .int) :: ([.methodLink RX0 99 yX0_isNode, .instanceMethod yX0_isNode, .selects RX0 yX0_isNode yX0_isNode, .initialized RX0, .code yX0_isNode cX0_isNode 2 (some .boolean), .fieldLink RX0 31 "DerDesk$Reader" "nodes" "I"] ++ wsX00)
def wsX0_isSmallInteger : List Cond := .code yX0_isSmallInteger cX0_isSmallInteger 2 (some .boolean) :: ([.fieldLink RX0 19 "DerDesk$Reader" "tags" "[I", .fieldLink RX0 25 "DerDesk$Reader" "lengths" "[I", .methodLink RX0 99 yX0_isNode, .instanceMethod yX0_isNode, .selects RX0 yX0_isNode yX0_isNode, .initialized RX0, .code yX0_isNode cX0_isNode 2 (some .boolean), .fieldLink RX0 31 "DerDesk$Reader" "nodes" "I"] ++ wsX00)
def wsX0_smallInteger : List Cond := .code yX0_smallInteger cX0_smallInteger 3 (some .int) :: ([.fieldLink RX0 25 "DerDesk$Reader" "lengths" "[I", .fieldLink RX0 22 "DerDesk$Reader" "starts" "[I", .methodLink RX0 102 yX0_isSmallInteger, .instanceMethod yX0_isSmallInteger, .selects RX0 yX0_isSmallInteger yX0_isSmallInteger, .initialized RX0, .code yX0_isSmallInteger cX0_isSmallInteger 2 (some .boolean), .fieldLink RX0 19 "DerDesk$Reader" "tags" "[I", .methodLink RX0 99 yX0_isNode, .instanceMethod yX0_isNode, .selects RX0 yX0_isNode yX0_isNode, .code yX0_isNode cX0_isNode 2 (some .boolean), .fieldLink RX0 31 "DerDesk$Reader" "nodes" "I", .methodLink RX0 86 yX0_numberAt, .instanceMethod yX0_numberAt, .selects RX0 yX0_numberAt yX0_numberAt, .code yX0_numberAt cX0_numberAt 5 (some .int), .fieldLink RX0 9 "DerDesk$Reader" "row" "[I"] ++ wsX00)
def wsX0_partOf : List Cond := .code yX0_partOf cX0_partOf 7 (some .long) :: ([.fieldLink RX0 22 "DerDesk$Reader" "starts" "[I", .fieldLink RX0 9 "DerDesk$Reader" "row" "[I", .constantLong RX0 121 (1099511627776), .methodLink RX0 123 Lib.MathLoose.min_long.x, .static Lib.MathLoose.min_long.x, .initialized "java/lang/Math", .code Lib.MathLoose.min_long.x Lib.MathLoose.min_long.code 4 (some .long), .constantLong RX0 129 (-1), .methodLink RX0 96 yX0_endOf, .instanceMethod yX0_endOf, .selects RX0 yX0_endOf yX0_endOf, .initialized RX0, .code yX0_endOf cX0_endOf 2 (some .int), .fieldLink RX0 25 "DerDesk$Reader" "lengths" "[I"] ++ wsX00)
def wsX0_firstArcOf : List Cond := .code yX0_firstArcOf cX0_firstArcOf 2 (some .int) :: ([.constantLong RX0 117 (40), .constantLong RX0 119 (80)])
def wsX0_arcOf_r1 : List Cond := [Cond.fieldLink RX0 19 "DerDesk$Reader" "tags" "[I", Cond.constantLong RX0 115 (2147483647), Cond.methodLink RX0 99 yX0_isNode, Cond.instanceMethod yX0_isNode, Cond.selects RX0 yX0_isNode yX0_isNode, Cond.initialized RX0, Cond.code yX0_isNode cX0_isNode 2 (some .boolean), Cond.fieldLink RX0 31 "DerDesk$Reader" "nodes" "I", Cond.methodLink RX0 105 yX0_partOf, Cond.instanceMethod yX0_partOf, Cond.selects RX0 yX0_partOf yX0_partOf, Cond.code yX0_partOf cX0_partOf 7 (some .long), Cond.fieldLink RX0 22 "DerDesk$Reader" "starts" "[I", Cond.fieldLink RX0 9 "DerDesk$Reader" "row" "[I", Cond.constantLong RX0 121 (1099511627776), Cond.methodLink RX0 123 Lib.MathLoose.min_long.x, Cond.static Lib.MathLoose.min_long.x, Cond.initialized "java/lang/Math", Cond.code Lib.MathLoose.min_long.x Lib.MathLoose.min_long.code 4 (some .long), Cond.constantLong RX0 129 (-1), Cond.methodLink RX0 96 yX0_endOf, Cond.instanceMethod yX0_endOf, Cond.selects RX0 yX0_endOf yX0_endOf, Cond.code yX0_endOf cX0_endOf 2 (some .int)]
def wsX0_arcOf_r2 : List Cond := [Cond.fieldLink RX0 25 "DerDesk$Reader" "lengths" "[I", Cond.methodLink RX0 109 yX0_firstArcOf, Cond.static yX0_firstArcOf, Cond.code yX0_firstArcOf cX0_firstArcOf 2 (some .int), Cond.constantLong RX0 117 (40), Cond.constantLong RX0 119 (80)]
def wsX0_arcOf : List Cond := .code yX0_arcOf cX0_arcOf 8 (some .int) :: ((wsX0_arcOf_r1 ++ wsX0_arcOf_r2) ++ wsX00)
def wsX2_init : List Cond := .code yX2_init cX2_init 1 none :: ([.methodLink RX2 3 objectInit, .instanceMethod objectInit, .code objectInit ⟨#[0xb1]⟩ 1 none, .arrayClass .int, .fieldLink RX2 9 "DerDesk$Writer" "bytes" "[I", .fieldLink RX2 15 "DerDesk$Writer" "size" "I", .fieldLink RX2 19 "DerDesk$Writer" "opened" "[I", .fieldLink RX2 22 "DerDesk$Writer" "depth" "I"] ++ wsX20)
def wsX2_clear : List Cond := .code yX2_clear cX2_clear 1 none :: ([.fieldLink RX2 15 "DerDesk$Writer" "size" "I", .fieldLink RX2 22 "DerDesk$Writer" "depth" "I"] ++ wsX20)
def wsX2_openTag : List Cond := .code yX2_openTag cX2_openTag 1 (some .int) :: ([.fieldLink RX2 22 "DerDesk$Writer" "depth" "I", .fieldLink RX2 9 "DerDesk$Writer" "bytes" "[I", .fieldLink RX2 19 "DerDesk$Writer" "opened" "[I"] ++ wsX20)
def wsX2_canHoldValue : List Cond := .code yX2_canHoldValue cX2_canHoldValue 1 (some .boolean) :: ([.fieldLink RX2 22 "DerDesk$Writer" "depth" "I", .fieldLink RX2 15 "DerDesk$Writer" "size" "I", .methodLink RX2 45 yX2_openTag, .instanceMethod yX2_openTag, .selects RX2 yX2_openTag yX2_openTag, .initialized RX2, .code yX2_openTag cX2_openTag 1 (some .int), .fieldLink RX2 9 "DerDesk$Writer" "bytes" "[I", .fieldLink RX2 19 "DerDesk$Writer" "opened" "[I"] ++ wsX20)
def wsX2_hasRoom : List Cond := .code yX2_hasRoom cX2_hasRoom 2 (some .boolean) :: ([.fieldLink RX2 15 "DerDesk$Writer" "size" "I"] ++ wsX20)
def wsX2_append : List Cond := .code yX2_append cX2_append 2 none :: ([.fieldLink RX2 15 "DerDesk$Writer" "size" "I", .fieldLink RX2 9 "DerDesk$Writer" "bytes" "[I"] ++ wsX20)
def wsX2_open_r1 : List Cond := [Cond.fieldLink RX2 22 "DerDesk$Writer" "depth" "I", Cond.fieldLink RX2 19 "DerDesk$Writer" "opened" "[I", Cond.fieldLink RX2 15 "DerDesk$Writer" "size" "I", Cond.methodLink RX2 25 yX1_isIdentifier, Cond.static yX1_isIdentifier, Cond.initialized RX1, Cond.code yX1_isIdentifier cX1_isIdentifier 1 (some .boolean), Cond.methodLink RX2 31 yX2_canHoldValue, Cond.instanceMethod yX2_canHoldValue, Cond.selects RX2 yX2_canHoldValue yX2_canHoldValue, Cond.initialized RX2, Cond.code yX2_canHoldValue cX2_canHoldValue 1 (some .boolean), Cond.methodLink RX2 45 yX2_openTag, Cond.instanceMethod yX2_openTag, Cond.selects RX2 yX2_openTag yX2_openTag, Cond.code yX2_openTag cX2_openTag 1 (some .int), Cond.fieldLink RX2 9 "DerDesk$Writer" "bytes" "[I", Cond.methodLink RX2 35 yX2_hasRoom, Cond.instanceMethod yX2_hasRoom, Cond.selects RX2 yX2_hasRoom yX2_hasRoom, Cond.code yX2_hasRoom cX2_hasRoom 2 (some .boolean), Cond.methodLink RX2 38 yX2_append, Cond.instanceMethod yX2_append, Cond.selects RX2 yX2_append yX2_append]
def wsX2_open_r2 : List Cond := [Cond.code yX2_append cX2_append 2 none]
def wsX2_open : List Cond := .code yX2_open cX2_open 2 (some .int) :: ((wsX2_open_r1 ++ wsX2_open_r2) ++ wsX20)
def wsX2_addByte : List Cond := .code yX2_addByte cX2_addByte 2 (some .int) :: ([.fieldLink RX2 22 "DerDesk$Writer" "depth" "I", .methodLink RX2 42 yX1_isByte, .static yX1_isByte, .initialized RX1, .code yX1_isByte cX1_isByte 1 (some .boolean), .methodLink RX2 45 yX2_openTag, .instanceMethod yX2_openTag, .selects RX2 yX2_openTag yX2_openTag, .initialized RX2, .code yX2_openTag cX2_openTag 1 (some .int), .fieldLink RX2 9 "DerDesk$Writer" "bytes" "[I", .fieldLink RX2 19 "DerDesk$Writer" "opened" "[I", .methodLink RX2 35 yX2_hasRoom, .instanceMethod yX2_hasRoom, .selects RX2 yX2_hasRoom yX2_hasRoom, .code yX2_hasRoom cX2_hasRoom 2 (some .boolean), .fieldLink RX2 15 "DerDesk$Writer" "size" "I", .methodLink RX2 38 yX2_append, .instanceMethod yX2_append, .selects RX2 yX2_append yX2_append, .code yX2_append cX2_append 2 none] ++ wsX20)
def wsX2_openLength : List Cond := .code yX2_openLength cX2_openLength 1 (some .int) :: ([.fieldLink RX2 22 "DerDesk$Writer" "depth" "I", .fieldLink RX2 15 "DerDesk$Writer" "size" "I", .fieldLink RX2 19 "DerDesk$Writer" "opened" "[I"] ++ wsX20)
def wsX2_integerSize : List Cond := .code yX2_integerSize cX2_integerSize 2 (some .int) :: ([])
def wsX2_addInteger : List Cond := .code yX2_addInteger cX2_addInteger 4 (some .int) :: ([.methodLink RX2 45 yX2_openTag, .instanceMethod yX2_openTag, .selects RX2 yX2_openTag yX2_openTag, .initialized RX2, .code yX2_openTag cX2_openTag 1 (some .int), .fieldLink RX2 22 "DerDesk$Writer" "depth" "I", .fieldLink RX2 9 "DerDesk$Writer" "bytes" "[I", .fieldLink RX2 19 "DerDesk$Writer" "opened" "[I", .methodLink RX2 49 yX2_openLength, .instanceMethod yX2_openLength, .selects RX2 yX2_openLength yX2_openLength, .code yX2_openLength cX2_openLength 1 (some .int), .fieldLink RX2 15 "DerDesk$Writer" "size" "I", .methodLink RX2 52 yX2_integerSize, .static yX2_integerSize, .code yX2_integerSize cX2_integerSize 2 (some .int), .methodLink RX2 35 yX2_hasRoom, .instanceMethod yX2_hasRoom, .selects RX2 yX2_hasRoom yX2_hasRoom, .code yX2_hasRoom cX2_hasRoom 2 (some .boolean), .methodLink RX2 38 yX2_append, .instanceMethod yX2_append, .selects RX2 yX2_append yX2_append, .code yX2_append cX2_append 2 none] ++ wsX20)
def wsX2_partSize : List Cond := .code yX2_partSize cX2_partSize 2 (some .int) :: ([])
def wsX2_addPart : List Cond := .code yX2_addPart cX2_addPart 5 (some .int) :: ([.methodLink RX2 45 yX2_openTag, .instanceMethod yX2_openTag, .selects RX2 yX2_openTag yX2_openTag, .initialized RX2, .code yX2_openTag cX2_openTag 1 (some .int), .fieldLink RX2 22 "DerDesk$Writer" "depth" "I", .fieldLink RX2 9 "DerDesk$Writer" "bytes" "[I", .fieldLink RX2 19 "DerDesk$Writer" "opened" "[I", .methodLink RX2 56 yX2_partSize, .static yX2_partSize, .code yX2_partSize cX2_partSize 2 (some .int), .methodLink RX2 35 yX2_hasRoom, .instanceMethod yX2_hasRoom, .selects RX2 yX2_hasRoom yX2_hasRoom, .code yX2_hasRoom cX2_hasRoom 2 (some .boolean), .fieldLink RX2 15 "DerDesk$Writer" "size" "I", .methodLink RX2 38 yX2_append, .instanceMethod yX2_append, .selects RX2 yX2_append yX2_append, .code yX2_append cX2_append 2 none] ++ wsX20)
def wsX2_makeGap : List Cond := .code yX2_makeGap cX2_makeGap 4 none :: ([.fieldLink RX2 15 "DerDesk$Writer" "size" "I", .fieldLink RX2 9 "DerDesk$Writer" "bytes" "[I"] ++ wsX20)
def wsX2_writeLength : List Cond := .code yX2_writeLength cX2_writeLength 6 none :: ([.fieldLink RX2 9 "DerDesk$Writer" "bytes" "[I"] ++ wsX20)
def wsX2_close_r1 : List Cond := [Cond.fieldLink RX2 22 "DerDesk$Writer" "depth" "I", Cond.fieldLink RX2 19 "DerDesk$Writer" "opened" "[I", Cond.fieldLink RX2 15 "DerDesk$Writer" "size" "I", Cond.fieldLink RX2 9 "DerDesk$Writer" "bytes" "[I", Cond.methodLink RX2 59 yX1_hold, Cond.static yX1_hold, Cond.initialized RX1, Cond.code yX1_hold cX1_hold 4 (some .boolean), Cond.methodLink RX1 9 yX1_isRightInteger, Cond.static yX1_isRightInteger, Cond.code yX1_isRightInteger cX1_isRightInteger 4 (some .boolean), Cond.methodLink RX1 15 yX1_isRightBits, Cond.static yX1_isRightBits, Cond.code yX1_isRightBits cX1_isRightBits 5 (some .boolean), Cond.methodLink RX1 18 yX1_isRightObject, Cond.static yX1_isRightObject, Cond.code yX1_isRightObject cX1_isRightObject 5 (some .boolean), Cond.methodLink RX2 63 yX1_lengthSize, Cond.static yX1_lengthSize, Cond.code yX1_lengthSize cX1_lengthSize 1 (some .int), Cond.methodLink RX2 35 yX2_hasRoom, Cond.instanceMethod yX2_hasRoom, Cond.selects RX2 yX2_hasRoom yX2_hasRoom, Cond.initialized RX2]
def wsX2_close_r2 : List Cond := [Cond.code yX2_hasRoom cX2_hasRoom 2 (some .boolean), Cond.methodLink RX2 66 yX2_makeGap, Cond.instanceMethod yX2_makeGap, Cond.selects RX2 yX2_makeGap yX2_makeGap, Cond.code yX2_makeGap cX2_makeGap 4 none, Cond.methodLink RX2 70 yX2_writeLength, Cond.instanceMethod yX2_writeLength, Cond.selects RX2 yX2_writeLength yX2_writeLength, Cond.code yX2_writeLength cX2_writeLength 6 none]
def wsX2_close : List Cond := .code yX2_close cX2_close 5 (some .int) :: ((wsX2_close_r1 ++ wsX2_close_r2) ++ wsX20)
def wsX2_byteAt : List Cond := .code yX2_byteAt cX2_byteAt 2 (some .int) :: ([.fieldLink RX2 15 "DerDesk$Writer" "size" "I", .fieldLink RX2 9 "DerDesk$Writer" "bytes" "[I"] ++ wsX20)
def wsX3_init_r1 : List Cond := [Cond.methodLink RX3 1 objectInit, Cond.instanceMethod objectInit, Cond.code objectInit ⟨#[0xb1]⟩ 1 none, Cond.classLink RX3 7 RX0, Cond.instantiable RX0 10, Cond.initialized RX0, Cond.fieldLink RX3 10 "DerDesk" "reader" "LDerDesk$Reader;", Cond.classLink RX3 16 RX2, Cond.instantiable RX2 4, Cond.initialized RX2, Cond.fieldLink RX3 19 "DerDesk" "writer" "LDerDesk$Writer;", Cond.instanceMethod yX0_init, Cond.code yX0_init cX0_init 1 none, Cond.methodLink RX0 3 objectInit, Cond.arrayClass .int, Cond.fieldLink RX0 9 "DerDesk$Reader" "row" "[I", Cond.fieldLink RX0 15 "DerDesk$Reader" "rowSize" "I", Cond.fieldLink RX0 19 "DerDesk$Reader" "tags" "[I", Cond.fieldLink RX0 22 "DerDesk$Reader" "starts" "[I", Cond.fieldLink RX0 25 "DerDesk$Reader" "lengths" "[I", Cond.fieldLink RX0 28 "DerDesk$Reader" "parents" "[I", Cond.fieldLink RX0 31 "DerDesk$Reader" "nodes" "I", Cond.fieldLink RX0 34 "DerDesk$Reader" "around" "[I", Cond.fieldLink RX0 37 "DerDesk$Reader" "level" "I"]
def wsX3_init_r2 : List Cond := [Cond.fieldLink RX0 40 "DerDesk$Reader" "offencePlace" "I", Cond.instanceMethod yX2_init, Cond.code yX2_init cX2_init 1 none, Cond.methodLink RX2 3 objectInit, Cond.fieldLink RX2 9 "DerDesk$Writer" "bytes" "[I", Cond.fieldLink RX2 15 "DerDesk$Writer" "size" "I", Cond.fieldLink RX2 19 "DerDesk$Writer" "opened" "[I", Cond.fieldLink RX2 22 "DerDesk$Writer" "depth" "I"]
def wsX3_init : List Cond := .code yX3_init cX3_init 1 none :: ((wsX3_init_r1 ++ wsX3_init_r2) ++ wsX00 ++ wsX30 ++ wsX20)
def wsX3_feed : List Cond := .code yX3_feed cX3_feed 2 (some .int) :: ([.fieldLink RX3 10 "DerDesk" "reader" "LDerDesk$Reader;", .methodLink RX3 23 yX0_addByte, .instanceMethod yX0_addByte, .selects RX0 yX0_addByte yX0_addByte, .initialized RX0, .code yX0_addByte cX0_addByte 2 (some .int), .fieldLink RX0 15 "DerDesk$Reader" "rowSize" "I", .fieldLink RX0 9 "DerDesk$Reader" "row" "[I", .fieldLink RX0 31 "DerDesk$Reader" "nodes" "I", .methodLink RX0 43 yX1_isByte, .static yX1_isByte, .initialized RX1, .code yX1_isByte cX1_isByte 1 (some .boolean)] ++ wsX30 ++ wsX00)
def wsX3_parse_r1 : List Cond := [Cond.fieldLink RX3 10 "DerDesk" "reader" "LDerDesk$Reader;", Cond.methodLink RX3 27 yX0_readRow, Cond.instanceMethod yX0_readRow, Cond.selects RX0 yX0_readRow yX0_readRow, Cond.initialized RX0, Cond.code yX0_readRow cX0_readRow 2 (some .int), Cond.fieldLink RX0 31 "DerDesk$Reader" "nodes" "I", Cond.fieldLink RX0 37 "DerDesk$Reader" "level" "I", Cond.fieldLink RX0 40 "DerDesk$Reader" "offencePlace" "I", Cond.methodLink RX0 49 yX0_readValues, Cond.instanceMethod yX0_readValues, Cond.selects RX0 yX0_readValues yX0_readValues, Cond.code yX0_readValues cX0_readValues 4 (some .int), Cond.fieldLink RX0 15 "DerDesk$Reader" "rowSize" "I", Cond.methodLink RX0 53 yX0_readValue, Cond.instanceMethod yX0_readValue, Cond.selects RX0 yX0_readValue yX0_readValue, Cond.code yX0_readValue cX0_readValue 3 (some .int), Cond.methodLink RX0 68 yX0_readIdentifier, Cond.instanceMethod yX0_readIdentifier, Cond.selects RX0 yX0_readIdentifier yX0_readIdentifier, Cond.code yX0_readIdentifier cX0_readIdentifier 2 (some .int), Cond.fieldLink RX0 9 "DerDesk$Reader" "row" "[I", Cond.fieldLink RX0 19 "DerDesk$Reader" "tags" "[I"]
def wsX3_parse_r2 : List Cond := [Cond.fieldLink RX0 28 "DerDesk$Reader" "parents" "[I", Cond.fieldLink RX0 34 "DerDesk$Reader" "around" "[I", Cond.methodLink RX0 64 yX0_offend, Cond.instanceMethod yX0_offend, Cond.selects RX0 yX0_offend yX0_offend, Cond.code yX0_offend cX0_offend 3 (some .int), Cond.methodLink RX0 77 yX1_isIdentifier, Cond.static yX1_isIdentifier, Cond.initialized RX1, Cond.code yX1_isIdentifier cX1_isIdentifier 1 (some .boolean), Cond.methodLink RX0 71 yX0_readLength, Cond.instanceMethod yX0_readLength, Cond.selects RX0 yX0_readLength yX0_readLength, Cond.code yX0_readLength cX0_readLength 7 (some .int), Cond.fieldLink RX0 22 "DerDesk$Reader" "starts" "[I", Cond.fieldLink RX0 25 "DerDesk$Reader" "lengths" "[I", Cond.methodLink RX0 80 yX0_limitHere, Cond.instanceMethod yX0_limitHere, Cond.selects RX0 yX0_limitHere yX0_limitHere, Cond.code yX0_limitHere cX0_limitHere 1 (some .int), Cond.methodLink RX0 96 yX0_endOf, Cond.instanceMethod yX0_endOf, Cond.selects RX0 yX0_endOf yX0_endOf, Cond.code yX0_endOf cX0_endOf 2 (some .int)]
def wsX3_parse_r3 : List Cond := [Cond.methodLink RX0 83 yX0_offendByCutLength, Cond.instanceMethod yX0_offendByCutLength, Cond.selects RX0 yX0_offendByCutLength yX0_offendByCutLength, Cond.code yX0_offendByCutLength cX0_offendByCutLength 2 (some .int), Cond.methodLink RX0 86 yX0_numberAt, Cond.instanceMethod yX0_numberAt, Cond.selects RX0 yX0_numberAt yX0_numberAt, Cond.code yX0_numberAt cX0_numberAt 5 (some .int), Cond.methodLink RX0 89 yX1_lengthSize, Cond.static yX1_lengthSize, Cond.code yX1_lengthSize cX1_lengthSize 1 (some .int), Cond.methodLink RX0 74 yX0_checkContents, Cond.instanceMethod yX0_checkContents, Cond.selects RX0 yX0_checkContents yX0_checkContents, Cond.code yX0_checkContents cX0_checkContents 4 (some .int), Cond.methodLink RX0 92 yX1_hold, Cond.static yX1_hold, Cond.code yX1_hold cX1_hold 4 (some .boolean), Cond.methodLink RX1 9 yX1_isRightInteger, Cond.static yX1_isRightInteger, Cond.code yX1_isRightInteger cX1_isRightInteger 4 (some .boolean), Cond.methodLink RX1 15 yX1_isRightBits, Cond.static yX1_isRightBits, Cond.code yX1_isRightBits cX1_isRightBits 5 (some .boolean)]
def wsX3_parse_r4 : List Cond := [Cond.methodLink RX1 18 yX1_isRightObject, Cond.static yX1_isRightObject, Cond.code yX1_isRightObject cX1_isRightObject 5 (some .boolean), Cond.methodLink RX0 57 yX0_goOnFrom, Cond.instanceMethod yX0_goOnFrom, Cond.selects RX0 yX0_goOnFrom yX0_goOnFrom, Cond.code yX0_goOnFrom cX0_goOnFrom 2 (some .int), Cond.methodLink RX0 60 yX0_leaveSequencesThatEndAt, Cond.instanceMethod yX0_leaveSequencesThatEndAt, Cond.selects RX0 yX0_leaveSequencesThatEndAt yX0_leaveSequencesThatEndAt, Cond.code yX0_leaveSequencesThatEndAt cX0_leaveSequencesThatEndAt 2 none]
def wsX3_parse : List Cond := .code yX3_parse cX3_parse 1 (some .int) :: ((wsX3_parse_r1 ++ (wsX3_parse_r2 ++ (wsX3_parse_r3 ++ wsX3_parse_r4))) ++ wsX30 ++ wsX00)
def wsX3_offence : List Cond := .code yX3_offence cX3_offence 1 (some .int) :: ([.fieldLink RX3 10 "DerDesk" "reader" "LDerDesk$Reader;"] ++ wsX30 ++ wsX00)
def wsX3_nodeCount : List Cond := .code yX3_nodeCount cX3_nodeCount 1 (some .int) :: ([.fieldLink RX3 10 "DerDesk" "reader" "LDerDesk$Reader;"] ++ wsX30 ++ wsX00)
def wsX3_tagOf : List Cond := .code yX3_tagOf cX3_tagOf 2 (some .int) :: ([.fieldLink RX3 10 "DerDesk" "reader" "LDerDesk$Reader;", .methodLink RX3 42 yX0_ofNode, .instanceMethod yX0_ofNode, .selects RX0 yX0_ofNode yX0_ofNode, .initialized RX0, .code yX0_ofNode cX0_ofNode 3 (some .int), .methodLink RX0 99 yX0_isNode, .instanceMethod yX0_isNode, .selects RX0 yX0_isNode yX0_isNode, .code yX0_isNode cX0_isNode 2 (some .boolean), .fieldLink RX0 31 "DerDesk$Reader" "nodes" "I"] ++ wsX30 ++ wsX00)
def wsX3_contentAt : List Cond := .code yX3_contentAt cX3_contentAt 2 (some .int) :: ([.fieldLink RX3 10 "DerDesk" "reader" "LDerDesk$Reader;", .methodLink RX3 42 yX0_ofNode, .instanceMethod yX0_ofNode, .selects RX0 yX0_ofNode yX0_ofNode, .initialized RX0, .code yX0_ofNode cX0_ofNode 3 (some .int), .methodLink RX0 99 yX0_isNode, .instanceMethod yX0_isNode, .selects RX0 yX0_isNode yX0_isNode, .code yX0_isNode cX0_isNode 2 (some .boolean), .fieldLink RX0 31 "DerDesk$Reader" "nodes" "I"] ++ wsX30 ++ wsX00)
def wsX3_contentLen : List Cond := .code yX3_contentLen cX3_contentLen 2 (some .int) :: ([.fieldLink RX3 10 "DerDesk" "reader" "LDerDesk$Reader;", .methodLink RX3 42 yX0_ofNode, .instanceMethod yX0_ofNode, .selects RX0 yX0_ofNode yX0_ofNode, .initialized RX0, .code yX0_ofNode cX0_ofNode 3 (some .int), .methodLink RX0 99 yX0_isNode, .instanceMethod yX0_isNode, .selects RX0 yX0_isNode yX0_isNode, .code yX0_isNode cX0_isNode 2 (some .boolean), .fieldLink RX0 31 "DerDesk$Reader" "nodes" "I"] ++ wsX30 ++ wsX00)
def wsX3_parent : List Cond := .code yX3_parent cX3_parent 2 (some .int) :: ([.fieldLink RX3 10 "DerDesk" "reader" "LDerDesk$Reader;", .methodLink RX3 42 yX0_ofNode, .instanceMethod yX0_ofNode, .selects RX0 yX0_ofNode yX0_ofNode, .initialized RX0, .code yX0_ofNode cX0_ofNode 3 (some .int), .methodLink RX0 99 yX0_isNode, .instanceMethod yX0_isNode, .selects RX0 yX0_isNode yX0_isNode, .code yX0_isNode cX0_isNode 2 (some .boolean), .fieldLink RX0 31 "DerDesk$Reader" "nodes" "I"] ++ wsX30 ++ wsX00)
def wsX3_oidArc_r1 : List Cond := [Cond.fieldLink RX3 10 "DerDesk" "reader" "LDerDesk$Reader;", Cond.methodLink RX3 55 yX0_arcOf, Cond.instanceMethod yX0_arcOf, Cond.selects RX0 yX0_arcOf yX0_arcOf, Cond.initialized RX0, Cond.code yX0_arcOf cX0_arcOf 8 (some .int), Cond.fieldLink RX0 19 "DerDesk$Reader" "tags" "[I", Cond.constantLong RX0 115 (2147483647), Cond.methodLink RX0 99 yX0_isNode, Cond.instanceMethod yX0_isNode, Cond.selects RX0 yX0_isNode yX0_isNode, Cond.code yX0_isNode cX0_isNode 2 (some .boolean), Cond.fieldLink RX0 31 "DerDesk$Reader" "nodes" "I", Cond.methodLink RX0 105 yX0_partOf, Cond.instanceMethod yX0_partOf, Cond.selects RX0 yX0_partOf yX0_partOf, Cond.code yX0_partOf cX0_partOf 7 (some .long), Cond.fieldLink RX0 22 "DerDesk$Reader" "starts" "[I", Cond.fieldLink RX0 9 "DerDesk$Reader" "row" "[I", Cond.constantLong RX0 121 (1099511627776), Cond.methodLink RX0 123 Lib.MathLoose.min_long.x, Cond.static Lib.MathLoose.min_long.x, Cond.initialized "java/lang/Math", Cond.code Lib.MathLoose.min_long.x Lib.MathLoose.min_long.code 4 (some .long)]
def wsX3_oidArc_r2 : List Cond := [Cond.constantLong RX0 129 (-1), Cond.methodLink RX0 96 yX0_endOf, Cond.instanceMethod yX0_endOf, Cond.selects RX0 yX0_endOf yX0_endOf, Cond.code yX0_endOf cX0_endOf 2 (some .int), Cond.fieldLink RX0 25 "DerDesk$Reader" "lengths" "[I", Cond.methodLink RX0 109 yX0_firstArcOf, Cond.static yX0_firstArcOf, Cond.code yX0_firstArcOf cX0_firstArcOf 2 (some .int), Cond.constantLong RX0 117 (40), Cond.constantLong RX0 119 (80)]
def wsX3_oidArc : List Cond := .code yX3_oidArc cX3_oidArc 3 (some .int) :: ((wsX3_oidArc_r1 ++ wsX3_oidArc_r2) ++ wsX30 ++ wsX00)
def wsX3_intFits : List Cond := .code yX3_intFits cX3_intFits 2 (some .boolean) :: ([.fieldLink RX3 10 "DerDesk" "reader" "LDerDesk$Reader;", .methodLink RX3 59 yX0_isSmallInteger, .instanceMethod yX0_isSmallInteger, .selects RX0 yX0_isSmallInteger yX0_isSmallInteger, .initialized RX0, .code yX0_isSmallInteger cX0_isSmallInteger 2 (some .boolean), .fieldLink RX0 19 "DerDesk$Reader" "tags" "[I", .fieldLink RX0 25 "DerDesk$Reader" "lengths" "[I", .methodLink RX0 99 yX0_isNode, .instanceMethod yX0_isNode, .selects RX0 yX0_isNode yX0_isNode, .code yX0_isNode cX0_isNode 2 (some .boolean), .fieldLink RX0 31 "DerDesk$Reader" "nodes" "I"] ++ wsX30 ++ wsX00)
def wsX3_intValue : List Cond := .code yX3_intValue cX3_intValue 2 (some .int) :: ([.fieldLink RX3 10 "DerDesk" "reader" "LDerDesk$Reader;", .methodLink RX3 63 yX0_smallInteger, .instanceMethod yX0_smallInteger, .selects RX0 yX0_smallInteger yX0_smallInteger, .initialized RX0, .code yX0_smallInteger cX0_smallInteger 3 (some .int), .fieldLink RX0 25 "DerDesk$Reader" "lengths" "[I", .fieldLink RX0 22 "DerDesk$Reader" "starts" "[I", .methodLink RX0 102 yX0_isSmallInteger, .instanceMethod yX0_isSmallInteger, .selects RX0 yX0_isSmallInteger yX0_isSmallInteger, .code yX0_isSmallInteger cX0_isSmallInteger 2 (some .boolean), .fieldLink RX0 19 "DerDesk$Reader" "tags" "[I", .methodLink RX0 99 yX0_isNode, .instanceMethod yX0_isNode, .selects RX0 yX0_isNode yX0_isNode, .code yX0_isNode cX0_isNode 2 (some .boolean), .fieldLink RX0 31 "DerDesk$Reader" "nodes" "I", .methodLink RX0 86 yX0_numberAt, .instanceMethod yX0_numberAt, .selects RX0 yX0_numberAt yX0_numberAt, .code yX0_numberAt cX0_numberAt 5 (some .int), .fieldLink RX0 9 "DerDesk$Reader" "row" "[I"] ++ wsX30 ++ wsX00)
def wsX3_wipe : List Cond := .code yX3_wipe cX3_wipe 1 none :: ([.fieldLink RX3 10 "DerDesk" "reader" "LDerDesk$Reader;", .methodLink RX3 66 yX0_clear, .instanceMethod yX0_clear, .selects RX0 yX0_clear yX0_clear, .initialized RX0, .code yX0_clear cX0_clear 1 none, .fieldLink RX0 15 "DerDesk$Reader" "rowSize" "I", .fieldLink RX0 31 "DerDesk$Reader" "nodes" "I"] ++ wsX30 ++ wsX00)
def wsX3_begin_r1 : List Cond := [Cond.fieldLink RX3 19 "DerDesk" "writer" "LDerDesk$Writer;", Cond.methodLink RX3 69 yX2_open, Cond.instanceMethod yX2_open, Cond.selects RX2 yX2_open yX2_open, Cond.initialized RX2, Cond.code yX2_open cX2_open 2 (some .int), Cond.fieldLink RX2 22 "DerDesk$Writer" "depth" "I", Cond.fieldLink RX2 19 "DerDesk$Writer" "opened" "[I", Cond.fieldLink RX2 15 "DerDesk$Writer" "size" "I", Cond.methodLink RX2 25 yX1_isIdentifier, Cond.static yX1_isIdentifier, Cond.initialized RX1, Cond.code yX1_isIdentifier cX1_isIdentifier 1 (some .boolean), Cond.methodLink RX2 31 yX2_canHoldValue, Cond.instanceMethod yX2_canHoldValue, Cond.selects RX2 yX2_canHoldValue yX2_canHoldValue, Cond.code yX2_canHoldValue cX2_canHoldValue 1 (some .boolean), Cond.methodLink RX2 45 yX2_openTag, Cond.instanceMethod yX2_openTag, Cond.selects RX2 yX2_openTag yX2_openTag, Cond.code yX2_openTag cX2_openTag 1 (some .int), Cond.fieldLink RX2 9 "DerDesk$Writer" "bytes" "[I", Cond.methodLink RX2 35 yX2_hasRoom, Cond.instanceMethod yX2_hasRoom]
def wsX3_begin_r2 : List Cond := [Cond.selects RX2 yX2_hasRoom yX2_hasRoom, Cond.code yX2_hasRoom cX2_hasRoom 2 (some .boolean), Cond.methodLink RX2 38 yX2_append, Cond.instanceMethod yX2_append, Cond.selects RX2 yX2_append yX2_append, Cond.code yX2_append cX2_append 2 none]
def wsX3_begin : List Cond := .code yX3_begin cX3_begin 2 (some .int) :: ((wsX3_begin_r1 ++ wsX3_begin_r2) ++ wsX30 ++ wsX20)
def wsX3_putByte_r1 : List Cond := [Cond.fieldLink RX3 19 "DerDesk" "writer" "LDerDesk$Writer;", Cond.methodLink RX3 72 yX2_addByte, Cond.instanceMethod yX2_addByte, Cond.selects RX2 yX2_addByte yX2_addByte, Cond.initialized RX2, Cond.code yX2_addByte cX2_addByte 2 (some .int), Cond.fieldLink RX2 22 "DerDesk$Writer" "depth" "I", Cond.methodLink RX2 42 yX1_isByte, Cond.static yX1_isByte, Cond.initialized RX1, Cond.code yX1_isByte cX1_isByte 1 (some .boolean), Cond.methodLink RX2 45 yX2_openTag, Cond.instanceMethod yX2_openTag, Cond.selects RX2 yX2_openTag yX2_openTag, Cond.code yX2_openTag cX2_openTag 1 (some .int), Cond.fieldLink RX2 9 "DerDesk$Writer" "bytes" "[I", Cond.fieldLink RX2 19 "DerDesk$Writer" "opened" "[I", Cond.methodLink RX2 35 yX2_hasRoom, Cond.instanceMethod yX2_hasRoom, Cond.selects RX2 yX2_hasRoom yX2_hasRoom, Cond.code yX2_hasRoom cX2_hasRoom 2 (some .boolean), Cond.fieldLink RX2 15 "DerDesk$Writer" "size" "I", Cond.methodLink RX2 38 yX2_append, Cond.instanceMethod yX2_append]
def wsX3_putByte_r2 : List Cond := [Cond.selects RX2 yX2_append yX2_append, Cond.code yX2_append cX2_append 2 none]
def wsX3_putByte : List Cond := .code yX3_putByte cX3_putByte 2 (some .int) :: ((wsX3_putByte_r1 ++ wsX3_putByte_r2) ++ wsX30 ++ wsX20)
def wsX3_putInt_r1 : List Cond := [Cond.fieldLink RX3 19 "DerDesk" "writer" "LDerDesk$Writer;", Cond.methodLink RX3 73 yX2_addInteger, Cond.instanceMethod yX2_addInteger, Cond.selects RX2 yX2_addInteger yX2_addInteger, Cond.initialized RX2, Cond.code yX2_addInteger cX2_addInteger 4 (some .int), Cond.methodLink RX2 45 yX2_openTag, Cond.instanceMethod yX2_openTag, Cond.selects RX2 yX2_openTag yX2_openTag, Cond.code yX2_openTag cX2_openTag 1 (some .int), Cond.fieldLink RX2 22 "DerDesk$Writer" "depth" "I", Cond.fieldLink RX2 9 "DerDesk$Writer" "bytes" "[I", Cond.fieldLink RX2 19 "DerDesk$Writer" "opened" "[I", Cond.methodLink RX2 49 yX2_openLength, Cond.instanceMethod yX2_openLength, Cond.selects RX2 yX2_openLength yX2_openLength, Cond.code yX2_openLength cX2_openLength 1 (some .int), Cond.fieldLink RX2 15 "DerDesk$Writer" "size" "I", Cond.methodLink RX2 52 yX2_integerSize, Cond.static yX2_integerSize, Cond.code yX2_integerSize cX2_integerSize 2 (some .int), Cond.methodLink RX2 35 yX2_hasRoom, Cond.instanceMethod yX2_hasRoom, Cond.selects RX2 yX2_hasRoom yX2_hasRoom]
def wsX3_putInt_r2 : List Cond := [Cond.code yX2_hasRoom cX2_hasRoom 2 (some .boolean), Cond.methodLink RX2 38 yX2_append, Cond.instanceMethod yX2_append, Cond.selects RX2 yX2_append yX2_append, Cond.code yX2_append cX2_append 2 none]
def wsX3_putInt : List Cond := .code yX3_putInt cX3_putInt 2 (some .int) :: ((wsX3_putInt_r1 ++ wsX3_putInt_r2) ++ wsX30 ++ wsX20)
def wsX3_putPart_r1 : List Cond := [Cond.fieldLink RX3 19 "DerDesk" "writer" "LDerDesk$Writer;", Cond.methodLink RX3 76 yX2_addPart, Cond.instanceMethod yX2_addPart, Cond.selects RX2 yX2_addPart yX2_addPart, Cond.initialized RX2, Cond.code yX2_addPart cX2_addPart 5 (some .int), Cond.methodLink RX2 45 yX2_openTag, Cond.instanceMethod yX2_openTag, Cond.selects RX2 yX2_openTag yX2_openTag, Cond.code yX2_openTag cX2_openTag 1 (some .int), Cond.fieldLink RX2 22 "DerDesk$Writer" "depth" "I", Cond.fieldLink RX2 9 "DerDesk$Writer" "bytes" "[I", Cond.fieldLink RX2 19 "DerDesk$Writer" "opened" "[I", Cond.methodLink RX2 56 yX2_partSize, Cond.static yX2_partSize, Cond.code yX2_partSize cX2_partSize 2 (some .int), Cond.methodLink RX2 35 yX2_hasRoom, Cond.instanceMethod yX2_hasRoom, Cond.selects RX2 yX2_hasRoom yX2_hasRoom, Cond.code yX2_hasRoom cX2_hasRoom 2 (some .boolean), Cond.fieldLink RX2 15 "DerDesk$Writer" "size" "I", Cond.methodLink RX2 38 yX2_append, Cond.instanceMethod yX2_append, Cond.selects RX2 yX2_append yX2_append]
def wsX3_putPart_r2 : List Cond := [Cond.code yX2_append cX2_append 2 none]
def wsX3_putPart : List Cond := .code yX3_putPart cX3_putPart 2 (some .int) :: ((wsX3_putPart_r1 ++ wsX3_putPart_r2) ++ wsX30 ++ wsX20)
def wsX3_end_r1 : List Cond := [Cond.fieldLink RX3 19 "DerDesk" "writer" "LDerDesk$Writer;", Cond.methodLink RX3 79 yX2_close, Cond.instanceMethod yX2_close, Cond.selects RX2 yX2_close yX2_close, Cond.initialized RX2, Cond.code yX2_close cX2_close 5 (some .int), Cond.fieldLink RX2 22 "DerDesk$Writer" "depth" "I", Cond.fieldLink RX2 19 "DerDesk$Writer" "opened" "[I", Cond.fieldLink RX2 15 "DerDesk$Writer" "size" "I", Cond.fieldLink RX2 9 "DerDesk$Writer" "bytes" "[I", Cond.methodLink RX2 59 yX1_hold, Cond.static yX1_hold, Cond.initialized RX1, Cond.code yX1_hold cX1_hold 4 (some .boolean), Cond.methodLink RX1 9 yX1_isRightInteger, Cond.static yX1_isRightInteger, Cond.code yX1_isRightInteger cX1_isRightInteger 4 (some .boolean), Cond.methodLink RX1 15 yX1_isRightBits, Cond.static yX1_isRightBits, Cond.code yX1_isRightBits cX1_isRightBits 5 (some .boolean), Cond.methodLink RX1 18 yX1_isRightObject, Cond.static yX1_isRightObject, Cond.code yX1_isRightObject cX1_isRightObject 5 (some .boolean), Cond.methodLink RX2 63 yX1_lengthSize]
def wsX3_end_r2 : List Cond := [Cond.static yX1_lengthSize, Cond.code yX1_lengthSize cX1_lengthSize 1 (some .int), Cond.methodLink RX2 35 yX2_hasRoom, Cond.instanceMethod yX2_hasRoom, Cond.selects RX2 yX2_hasRoom yX2_hasRoom, Cond.code yX2_hasRoom cX2_hasRoom 2 (some .boolean), Cond.methodLink RX2 66 yX2_makeGap, Cond.instanceMethod yX2_makeGap, Cond.selects RX2 yX2_makeGap yX2_makeGap, Cond.code yX2_makeGap cX2_makeGap 4 none, Cond.methodLink RX2 70 yX2_writeLength, Cond.instanceMethod yX2_writeLength, Cond.selects RX2 yX2_writeLength yX2_writeLength, Cond.code yX2_writeLength cX2_writeLength 6 none]
def wsX3_end : List Cond := .code yX3_end cX3_end 1 (some .int) :: ((wsX3_end_r1 ++ wsX3_end_r2) ++ wsX30 ++ wsX20)
def wsX3_out : List Cond := .code yX3_out cX3_out 2 (some .int) :: ([.fieldLink RX3 19 "DerDesk" "writer" "LDerDesk$Writer;", .methodLink RX3 82 yX2_byteAt, .instanceMethod yX2_byteAt, .selects RX2 yX2_byteAt yX2_byteAt, .initialized RX2, .code yX2_byteAt cX2_byteAt 2 (some .int), .fieldLink RX2 15 "DerDesk$Writer" "size" "I", .fieldLink RX2 9 "DerDesk$Writer" "bytes" "[I"] ++ wsX30 ++ wsX20)
def wsX3_outSize : List Cond := .code yX3_outSize cX3_outSize 1 (some .int) :: ([.fieldLink RX3 19 "DerDesk" "writer" "LDerDesk$Writer;"] ++ wsX30 ++ wsX20)
def wsX3_depth : List Cond := .code yX3_depth cX3_depth 1 (some .int) :: ([.fieldLink RX3 19 "DerDesk" "writer" "LDerDesk$Writer;"] ++ wsX30 ++ wsX20)
def wsX3_restart : List Cond := .code yX3_restart cX3_restart 1 none :: ([.fieldLink RX3 19 "DerDesk" "writer" "LDerDesk$Writer;", .methodLink RX3 91 yX2_clear, .instanceMethod yX2_clear, .selects RX2 yX2_clear yX2_clear, .initialized RX2, .code yX2_clear cX2_clear 1 none, .fieldLink RX2 15 "DerDesk$Writer" "size" "I", .fieldLink RX2 22 "DerDesk$Writer" "depth" "I"] ++ wsX30 ++ wsX20)
def wsX4_init : List Cond := .code yX4_init cX4_init 1 none :: ([.methodLink RX4 1 objectInit, .instanceMethod objectInit, .code objectInit ⟨#[0xb1]⟩ 1 none, .arrayClass .int, .fieldLink RX4 7 "DerDeskModel" "row" "[I", .fieldLink RX4 13 "DerDeskModel" "tags" "[I", .fieldLink RX4 16 "DerDeskModel" "starts" "[I", .fieldLink RX4 19 "DerDeskModel" "lengths" "[I", .fieldLink RX4 22 "DerDeskModel" "parents" "[I", .fieldLink RX4 25 "DerDeskModel" "offence" "I", .fieldLink RX4 29 "DerDeskModel" "around" "[I", .fieldLink RX4 32 "DerDeskModel" "text" "[I", .fieldLink RX4 35 "DerDeskModel" "output" "[I", .fieldLink RX4 38 "DerDeskModel" "opens" "[I"] ++ wsX40)
def wsX4_isByte : List Cond := .code yX4_isByte cX4_isByte 1 (some .boolean) :: ([])
def wsX4_isTag : List Cond := .code yX4_isTag cX4_isTag 1 (some .boolean) :: ([])
def wsX4_feed : List Cond := .code yX4_feed cX4_feed 2 (some .int) :: ([.fieldLink RX4 41 "DerDeskModel" "code" "I", .fieldLink RX4 48 "DerDeskModel" "size" "I", .fieldLink RX4 7 "DerDeskModel" "row" "[I", .fieldLink RX4 51 "DerDeskModel" "read" "Z", .methodLink RX4 44 yX4_isByte, .static yX4_isByte, .initialized RX4, .code yX4_isByte cX4_isByte 1 (some .boolean)] ++ wsX40)
def wsX4_wipe : List Cond := .code yX4_wipe cX4_wipe 1 none :: ([.fieldLink RX4 41 "DerDeskModel" "code" "I", .fieldLink RX4 48 "DerDeskModel" "size" "I", .fieldLink RX4 51 "DerDeskModel" "read" "Z"] ++ wsX40)
def wsX4_isRight : List Cond := .code yX4_isRight cX4_isRight 6 (some .boolean) :: ([.fieldLink RX4 32 "DerDeskModel" "text" "[I"] ++ wsX40)
def wsX4_fail : List Cond := .code yX4_fail cX4_fail 3 none :: ([.fieldLink RX4 55 "DerDeskModel" "result" "I", .fieldLink RX4 58 "DerDeskModel" "place" "I"] ++ wsX40)
def wsX4_isMissing : List Cond := .code yX4_isMissing cX4_isMissing 4 (some .boolean) :: ([.fieldLink RX4 61 "DerDeskModel" "depth" "I", .fieldLink RX4 48 "DerDeskModel" "size" "I", .fieldLink RX4 16 "DerDeskModel" "starts" "[I", .fieldLink RX4 29 "DerDeskModel" "around" "[I", .fieldLink RX4 19 "DerDeskModel" "lengths" "[I", .methodLink RX4 64 yX4_fail, .instanceMethod yX4_fail, .selects RX4 yX4_fail yX4_fail, .initialized RX4, .code yX4_fail cX4_fail 3 none, .fieldLink RX4 55 "DerDeskModel" "result" "I", .fieldLink RX4 58 "DerDeskModel" "place" "I"] ++ wsX40)
def wsX4_length : List Cond := .code yX4_length cX4_length 7 (some .int) :: ([.fieldLink RX4 7 "DerDeskModel" "row" "[I", .fieldLink RX4 72 "DerDeskModel" "at" "I", .methodLink RX4 68 yX4_isMissing, .instanceMethod yX4_isMissing, .selects RX4 yX4_isMissing yX4_isMissing, .initialized RX4, .code yX4_isMissing cX4_isMissing 4 (some .boolean), .fieldLink RX4 61 "DerDeskModel" "depth" "I", .fieldLink RX4 48 "DerDeskModel" "size" "I", .fieldLink RX4 16 "DerDeskModel" "starts" "[I", .fieldLink RX4 29 "DerDeskModel" "around" "[I", .fieldLink RX4 19 "DerDeskModel" "lengths" "[I", .methodLink RX4 64 yX4_fail, .instanceMethod yX4_fail, .selects RX4 yX4_fail yX4_fail, .code yX4_fail cX4_fail 3 none, .fieldLink RX4 55 "DerDeskModel" "result" "I", .fieldLink RX4 58 "DerDeskModel" "place" "I"] ++ wsX40)
def wsX4_value_r1 : List Cond := [Cond.fieldLink RX4 72 "DerDeskModel" "at" "I", Cond.fieldLink RX4 7 "DerDeskModel" "row" "[I", Cond.fieldLink RX4 78 "DerDeskModel" "found" "I", Cond.fieldLink RX4 61 "DerDeskModel" "depth" "I", Cond.fieldLink RX4 48 "DerDeskModel" "size" "I", Cond.fieldLink RX4 16 "DerDeskModel" "starts" "[I", Cond.fieldLink RX4 29 "DerDeskModel" "around" "[I", Cond.fieldLink RX4 19 "DerDeskModel" "lengths" "[I", Cond.fieldLink RX4 13 "DerDeskModel" "tags" "[I", Cond.fieldLink RX4 22 "DerDeskModel" "parents" "[I", Cond.fieldLink RX4 32 "DerDeskModel" "text" "[I", Cond.methodLink RX4 68 yX4_isMissing, Cond.instanceMethod yX4_isMissing, Cond.selects RX4 yX4_isMissing yX4_isMissing, Cond.initialized RX4, Cond.code yX4_isMissing cX4_isMissing 4 (some .boolean), Cond.methodLink RX4 64 yX4_fail, Cond.instanceMethod yX4_fail, Cond.selects RX4 yX4_fail yX4_fail, Cond.code yX4_fail cX4_fail 3 none, Cond.fieldLink RX4 55 "DerDeskModel" "result" "I", Cond.fieldLink RX4 58 "DerDeskModel" "place" "I", Cond.methodLink RX4 75 yX4_isTag, Cond.static yX4_isTag]
def wsX4_value_r2 : List Cond := [Cond.code yX4_isTag cX4_isTag 1 (some .boolean), Cond.methodLink RX4 81 yX4_length, Cond.instanceMethod yX4_length, Cond.selects RX4 yX4_length yX4_length, Cond.code yX4_length cX4_length 7 (some .int), Cond.methodLink RX4 85 yX4_isRight, Cond.instanceMethod yX4_isRight, Cond.selects RX4 yX4_isRight yX4_isRight, Cond.code yX4_isRight cX4_isRight 6 (some .boolean)]
def wsX4_value : List Cond := .code yX4_value cX4_value 5 none :: ((wsX4_value_r1 ++ wsX4_value_r2) ++ wsX40)
def wsX4_parse_r1 : List Cond := [Cond.fieldLink RX4 41 "DerDeskModel" "code" "I", Cond.fieldLink RX4 72 "DerDeskModel" "at" "I", Cond.fieldLink RX4 61 "DerDeskModel" "depth" "I", Cond.fieldLink RX4 78 "DerDeskModel" "found" "I", Cond.fieldLink RX4 55 "DerDeskModel" "result" "I", Cond.fieldLink RX4 58 "DerDeskModel" "place" "I", Cond.fieldLink RX4 51 "DerDeskModel" "read" "Z", Cond.fieldLink RX4 16 "DerDeskModel" "starts" "[I", Cond.fieldLink RX4 29 "DerDeskModel" "around" "[I", Cond.fieldLink RX4 19 "DerDeskModel" "lengths" "[I", Cond.fieldLink RX4 48 "DerDeskModel" "size" "I", Cond.fieldLink RX4 25 "DerDeskModel" "offence" "I", Cond.fieldLink RX4 91 "DerDeskModel" "nodes" "I", Cond.methodLink RX4 88 yX4_value, Cond.instanceMethod yX4_value, Cond.selects RX4 yX4_value yX4_value, Cond.initialized RX4, Cond.code yX4_value cX4_value 5 none, Cond.fieldLink RX4 7 "DerDeskModel" "row" "[I", Cond.fieldLink RX4 13 "DerDeskModel" "tags" "[I", Cond.fieldLink RX4 22 "DerDeskModel" "parents" "[I", Cond.fieldLink RX4 32 "DerDeskModel" "text" "[I", Cond.methodLink RX4 68 yX4_isMissing, Cond.instanceMethod yX4_isMissing]
def wsX4_parse_r2 : List Cond := [Cond.selects RX4 yX4_isMissing yX4_isMissing, Cond.code yX4_isMissing cX4_isMissing 4 (some .boolean), Cond.methodLink RX4 64 yX4_fail, Cond.instanceMethod yX4_fail, Cond.selects RX4 yX4_fail yX4_fail, Cond.code yX4_fail cX4_fail 3 none, Cond.methodLink RX4 75 yX4_isTag, Cond.static yX4_isTag, Cond.code yX4_isTag cX4_isTag 1 (some .boolean), Cond.methodLink RX4 81 yX4_length, Cond.instanceMethod yX4_length, Cond.selects RX4 yX4_length yX4_length, Cond.code yX4_length cX4_length 7 (some .int), Cond.methodLink RX4 85 yX4_isRight, Cond.instanceMethod yX4_isRight, Cond.selects RX4 yX4_isRight yX4_isRight, Cond.code yX4_isRight cX4_isRight 6 (some .boolean)]
def wsX4_parse : List Cond := .code yX4_parse cX4_parse 2 (some .int) :: ((wsX4_parse_r1 ++ wsX4_parse_r2) ++ wsX40)
def wsX4_offence : List Cond := .code yX4_offence cX4_offence 1 (some .int) :: ([.fieldLink RX4 41 "DerDeskModel" "code" "I", .fieldLink RX4 25 "DerDeskModel" "offence" "I"] ++ wsX40)
def wsX4_nodeCount : List Cond := .code yX4_nodeCount cX4_nodeCount 1 (some .int) :: ([.fieldLink RX4 41 "DerDeskModel" "code" "I", .fieldLink RX4 51 "DerDeskModel" "read" "Z", .fieldLink RX4 91 "DerDeskModel" "nodes" "I"] ++ wsX40)
def wsX4_isNode : List Cond := .code yX4_isNode cX4_isNode 2 (some .boolean) :: ([.fieldLink RX4 41 "DerDeskModel" "code" "I", .fieldLink RX4 51 "DerDeskModel" "read" "Z", .fieldLink RX4 91 "DerDeskModel" "nodes" "I"] ++ wsX40)
def wsX4_tagOf : List Cond := .code yX4_tagOf cX4_tagOf 2 (some .int) :: ([.fieldLink RX4 13 "DerDeskModel" "tags" "[I", .methodLink RX4 94 yX4_isNode, .instanceMethod yX4_isNode, .selects RX4 yX4_isNode yX4_isNode, .initialized RX4, .code yX4_isNode cX4_isNode 2 (some .boolean), .fieldLink RX4 41 "DerDeskModel" "code" "I", .fieldLink RX4 51 "DerDeskModel" "read" "Z", .fieldLink RX4 91 "DerDeskModel" "nodes" "I"] ++ wsX40)
def wsX4_contentAt : List Cond := .code yX4_contentAt cX4_contentAt 2 (some .int) :: ([.fieldLink RX4 16 "DerDeskModel" "starts" "[I", .methodLink RX4 94 yX4_isNode, .instanceMethod yX4_isNode, .selects RX4 yX4_isNode yX4_isNode, .initialized RX4, .code yX4_isNode cX4_isNode 2 (some .boolean), .fieldLink RX4 41 "DerDeskModel" "code" "I", .fieldLink RX4 51 "DerDeskModel" "read" "Z", .fieldLink RX4 91 "DerDeskModel" "nodes" "I"] ++ wsX40)
def wsX4_contentLen : List Cond := .code yX4_contentLen cX4_contentLen 2 (some .int) :: ([.fieldLink RX4 19 "DerDeskModel" "lengths" "[I", .methodLink RX4 94 yX4_isNode, .instanceMethod yX4_isNode, .selects RX4 yX4_isNode yX4_isNode, .initialized RX4, .code yX4_isNode cX4_isNode 2 (some .boolean), .fieldLink RX4 41 "DerDeskModel" "code" "I", .fieldLink RX4 51 "DerDeskModel" "read" "Z", .fieldLink RX4 91 "DerDeskModel" "nodes" "I"] ++ wsX40)
def wsX4_parent : List Cond := .code yX4_parent cX4_parent 2 (some .int) :: ([.fieldLink RX4 22 "DerDeskModel" "parents" "[I", .methodLink RX4 94 yX4_isNode, .instanceMethod yX4_isNode, .selects RX4 yX4_isNode yX4_isNode, .initialized RX4, .code yX4_isNode cX4_isNode 2 (some .boolean), .fieldLink RX4 41 "DerDeskModel" "code" "I", .fieldLink RX4 51 "DerDeskModel" "read" "Z", .fieldLink RX4 91 "DerDeskModel" "nodes" "I"] ++ wsX40)
def wsX4_oidArc : List Cond := .code yX4_oidArc cX4_oidArc 10 (some .int) :: ([.fieldLink RX4 13 "DerDeskModel" "tags" "[I", .fieldLink RX4 19 "DerDeskModel" "lengths" "[I", .fieldLink RX4 7 "DerDeskModel" "row" "[I", .fieldLink RX4 16 "DerDeskModel" "starts" "[I", .constantLong RX4 97 (1000000000000), .constantLong RX4 99 (128), .constantLong RX4 101 (40), .constantLong RX4 103 (80), .constantLong RX4 105 (2), .constantLong RX4 107 (2147483647), .methodLink RX4 94 yX4_isNode, .instanceMethod yX4_isNode, .selects RX4 yX4_isNode yX4_isNode, .initialized RX4, .code yX4_isNode cX4_isNode 2 (some .boolean), .fieldLink RX4 41 "DerDeskModel" "code" "I", .fieldLink RX4 51 "DerDeskModel" "read" "Z", .fieldLink RX4 91 "DerDeskModel" "nodes" "I"] ++ wsX40)
def wsX4_intFits : List Cond := .code yX4_intFits cX4_intFits 2 (some .boolean) :: ([.fieldLink RX4 13 "DerDeskModel" "tags" "[I", .fieldLink RX4 19 "DerDeskModel" "lengths" "[I", .methodLink RX4 94 yX4_isNode, .instanceMethod yX4_isNode, .selects RX4 yX4_isNode yX4_isNode, .initialized RX4, .code yX4_isNode cX4_isNode 2 (some .boolean), .fieldLink RX4 41 "DerDeskModel" "code" "I", .fieldLink RX4 51 "DerDeskModel" "read" "Z", .fieldLink RX4 91 "DerDeskModel" "nodes" "I"] ++ wsX40)
def wsX4_intValue : List Cond := .code yX4_intValue cX4_intValue 4 (some .int) :: ([.fieldLink RX4 7 "DerDeskModel" "row" "[I", .fieldLink RX4 16 "DerDeskModel" "starts" "[I", .fieldLink RX4 19 "DerDeskModel" "lengths" "[I", .methodLink RX4 109 yX4_intFits, .instanceMethod yX4_intFits, .selects RX4 yX4_intFits yX4_intFits, .initialized RX4, .code yX4_intFits cX4_intFits 2 (some .boolean), .fieldLink RX4 13 "DerDeskModel" "tags" "[I", .methodLink RX4 94 yX4_isNode, .instanceMethod yX4_isNode, .selects RX4 yX4_isNode yX4_isNode, .code yX4_isNode cX4_isNode 2 (some .boolean), .fieldLink RX4 41 "DerDeskModel" "code" "I", .fieldLink RX4 51 "DerDeskModel" "read" "Z", .fieldLink RX4 91 "DerDeskModel" "nodes" "I"] ++ wsX40)
def wsX4_restart : List Cond := .code yX4_restart cX4_restart 1 none :: ([.fieldLink RX4 41 "DerDeskModel" "code" "I", .fieldLink RX4 112 "DerDeskModel" "written" "I", .fieldLink RX4 115 "DerDeskModel" "open" "I", .fieldLink RX4 118 "DerDeskModel" "done" "Z"] ++ wsX40)
def wsX4_openTag : List Cond := .code yX4_openTag cX4_openTag 1 (some .int) :: ([.fieldLink RX4 115 "DerDeskModel" "open" "I", .fieldLink RX4 35 "DerDeskModel" "output" "[I", .fieldLink RX4 38 "DerDeskModel" "opens" "[I"] ++ wsX40)
def wsX4_begin : List Cond := .code yX4_begin cX4_begin 2 (some .int) :: ([.fieldLink RX4 41 "DerDeskModel" "code" "I", .fieldLink RX4 115 "DerDeskModel" "open" "I", .fieldLink RX4 118 "DerDeskModel" "done" "Z", .fieldLink RX4 112 "DerDeskModel" "written" "I", .fieldLink RX4 38 "DerDeskModel" "opens" "[I", .fieldLink RX4 35 "DerDeskModel" "output" "[I", .methodLink RX4 75 yX4_isTag, .static yX4_isTag, .initialized RX4, .code yX4_isTag cX4_isTag 1 (some .boolean), .methodLink RX4 121 yX4_openTag, .instanceMethod yX4_openTag, .selects RX4 yX4_openTag yX4_openTag, .code yX4_openTag cX4_openTag 1 (some .int)] ++ wsX40)
def wsX4_putByte : List Cond := .code yX4_putByte cX4_putByte 2 (some .int) :: ([.fieldLink RX4 41 "DerDeskModel" "code" "I", .fieldLink RX4 115 "DerDeskModel" "open" "I", .fieldLink RX4 112 "DerDeskModel" "written" "I", .fieldLink RX4 35 "DerDeskModel" "output" "[I", .methodLink RX4 44 yX4_isByte, .static yX4_isByte, .initialized RX4, .code yX4_isByte cX4_isByte 1 (some .boolean), .methodLink RX4 121 yX4_openTag, .instanceMethod yX4_openTag, .selects RX4 yX4_openTag yX4_openTag, .code yX4_openTag cX4_openTag 1 (some .int), .fieldLink RX4 38 "DerDeskModel" "opens" "[I"] ++ wsX40)
def wsX4_putInt : List Cond := .code yX4_putInt cX4_putInt 4 (some .int) :: ([.fieldLink RX4 41 "DerDeskModel" "code" "I", .fieldLink RX4 115 "DerDeskModel" "open" "I", .fieldLink RX4 112 "DerDeskModel" "written" "I", .fieldLink RX4 38 "DerDeskModel" "opens" "[I", .fieldLink RX4 35 "DerDeskModel" "output" "[I", .methodLink RX4 121 yX4_openTag, .instanceMethod yX4_openTag, .selects RX4 yX4_openTag yX4_openTag, .initialized RX4, .code yX4_openTag cX4_openTag 1 (some .int)] ++ wsX40)
def wsX4_putPart : List Cond := .code yX4_putPart cX4_putPart 4 (some .int) :: ([.fieldLink RX4 41 "DerDeskModel" "code" "I", .fieldLink RX4 115 "DerDeskModel" "open" "I", .fieldLink RX4 112 "DerDeskModel" "written" "I", .fieldLink RX4 35 "DerDeskModel" "output" "[I", .methodLink RX4 121 yX4_openTag, .instanceMethod yX4_openTag, .selects RX4 yX4_openTag yX4_openTag, .initialized RX4, .code yX4_openTag cX4_openTag 1 (some .int), .fieldLink RX4 38 "DerDeskModel" "opens" "[I"] ++ wsX40)
def wsX4_end : List Cond := .code yX4_end cX4_end 5 (some .int) :: ([.fieldLink RX4 41 "DerDeskModel" "code" "I", .fieldLink RX4 115 "DerDeskModel" "open" "I", .fieldLink RX4 38 "DerDeskModel" "opens" "[I", .fieldLink RX4 112 "DerDeskModel" "written" "I", .fieldLink RX4 32 "DerDeskModel" "text" "[I", .fieldLink RX4 35 "DerDeskModel" "output" "[I", .fieldLink RX4 118 "DerDeskModel" "done" "Z", .methodLink RX4 85 yX4_isRight, .instanceMethod yX4_isRight, .selects RX4 yX4_isRight yX4_isRight, .initialized RX4, .code yX4_isRight cX4_isRight 6 (some .boolean)] ++ wsX40)
def wsX4_out : List Cond := .code yX4_out cX4_out 2 (some .int) :: ([.fieldLink RX4 41 "DerDeskModel" "code" "I", .fieldLink RX4 112 "DerDeskModel" "written" "I", .fieldLink RX4 35 "DerDeskModel" "output" "[I"] ++ wsX40)
def wsX4_outSize : List Cond := .code yX4_outSize cX4_outSize 1 (some .int) :: ([.fieldLink RX4 41 "DerDeskModel" "code" "I", .fieldLink RX4 112 "DerDeskModel" "written" "I"] ++ wsX40)
def wsX4_depth : List Cond := .code yX4_depth cX4_depth 1 (some .int) :: ([.fieldLink RX4 41 "DerDeskModel" "code" "I", .fieldLink RX4 115 "DerDeskModel" "open" "I"] ++ wsX40)
def wsJ9_min_f86c9 : List Cond := .code yJ9_min_f86c9 cJ9_min_f86c9 4 (some .long) :: ([])
abbrev vwCl : List vw_C := [(RX0, TX0, 10), (RX2, TX2, 4), (RX3, TX3, 2), (RX4, TX4, 22)]
end
section
theorem dX0_init_0 : decode cX0_init 0 = .ok (.aload_n 0, 1) := by decide +kernel
theorem dX0_init_1 : decode cX0_init 1 = .ok (.invokespecial 3, 3) := by decide +kernel
theorem dX0_init_4 : decode cX0_init 4 = .ok (.aload_n 0, 1) := by decide +kernel
theorem dX0_init_5 : decode cX0_init 5 = .ok (.sipush 300, 3) := by decide +kernel
theorem dX0_init_8 : decode cX0_init 8 = .ok (.newarray .int, 2) := by decide +kernel
theorem dX0_init_10 : decode cX0_init 10 = .ok (.putfield 9, 3) := by decide +kernel
theorem dX0_init_13 : decode cX0_init 13 = .ok (.aload_n 0, 1) := by decide +kernel
theorem dX0_init_14 : decode cX0_init 14 = .ok (.iconst 0, 1) := by decide +kernel
theorem dX0_init_15 : decode cX0_init 15 = .ok (.putfield 15, 3) := by decide +kernel
theorem dX0_init_18 : decode cX0_init 18 = .ok (.aload_n 0, 1) := by decide +kernel
theorem dX0_init_19 : decode cX0_init 19 = .ok (.bipush 64, 2) := by decide +kernel
theorem dX0_init_21 : decode cX0_init 21 = .ok (.newarray .int, 2) := by decide +kernel
theorem dX0_init_23 : decode cX0_init 23 = .ok (.putfield 19, 3) := by decide +kernel
theorem dX0_init_26 : decode cX0_init 26 = .ok (.aload_n 0, 1) := by decide +kernel
theorem dX0_init_27 : decode cX0_init 27 = .ok (.bipush 64, 2) := by decide +kernel
theorem dX0_init_29 : decode cX0_init 29 = .ok (.newarray .int, 2) := by decide +kernel
theorem dX0_init_31 : decode cX0_init 31 = .ok (.putfield 22, 3) := by decide +kernel
theorem dX0_init_34 : decode cX0_init 34 = .ok (.aload_n 0, 1) := by decide +kernel
theorem dX0_init_35 : decode cX0_init 35 = .ok (.bipush 64, 2) := by decide +kernel
theorem dX0_init_37 : decode cX0_init 37 = .ok (.newarray .int, 2) := by decide +kernel
theorem dX0_init_39 : decode cX0_init 39 = .ok (.putfield 25, 3) := by decide +kernel
theorem dX0_init_42 : decode cX0_init 42 = .ok (.aload_n 0, 1) := by decide +kernel
theorem dX0_init_43 : decode cX0_init 43 = .ok (.bipush 64, 2) := by decide +kernel
theorem dX0_init_45 : decode cX0_init 45 = .ok (.newarray .int, 2) := by decide +kernel
theorem dX0_init_47 : decode cX0_init 47 = .ok (.putfield 28, 3) := by decide +kernel
theorem dX0_init_50 : decode cX0_init 50 = .ok (.aload_n 0, 1) := by decide +kernel
theorem dX0_init_51 : decode cX0_init 51 = .ok (.iconst 0, 1) := by decide +kernel
theorem dX0_init_52 : decode cX0_init 52 = .ok (.putfield 31, 3) := by decide +kernel
theorem dX0_init_55 : decode cX0_init 55 = .ok (.aload_n 0, 1) := by decide +kernel
theorem dX0_init_56 : decode cX0_init 56 = .ok (.bipush 16, 2) := by decide +kernel
theorem dX0_init_58 : decode cX0_init 58 = .ok (.newarray .int, 2) := by decide +kernel
theorem dX0_init_60 : decode cX0_init 60 = .ok (.putfield 34, 3) := by decide +kernel
theorem dX0_init_63 : decode cX0_init 63 = .ok (.aload_n 0, 1) := by decide +kernel
theorem dX0_init_64 : decode cX0_init 64 = .ok (.iconst 0, 1) := by decide +kernel
theorem dX0_init_65 : decode cX0_init 65 = .ok (.putfield 37, 3) := by decide +kernel
theorem dX0_init_68 : decode cX0_init 68 = .ok (.aload_n 0, 1) := by decide +kernel
theorem dX0_init_69 : decode cX0_init 69 = .ok (.iconst (-1), 1) := by decide +kernel
theorem dX0_init_70 : decode cX0_init 70 = .ok (.putfield 40, 3) := by decide +kernel
theorem dX0_init_73 : decode cX0_init 73 = .ok (.return_, 1) := by decide +kernel
set_option maxRecDepth 20000 in
theorem ggX0_addByte_X1_isByte : GoodIn wsX0_addByte wsX1_isByte := goodIn_r _ [7] (by decide +kernel) (by decide +kernel)
set_option maxRecDepth 20000 in
theorem gX0_addByte_X1_isByte : GoodIn wsX0_addByte (va_wsS RX0 43 yX1_isByte wsX1_isByte) := goodIn_app (goodIn_of _ (by decide +kernel)) ggX0_addByte_X1_isByte
theorem dX0_addByte_0 : decode cX0_addByte 0 = .ok (.iload_n 1, 1) := by decide +kernel
theorem dX0_addByte_1 : decode cX0_addByte 1 = .ok (.invokestatic 43, 3) := by decide +kernel
theorem dX0_addByte_4 : decode cX0_addByte 4 = .ok (.ifCond .ne 5, 3) := by decide +kernel
theorem dX0_addByte_7 : decode cX0_addByte 7 = .ok (.iconst (-1), 1) := by decide +kernel
theorem dX0_addByte_8 : decode cX0_addByte 8 = .ok (.ireturn, 1) := by decide +kernel
theorem dX0_addByte_9 : decode cX0_addByte 9 = .ok (.aload_n 0, 1) := by decide +kernel
theorem dX0_addByte_10 : decode cX0_addByte 10 = .ok (.getfield 15, 3) := by decide +kernel
theorem dX0_addByte_13 : decode cX0_addByte 13 = .ok (.sipush 300, 3) := by decide +kernel
theorem dX0_addByte_16 : decode cX0_addByte 16 = .ok (.if_icmp .lt 6, 3) := by decide +kernel
theorem dX0_addByte_19 : decode cX0_addByte 19 = .ok (.bipush (-3), 2) := by decide +kernel
theorem dX0_addByte_21 : decode cX0_addByte 21 = .ok (.ireturn, 1) := by decide +kernel
theorem dX0_addByte_22 : decode cX0_addByte 22 = .ok (.aload_n 0, 1) := by decide +kernel
theorem dX0_addByte_23 : decode cX0_addByte 23 = .ok (.getfield 9, 3) := by decide +kernel
theorem dX0_addByte_26 : decode cX0_addByte 26 = .ok (.aload_n 0, 1) := by decide +kernel
theorem dX0_addByte_27 : decode cX0_addByte 27 = .ok (.getfield 15, 3) := by decide +kernel
theorem dX0_addByte_30 : decode cX0_addByte 30 = .ok (.iload_n 1, 1) := by decide +kernel
theorem dX0_addByte_31 : decode cX0_addByte 31 = .ok (.iastore, 1) := by decide +kernel
theorem dX0_addByte_32 : decode cX0_addByte 32 = .ok (.aload_n 0, 1) := by decide +kernel
theorem dX0_addByte_33 : decode cX0_addByte 33 = .ok (.dup, 1) := by decide +kernel
theorem dX0_addByte_34 : decode cX0_addByte 34 = .ok (.getfield 15, 3) := by decide +kernel
theorem dX0_addByte_37 : decode cX0_addByte 37 = .ok (.iconst 1, 1) := by decide +kernel
theorem dX0_addByte_38 : decode cX0_addByte 38 = .ok (.iadd, 1) := by decide +kernel
theorem dX0_addByte_39 : decode cX0_addByte 39 = .ok (.putfield 15, 3) := by decide +kernel
theorem dX0_addByte_42 : decode cX0_addByte 42 = .ok (.aload_n 0, 1) := by decide +kernel
theorem dX0_addByte_43 : decode cX0_addByte 43 = .ok (.iconst 0, 1) := by decide +kernel
theorem dX0_addByte_44 : decode cX0_addByte 44 = .ok (.putfield 31, 3) := by decide +kernel
theorem dX0_addByte_47 : decode cX0_addByte 47 = .ok (.iconst 0, 1) := by decide +kernel
theorem dX0_addByte_48 : decode cX0_addByte 48 = .ok (.ireturn, 1) := by decide +kernel
theorem dX0_clear_0 : decode cX0_clear 0 = .ok (.aload_n 0, 1) := by decide +kernel
theorem dX0_clear_1 : decode cX0_clear 1 = .ok (.iconst 0, 1) := by decide +kernel
theorem dX0_clear_2 : decode cX0_clear 2 = .ok (.putfield 15, 3) := by decide +kernel
theorem dX0_clear_5 : decode cX0_clear 5 = .ok (.aload_n 0, 1) := by decide +kernel
theorem dX0_clear_6 : decode cX0_clear 6 = .ok (.iconst 0, 1) := by decide +kernel
theorem dX0_clear_7 : decode cX0_clear 7 = .ok (.putfield 31, 3) := by decide +kernel
theorem dX0_clear_10 : decode cX0_clear 10 = .ok (.return_, 1) := by decide +kernel
set_option maxRecDepth 20000 in
theorem ggX0_readRow_X0_readValues : GoodIn wsX0_readRow wsX0_readValues := goodIn_r _ [8, 1, 2, 9, 10, 11, 12, 7, 13, 14, 15, 16, 17, 18, 19, 20, 21, 22, 23, 24, 25, 3, 26, 27, 28, 29, 30, 31, 32, 33, 34, 35, 36, 37, 38, 39, 40, 41, 42, 43, 44, 45, 46, 47, 48, 49, 50, 51, 52, 53, 54, 55, 56, 57, 58, 59, 60, 61, 62, 63, 64, 65, 66, 67, 68, 69, 70, 71, 72, 73, 74, 75, 76, 77, 78, 79, 80, 81, 82, 83, 84, 85, 86, 87, 88] (by decide +kernel) (by decide +kernel)
set_option maxRecDepth 20000 in
theorem gX0_readRow_X0_readValues : GoodIn wsX0_readRow (wsV RX0 49 RX0 yX0_readValues wsX0_readValues) := goodIn_app (goodIn_of _ (by decide +kernel)) ggX0_readRow_X0_readValues
theorem dX0_readRow_0 : decode cX0_readRow 0 = .ok (.aload_n 0, 1) := by decide +kernel
theorem dX0_readRow_1 : decode cX0_readRow 1 = .ok (.iconst 0, 1) := by decide +kernel
theorem dX0_readRow_2 : decode cX0_readRow 2 = .ok (.putfield 31, 3) := by decide +kernel
theorem dX0_readRow_5 : decode cX0_readRow 5 = .ok (.aload_n 0, 1) := by decide +kernel
theorem dX0_readRow_6 : decode cX0_readRow 6 = .ok (.iconst 0, 1) := by decide +kernel
theorem dX0_readRow_7 : decode cX0_readRow 7 = .ok (.putfield 37, 3) := by decide +kernel
theorem dX0_readRow_10 : decode cX0_readRow 10 = .ok (.aload_n 0, 1) := by decide +kernel
theorem dX0_readRow_11 : decode cX0_readRow 11 = .ok (.iconst (-1), 1) := by decide +kernel
theorem dX0_readRow_12 : decode cX0_readRow 12 = .ok (.putfield 40, 3) := by decide +kernel
theorem dX0_readRow_15 : decode cX0_readRow 15 = .ok (.aload_n 0, 1) := by decide +kernel
theorem dX0_readRow_16 : decode cX0_readRow 16 = .ok (.invokevirtual 49, 3) := by decide +kernel
theorem dX0_readRow_19 : decode cX0_readRow 19 = .ok (.istore_n 1, 1) := by decide +kernel
theorem dX0_readRow_20 : decode cX0_readRow 20 = .ok (.iload_n 1, 1) := by decide +kernel
theorem dX0_readRow_21 : decode cX0_readRow 21 = .ok (.ifCond .eq 8, 3) := by decide +kernel
theorem dX0_readRow_24 : decode cX0_readRow 24 = .ok (.aload_n 0, 1) := by decide +kernel
theorem dX0_readRow_25 : decode cX0_readRow 25 = .ok (.iconst 0, 1) := by decide +kernel
theorem dX0_readRow_26 : decode cX0_readRow 26 = .ok (.putfield 31, 3) := by decide +kernel
theorem dX0_readRow_29 : decode cX0_readRow 29 = .ok (.iload_n 1, 1) := by decide +kernel
theorem dX0_readRow_30 : decode cX0_readRow 30 = .ok (.ireturn, 1) := by decide +kernel
set_option maxRecDepth 20000 in
theorem ggX0_readValues_X0_readValue : GoodIn wsX0_readValues wsX0_readValue := goodIn_r _ [8, 1, 9, 10, 11, 7, 12, 3, 13, 2, 14, 15, 16, 17, 18, 19, 20, 21, 22, 23, 24, 25, 26, 27, 28, 29, 30, 31, 32, 33, 34, 35, 36, 37, 38, 39, 40, 41, 42, 43, 44, 45, 46, 47, 48, 49, 50, 51, 52, 53, 54, 55, 56, 57, 58, 59, 60, 61, 62, 63, 64, 65, 66, 75, 76, 77, 78, 79, 80, 81, 82, 83, 84] (by decide +kernel) (by decide +kernel)
set_option maxRecDepth 20000 in
theorem gX0_readValues_X0_readValue : GoodIn wsX0_readValues (wsV RX0 53 RX0 yX0_readValue wsX0_readValue) := goodIn_app (goodIn_of _ (by decide +kernel)) ggX0_readValues_X0_readValue
set_option maxRecDepth 20000 in
theorem ggX0_readValues_X0_goOnFrom : GoodIn wsX0_readValues wsX0_goOnFrom := goodIn_r _ [70, 14, 16, 2, 30, 36, 37, 38, 7, 39, 31, 75, 76, 77, 78, 79, 80, 81, 82, 83, 84] (by decide +kernel) (by decide +kernel)
set_option maxRecDepth 20000 in
theorem gX0_readValues_X0_goOnFrom : GoodIn wsX0_readValues (wsV RX0 57 RX0 yX0_goOnFrom wsX0_goOnFrom) := goodIn_app (goodIn_of _ (by decide +kernel)) ggX0_readValues_X0_goOnFrom
set_option maxRecDepth 20000 in
theorem ggX0_readValues_X0_leaveSequencesThatEndAt : GoodIn wsX0_readValues wsX0_leaveSequencesThatEndAt := goodIn_r _ [74, 2, 16, 36, 37, 38, 7, 39, 30, 31, 75, 76, 77, 78, 79, 80, 81, 82, 83, 84] (by decide +kernel) (by decide +kernel)
set_option maxRecDepth 20000 in
theorem gX0_readValues_X0_leaveSequencesThatEndAt : GoodIn wsX0_readValues (wsV RX0 60 RX0 yX0_leaveSequencesThatEndAt wsX0_leaveSequencesThatEndAt) := goodIn_app (goodIn_of _ (by decide +kernel)) ggX0_readValues_X0_leaveSequencesThatEndAt
set_option maxRecDepth 20000 in
theorem ggX0_readValues_X0_offend : GoodIn wsX0_readValues wsX0_offend := goodIn_r _ [20, 21, 75, 76, 77, 78, 79, 80, 81, 82, 83, 84] (by decide +kernel) (by decide +kernel)
set_option maxRecDepth 20000 in
theorem gX0_readValues_X0_offend : GoodIn wsX0_readValues (wsV RX0 64 RX0 yX0_offend wsX0_offend) := goodIn_app (goodIn_of _ (by decide +kernel)) ggX0_readValues_X0_offend
theorem dX0_readValues_0 : decode cX0_readValues 0 = .ok (.iconst 0, 1) := by decide +kernel
theorem dX0_readValues_1 : decode cX0_readValues 1 = .ok (.istore_n 1, 1) := by decide +kernel
theorem dX0_readValues_2 : decode cX0_readValues 2 = .ok (.iconst 0, 1) := by decide +kernel
theorem dX0_readValues_3 : decode cX0_readValues 3 = .ok (.istore_n 2, 1) := by decide +kernel
theorem dX0_readValues_4 : decode cX0_readValues 4 = .ok (.iload_n 2, 1) := by decide +kernel
theorem dX0_readValues_5 : decode cX0_readValues 5 = .ok (.bipush 64, 2) := by decide +kernel
theorem dX0_readValues_7 : decode cX0_readValues 7 = .ok (.if_icmp .gt 64, 3) := by decide +kernel
theorem dX0_readValues_10 : decode cX0_readValues 10 = .ok (.aload_n 0, 1) := by decide +kernel
theorem dX0_readValues_11 : decode cX0_readValues 11 = .ok (.iload_n 1, 1) := by decide +kernel
theorem dX0_readValues_12 : decode cX0_readValues 12 = .ok (.invokevirtual 53, 3) := by decide +kernel
theorem dX0_readValues_15 : decode cX0_readValues 15 = .ok (.istore_n 3, 1) := by decide +kernel
theorem dX0_readValues_16 : decode cX0_readValues 16 = .ok (.iload_n 3, 1) := by decide +kernel
theorem dX0_readValues_17 : decode cX0_readValues 17 = .ok (.ifCond .eq 5, 3) := by decide +kernel
theorem dX0_readValues_20 : decode cX0_readValues 20 = .ok (.iload_n 3, 1) := by decide +kernel
theorem dX0_readValues_21 : decode cX0_readValues 21 = .ok (.ireturn, 1) := by decide +kernel
theorem dX0_readValues_22 : decode cX0_readValues 22 = .ok (.aload_n 0, 1) := by decide +kernel
theorem dX0_readValues_23 : decode cX0_readValues 23 = .ok (.aload_n 0, 1) := by decide +kernel
theorem dX0_readValues_24 : decode cX0_readValues 24 = .ok (.getfield 31, 3) := by decide +kernel
theorem dX0_readValues_27 : decode cX0_readValues 27 = .ok (.iconst 1, 1) := by decide +kernel
theorem dX0_readValues_28 : decode cX0_readValues 28 = .ok (.isub, 1) := by decide +kernel
theorem dX0_readValues_29 : decode cX0_readValues 29 = .ok (.invokevirtual 57, 3) := by decide +kernel
theorem dX0_readValues_32 : decode cX0_readValues 32 = .ok (.istore_n 1, 1) := by decide +kernel
theorem dX0_readValues_33 : decode cX0_readValues 33 = .ok (.aload_n 0, 1) := by decide +kernel
theorem dX0_readValues_34 : decode cX0_readValues 34 = .ok (.iload_n 1, 1) := by decide +kernel
theorem dX0_readValues_35 : decode cX0_readValues 35 = .ok (.invokevirtual 60, 3) := by decide +kernel
theorem dX0_readValues_38 : decode cX0_readValues 38 = .ok (.aload_n 0, 1) := by decide +kernel
theorem dX0_readValues_39 : decode cX0_readValues 39 = .ok (.getfield 37, 3) := by decide +kernel
theorem dX0_readValues_42 : decode cX0_readValues 42 = .ok (.ifCond .ne 23, 3) := by decide +kernel
theorem dX0_readValues_45 : decode cX0_readValues 45 = .ok (.iload_n 1, 1) := by decide +kernel
theorem dX0_readValues_46 : decode cX0_readValues 46 = .ok (.aload_n 0, 1) := by decide +kernel
theorem dX0_readValues_47 : decode cX0_readValues 47 = .ok (.getfield 15, 3) := by decide +kernel
theorem dX0_readValues_50 : decode cX0_readValues 50 = .ok (.if_icmp .ge 13, 3) := by decide +kernel
theorem dX0_readValues_53 : decode cX0_readValues 53 = .ok (.aload_n 0, 1) := by decide +kernel
theorem dX0_readValues_54 : decode cX0_readValues 54 = .ok (.bipush (-6), 2) := by decide +kernel
theorem dX0_readValues_56 : decode cX0_readValues 56 = .ok (.iload_n 1, 1) := by decide +kernel
theorem dX0_readValues_57 : decode cX0_readValues 57 = .ok (.invokevirtual 64, 3) := by decide +kernel
theorem dX0_readValues_60 : decode cX0_readValues 60 = .ok (.goto 4, 3) := by decide +kernel
theorem dX0_readValues_63 : decode cX0_readValues 63 = .ok (.iconst 0, 1) := by decide +kernel
theorem dX0_readValues_64 : decode cX0_readValues 64 = .ok (.ireturn, 1) := by decide +kernel
theorem dX0_readValues_65 : decode cX0_readValues 65 = .ok (.iinc 2 1, 3) := by decide +kernel
theorem dX0_readValues_68 : decode cX0_readValues 68 = .ok (.goto (-64), 3) := by decide +kernel
theorem dX0_readValues_71 : decode cX0_readValues 71 = .ok (.aload_n 0, 1) := by decide +kernel
theorem dX0_readValues_72 : decode cX0_readValues 72 = .ok (.bipush (-7), 2) := by decide +kernel
theorem dX0_readValues_74 : decode cX0_readValues 74 = .ok (.iload_n 1, 1) := by decide +kernel
theorem dX0_readValues_75 : decode cX0_readValues 75 = .ok (.invokevirtual 64, 3) := by decide +kernel
theorem dX0_readValues_78 : decode cX0_readValues 78 = .ok (.ireturn, 1) := by decide +kernel
set_option maxRecDepth 20000 in
theorem ggX0_readValue_X0_readIdentifier : GoodIn wsX0_readValue wsX0_readIdentifier := goodIn_r _ [6, 7, 8, 1, 9, 10, 11, 12, 13, 14, 15, 5, 16, 17, 18, 19, 20, 21, 63, 64, 65, 66, 67, 68, 69, 70, 71, 72] (by decide +kernel) (by decide +kernel)
set_option maxRecDepth 20000 in
theorem gX0_readValue_X0_readIdentifier : GoodIn wsX0_readValue (wsV RX0 68 RX0 yX0_readIdentifier wsX0_readIdentifier) := goodIn_app (goodIn_of _ (by decide +kernel)) ggX0_readValue_X0_readIdentifier
set_option maxRecDepth 20000 in
theorem ggX0_readValue_X0_readLength : GoodIn wsX0_readValue wsX0_readLength := goodIn_r _ [25, 8, 26, 1, 27, 28, 29, 30, 5, 31, 9, 7, 12, 32, 33, 34, 35, 36, 37, 38, 39, 13, 14, 15, 16, 17, 40, 41, 42, 43, 44, 45, 20, 46, 63, 64, 65, 66, 67, 68, 69, 70, 71, 72] (by decide +kernel) (by decide +kernel)
set_option maxRecDepth 20000 in
theorem gX0_readValue_X0_readLength : GoodIn wsX0_readValue (wsV RX0 71 RX0 yX0_readLength wsX0_readLength) := goodIn_app (goodIn_of _ (by decide +kernel)) ggX0_readValue_X0_readLength
set_option maxRecDepth 20000 in
theorem ggX0_readValue_X0_checkContents : GoodIn wsX0_readValue wsX0_checkContents := goodIn_r _ [50, 26, 1, 27, 10, 8, 28, 29, 30, 5, 31, 9, 7, 12, 32, 33, 34, 35, 13, 14, 15, 16, 17, 51, 52, 20, 53, 54, 55, 56, 57, 58, 59, 60, 61, 62, 63, 64, 65, 66, 67, 68, 69, 70, 71, 72] (by decide +kernel) (by decide +kernel)
set_option maxRecDepth 20000 in
theorem gX0_readValue_X0_checkContents : GoodIn wsX0_readValue (wsV RX0 74 RX0 yX0_checkContents wsX0_checkContents) := goodIn_app (goodIn_of _ (by decide +kernel)) ggX0_readValue_X0_checkContents
theorem dX0_readValue_0 : decode cX0_readValue 0 = .ok (.aload_n 0, 1) := by decide +kernel
theorem dX0_readValue_1 : decode cX0_readValue 1 = .ok (.iload_n 1, 1) := by decide +kernel
theorem dX0_readValue_2 : decode cX0_readValue 2 = .ok (.invokevirtual 68, 3) := by decide +kernel
theorem dX0_readValue_5 : decode cX0_readValue 5 = .ok (.istore_n 2, 1) := by decide +kernel
theorem dX0_readValue_6 : decode cX0_readValue 6 = .ok (.iload_n 2, 1) := by decide +kernel
theorem dX0_readValue_7 : decode cX0_readValue 7 = .ok (.ifCond .ne 9, 3) := by decide +kernel
theorem dX0_readValue_10 : decode cX0_readValue 10 = .ok (.aload_n 0, 1) := by decide +kernel
theorem dX0_readValue_11 : decode cX0_readValue 11 = .ok (.iload_n 1, 1) := by decide +kernel
theorem dX0_readValue_12 : decode cX0_readValue 12 = .ok (.invokevirtual 71, 3) := by decide +kernel
theorem dX0_readValue_15 : decode cX0_readValue 15 = .ok (.istore_n 2, 1) := by decide +kernel
theorem dX0_readValue_16 : decode cX0_readValue 16 = .ok (.iload_n 2, 1) := by decide +kernel
theorem dX0_readValue_17 : decode cX0_readValue 17 = .ok (.ifCond .ne 9, 3) := by decide +kernel
theorem dX0_readValue_20 : decode cX0_readValue 20 = .ok (.aload_n 0, 1) := by decide +kernel
theorem dX0_readValue_21 : decode cX0_readValue 21 = .ok (.iload_n 1, 1) := by decide +kernel
theorem dX0_readValue_22 : decode cX0_readValue 22 = .ok (.invokevirtual 74, 3) := by decide +kernel
theorem dX0_readValue_25 : decode cX0_readValue 25 = .ok (.istore_n 2, 1) := by decide +kernel
theorem dX0_readValue_26 : decode cX0_readValue 26 = .ok (.iload_n 2, 1) := by decide +kernel
theorem dX0_readValue_27 : decode cX0_readValue 27 = .ok (.ifCond .ne 13, 3) := by decide +kernel
theorem dX0_readValue_30 : decode cX0_readValue 30 = .ok (.aload_n 0, 1) := by decide +kernel
theorem dX0_readValue_31 : decode cX0_readValue 31 = .ok (.dup, 1) := by decide +kernel
theorem dX0_readValue_32 : decode cX0_readValue 32 = .ok (.getfield 31, 3) := by decide +kernel
theorem dX0_readValue_35 : decode cX0_readValue 35 = .ok (.iconst 1, 1) := by decide +kernel
theorem dX0_readValue_36 : decode cX0_readValue 36 = .ok (.iadd, 1) := by decide +kernel
theorem dX0_readValue_37 : decode cX0_readValue 37 = .ok (.putfield 31, 3) := by decide +kernel
theorem dX0_readValue_40 : decode cX0_readValue 40 = .ok (.iload_n 2, 1) := by decide +kernel
theorem dX0_readValue_41 : decode cX0_readValue 41 = .ok (.ireturn, 1) := by decide +kernel
set_option maxRecDepth 20000 in
theorem ggX0_readIdentifier_X0_offend : GoodIn wsX0_readIdentifier wsX0_offend := goodIn_r _ [12, 13, 18, 19, 20, 21, 22, 23, 24, 25, 26, 27] (by decide +kernel) (by decide +kernel)
set_option maxRecDepth 20000 in
theorem gX0_readIdentifier_X0_offend : GoodIn wsX0_readIdentifier (wsV RX0 64 RX0 yX0_offend wsX0_offend) := goodIn_app (goodIn_of _ (by decide +kernel)) ggX0_readIdentifier_X0_offend
set_option maxRecDepth 20000 in
theorem ggX0_readIdentifier_X1_isIdentifier : GoodIn wsX0_readIdentifier wsX1_isIdentifier := goodIn_r _ [17] (by decide +kernel) (by decide +kernel)
set_option maxRecDepth 20000 in
theorem gX0_readIdentifier_X1_isIdentifier : GoodIn wsX0_readIdentifier (va_wsS RX0 77 yX1_isIdentifier wsX1_isIdentifier) := goodIn_app (goodIn_of _ (by decide +kernel)) ggX0_readIdentifier_X1_isIdentifier
theorem dX0_readIdentifier_0 : decode cX0_readIdentifier 0 = .ok (.iload_n 1, 1) := by decide +kernel
theorem dX0_readIdentifier_1 : decode cX0_readIdentifier 1 = .ok (.aload_n 0, 1) := by decide +kernel
theorem dX0_readIdentifier_2 : decode cX0_readIdentifier 2 = .ok (.getfield 15, 3) := by decide +kernel
theorem dX0_readIdentifier_5 : decode cX0_readIdentifier 5 = .ok (.if_icmp .lt 13, 3) := by decide +kernel
theorem dX0_readIdentifier_8 : decode cX0_readIdentifier 8 = .ok (.aload_n 0, 1) := by decide +kernel
theorem dX0_readIdentifier_9 : decode cX0_readIdentifier 9 = .ok (.iconst (-1), 1) := by decide +kernel
theorem dX0_readIdentifier_10 : decode cX0_readIdentifier 10 = .ok (.aload_n 0, 1) := by decide +kernel
theorem dX0_readIdentifier_11 : decode cX0_readIdentifier 11 = .ok (.getfield 15, 3) := by decide +kernel
theorem dX0_readIdentifier_14 : decode cX0_readIdentifier 14 = .ok (.invokevirtual 64, 3) := by decide +kernel
theorem dX0_readIdentifier_17 : decode cX0_readIdentifier 17 = .ok (.ireturn, 1) := by decide +kernel
theorem dX0_readIdentifier_18 : decode cX0_readIdentifier 18 = .ok (.aload_n 0, 1) := by decide +kernel
theorem dX0_readIdentifier_19 : decode cX0_readIdentifier 19 = .ok (.getfield 9, 3) := by decide +kernel
theorem dX0_readIdentifier_22 : decode cX0_readIdentifier 22 = .ok (.iload_n 1, 1) := by decide +kernel
theorem dX0_readIdentifier_23 : decode cX0_readIdentifier 23 = .ok (.iaload, 1) := by decide +kernel
theorem dX0_readIdentifier_24 : decode cX0_readIdentifier 24 = .ok (.invokestatic 77, 3) := by decide +kernel
theorem dX0_readIdentifier_27 : decode cX0_readIdentifier 27 = .ok (.ifCond .ne 11, 3) := by decide +kernel
theorem dX0_readIdentifier_30 : decode cX0_readIdentifier 30 = .ok (.aload_n 0, 1) := by decide +kernel
theorem dX0_readIdentifier_31 : decode cX0_readIdentifier 31 = .ok (.bipush (-2), 2) := by decide +kernel
theorem dX0_readIdentifier_33 : decode cX0_readIdentifier 33 = .ok (.iload_n 1, 1) := by decide +kernel
theorem dX0_readIdentifier_34 : decode cX0_readIdentifier 34 = .ok (.invokevirtual 64, 3) := by decide +kernel
theorem dX0_readIdentifier_37 : decode cX0_readIdentifier 37 = .ok (.ireturn, 1) := by decide +kernel
theorem dX0_readIdentifier_38 : decode cX0_readIdentifier 38 = .ok (.aload_n 0, 1) := by decide +kernel
theorem dX0_readIdentifier_39 : decode cX0_readIdentifier 39 = .ok (.getfield 31, 3) := by decide +kernel
theorem dX0_readIdentifier_42 : decode cX0_readIdentifier 42 = .ok (.bipush 64, 2) := by decide +kernel
theorem dX0_readIdentifier_44 : decode cX0_readIdentifier 44 = .ok (.if_icmp .ge 12, 3) := by decide +kernel
theorem dX0_readIdentifier_47 : decode cX0_readIdentifier 47 = .ok (.aload_n 0, 1) := by decide +kernel
theorem dX0_readIdentifier_48 : decode cX0_readIdentifier 48 = .ok (.getfield 37, 3) := by decide +kernel
theorem dX0_readIdentifier_51 : decode cX0_readIdentifier 51 = .ok (.bipush 16, 2) := by decide +kernel
theorem dX0_readIdentifier_53 : decode cX0_readIdentifier 53 = .ok (.if_icmp .lt 11, 3) := by decide +kernel
theorem dX0_readIdentifier_56 : decode cX0_readIdentifier 56 = .ok (.aload_n 0, 1) := by decide +kernel
theorem dX0_readIdentifier_57 : decode cX0_readIdentifier 57 = .ok (.bipush (-7), 2) := by decide +kernel
theorem dX0_readIdentifier_59 : decode cX0_readIdentifier 59 = .ok (.iload_n 1, 1) := by decide +kernel
theorem dX0_readIdentifier_60 : decode cX0_readIdentifier 60 = .ok (.invokevirtual 64, 3) := by decide +kernel
theorem dX0_readIdentifier_63 : decode cX0_readIdentifier 63 = .ok (.ireturn, 1) := by decide +kernel
theorem dX0_readIdentifier_64 : decode cX0_readIdentifier 64 = .ok (.aload_n 0, 1) := by decide +kernel
theorem dX0_readIdentifier_65 : decode cX0_readIdentifier 65 = .ok (.getfield 19, 3) := by decide +kernel
theorem dX0_readIdentifier_68 : decode cX0_readIdentifier 68 = .ok (.aload_n 0, 1) := by decide +kernel
theorem dX0_readIdentifier_69 : decode cX0_readIdentifier 69 = .ok (.getfield 31, 3) := by decide +kernel
theorem dX0_readIdentifier_72 : decode cX0_readIdentifier 72 = .ok (.aload_n 0, 1) := by decide +kernel
theorem dX0_readIdentifier_73 : decode cX0_readIdentifier 73 = .ok (.getfield 9, 3) := by decide +kernel
theorem dX0_readIdentifier_76 : decode cX0_readIdentifier 76 = .ok (.iload_n 1, 1) := by decide +kernel
theorem dX0_readIdentifier_77 : decode cX0_readIdentifier 77 = .ok (.iaload, 1) := by decide +kernel
theorem dX0_readIdentifier_78 : decode cX0_readIdentifier 78 = .ok (.iastore, 1) := by decide +kernel
theorem dX0_readIdentifier_79 : decode cX0_readIdentifier 79 = .ok (.aload_n 0, 1) := by decide +kernel
theorem dX0_readIdentifier_80 : decode cX0_readIdentifier 80 = .ok (.getfield 28, 3) := by decide +kernel
theorem dX0_readIdentifier_83 : decode cX0_readIdentifier 83 = .ok (.aload_n 0, 1) := by decide +kernel
theorem dX0_readIdentifier_84 : decode cX0_readIdentifier 84 = .ok (.getfield 31, 3) := by decide +kernel
theorem dX0_readIdentifier_87 : decode cX0_readIdentifier 87 = .ok (.aload_n 0, 1) := by decide +kernel
theorem dX0_readIdentifier_88 : decode cX0_readIdentifier 88 = .ok (.getfield 37, 3) := by decide +kernel
theorem dX0_readIdentifier_91 : decode cX0_readIdentifier 91 = .ok (.ifCond .ne 7, 3) := by decide +kernel
theorem dX0_readIdentifier_94 : decode cX0_readIdentifier 94 = .ok (.iconst (-1), 1) := by decide +kernel
theorem dX0_readIdentifier_95 : decode cX0_readIdentifier 95 = .ok (.goto 14, 3) := by decide +kernel
theorem dX0_readIdentifier_98 : decode cX0_readIdentifier 98 = .ok (.aload_n 0, 1) := by decide +kernel
theorem dX0_readIdentifier_99 : decode cX0_readIdentifier 99 = .ok (.getfield 34, 3) := by decide +kernel
theorem dX0_readIdentifier_102 : decode cX0_readIdentifier 102 = .ok (.aload_n 0, 1) := by decide +kernel
theorem dX0_readIdentifier_103 : decode cX0_readIdentifier 103 = .ok (.getfield 37, 3) := by decide +kernel
theorem dX0_readIdentifier_106 : decode cX0_readIdentifier 106 = .ok (.iconst 1, 1) := by decide +kernel
theorem dX0_readIdentifier_107 : decode cX0_readIdentifier 107 = .ok (.isub, 1) := by decide +kernel
theorem dX0_readIdentifier_108 : decode cX0_readIdentifier 108 = .ok (.iaload, 1) := by decide +kernel
theorem dX0_readIdentifier_109 : decode cX0_readIdentifier 109 = .ok (.iastore, 1) := by decide +kernel
theorem dX0_readIdentifier_110 : decode cX0_readIdentifier 110 = .ok (.iconst 0, 1) := by decide +kernel
theorem dX0_readIdentifier_111 : decode cX0_readIdentifier 111 = .ok (.ireturn, 1) := by decide +kernel
set_option maxRecDepth 20000 in
theorem ggX0_readLength_X0_limitHere : GoodIn wsX0_readLength wsX0_limitHere := goodIn_r _ [9, 10, 11, 12, 13, 14, 15, 8, 16, 2, 4, 34, 35, 36, 37, 38, 39, 40, 41, 42, 43] (by decide +kernel) (by decide +kernel)
set_option maxRecDepth 20000 in
theorem gX0_readLength_X0_limitHere : GoodIn wsX0_readLength (wsV RX0 80 RX0 yX0_limitHere wsX0_limitHere) := goodIn_app (goodIn_of _ (by decide +kernel)) ggX0_readLength_X0_limitHere
set_option maxRecDepth 20000 in
theorem ggX0_readLength_X0_offendByCutLength : GoodIn wsX0_readLength wsX0_offendByCutLength := goodIn_r _ [20, 10, 11, 21, 22, 23, 8, 24, 25, 34, 35, 36, 37, 38, 39, 40, 41, 42, 43] (by decide +kernel) (by decide +kernel)
set_option maxRecDepth 20000 in
theorem gX0_readLength_X0_offendByCutLength : GoodIn wsX0_readLength (wsV RX0 83 RX0 yX0_offendByCutLength wsX0_offendByCutLength) := goodIn_app (goodIn_of _ (by decide +kernel)) ggX0_readLength_X0_offendByCutLength
set_option maxRecDepth 20000 in
theorem ggX0_readLength_X0_offend : GoodIn wsX0_readLength wsX0_offend := goodIn_r _ [24, 25, 34, 35, 36, 37, 38, 39, 40, 41, 42, 43] (by decide +kernel) (by decide +kernel)
set_option maxRecDepth 20000 in
theorem gX0_readLength_X0_offend : GoodIn wsX0_readLength (wsV RX0 64 RX0 yX0_offend wsX0_offend) := goodIn_app (goodIn_of _ (by decide +kernel)) ggX0_readLength_X0_offend
set_option maxRecDepth 20000 in
theorem ggX0_readLength_X0_numberAt : GoodIn wsX0_readLength wsX0_numberAt := goodIn_r _ [29, 1, 34, 35, 36, 37, 38, 39, 40, 41, 42, 43] (by decide +kernel) (by decide +kernel)
set_option maxRecDepth 20000 in
theorem gX0_readLength_X0_numberAt : GoodIn wsX0_readLength (wsV RX0 86 RX0 yX0_numberAt wsX0_numberAt) := goodIn_app (goodIn_of _ (by decide +kernel)) ggX0_readLength_X0_numberAt
set_option maxRecDepth 20000 in
theorem ggX0_readLength_X1_lengthSize : GoodIn wsX0_readLength wsX1_lengthSize := goodIn_r _ [33] (by decide +kernel) (by decide +kernel)
set_option maxRecDepth 20000 in
theorem gX0_readLength_X1_lengthSize : GoodIn wsX0_readLength (va_wsS RX0 89 yX1_lengthSize wsX1_lengthSize) := goodIn_app (goodIn_of _ (by decide +kernel)) ggX0_readLength_X1_lengthSize
theorem dX0_readLength_0 : decode cX0_readLength 0 = .ok (.iload_n 1, 1) := by decide +kernel
theorem dX0_readLength_1 : decode cX0_readLength 1 = .ok (.iconst 1, 1) := by decide +kernel
theorem dX0_readLength_2 : decode cX0_readLength 2 = .ok (.iadd, 1) := by decide +kernel
theorem dX0_readLength_3 : decode cX0_readLength 3 = .ok (.istore_n 2, 1) := by decide +kernel
theorem dX0_readLength_4 : decode cX0_readLength 4 = .ok (.aload_n 0, 1) := by decide +kernel
theorem dX0_readLength_5 : decode cX0_readLength 5 = .ok (.invokevirtual 80, 3) := by decide +kernel
theorem dX0_readLength_8 : decode cX0_readLength 8 = .ok (.istore_n 3, 1) := by decide +kernel
theorem dX0_readLength_9 : decode cX0_readLength 9 = .ok (.iload_n 2, 1) := by decide +kernel
theorem dX0_readLength_10 : decode cX0_readLength 10 = .ok (.iload_n 3, 1) := by decide +kernel
theorem dX0_readLength_11 : decode cX0_readLength 11 = .ok (.if_icmp .lt 9, 3) := by decide +kernel
theorem dX0_readLength_14 : decode cX0_readLength 14 = .ok (.aload_n 0, 1) := by decide +kernel
theorem dX0_readLength_15 : decode cX0_readLength 15 = .ok (.iload_n 1, 1) := by decide +kernel
theorem dX0_readLength_16 : decode cX0_readLength 16 = .ok (.invokevirtual 83, 3) := by decide +kernel
theorem dX0_readLength_19 : decode cX0_readLength 19 = .ok (.ireturn, 1) := by decide +kernel
theorem dX0_readLength_20 : decode cX0_readLength 20 = .ok (.aload_n 0, 1) := by decide +kernel
theorem dX0_readLength_21 : decode cX0_readLength 21 = .ok (.getfield 9, 3) := by decide +kernel
theorem dX0_readLength_24 : decode cX0_readLength 24 = .ok (.iload_n 2, 1) := by decide +kernel
theorem dX0_readLength_25 : decode cX0_readLength 25 = .ok (.iaload, 1) := by decide +kernel
theorem dX0_readLength_26 : decode cX0_readLength 26 = .ok (.istore 4, 2) := by decide +kernel
theorem dX0_readLength_28 : decode cX0_readLength 28 = .ok (.iload 4, 2) := by decide +kernel
theorem dX0_readLength_30 : decode cX0_readLength 30 = .ok (.sipush 128, 3) := by decide +kernel
theorem dX0_readLength_33 : decode cX0_readLength 33 = .ok (.if_icmp .eq 11, 3) := by decide +kernel
theorem dX0_readLength_36 : decode cX0_readLength 36 = .ok (.iload 4, 2) := by decide +kernel
theorem dX0_readLength_38 : decode cX0_readLength 38 = .ok (.sipush 130, 3) := by decide +kernel
theorem dX0_readLength_41 : decode cX0_readLength 41 = .ok (.if_icmp .le 11, 3) := by decide +kernel
theorem dX0_readLength_44 : decode cX0_readLength 44 = .ok (.aload_n 0, 1) := by decide +kernel
theorem dX0_readLength_45 : decode cX0_readLength 45 = .ok (.bipush (-3), 2) := by decide +kernel
theorem dX0_readLength_47 : decode cX0_readLength 47 = .ok (.iload_n 2, 1) := by decide +kernel
theorem dX0_readLength_48 : decode cX0_readLength 48 = .ok (.invokevirtual 64, 3) := by decide +kernel
theorem dX0_readLength_51 : decode cX0_readLength 51 = .ok (.ireturn, 1) := by decide +kernel
theorem dX0_readLength_52 : decode cX0_readLength 52 = .ok (.iload 4, 2) := by decide +kernel
theorem dX0_readLength_54 : decode cX0_readLength 54 = .ok (.sipush 128, 3) := by decide +kernel
theorem dX0_readLength_57 : decode cX0_readLength 57 = .ok (.if_icmp .ge 7, 3) := by decide +kernel
theorem dX0_readLength_60 : decode cX0_readLength 60 = .ok (.iconst 0, 1) := by decide +kernel
theorem dX0_readLength_61 : decode cX0_readLength 61 = .ok (.goto 9, 3) := by decide +kernel
theorem dX0_readLength_64 : decode cX0_readLength 64 = .ok (.iload 4, 2) := by decide +kernel
theorem dX0_readLength_66 : decode cX0_readLength 66 = .ok (.sipush 128, 3) := by decide +kernel
theorem dX0_readLength_69 : decode cX0_readLength 69 = .ok (.isub, 1) := by decide +kernel
theorem dX0_readLength_70 : decode cX0_readLength 70 = .ok (.istore 5, 2) := by decide +kernel
theorem dX0_readLength_72 : decode cX0_readLength 72 = .ok (.iload_n 2, 1) := by decide +kernel
theorem dX0_readLength_73 : decode cX0_readLength 73 = .ok (.iload 5, 2) := by decide +kernel
theorem dX0_readLength_75 : decode cX0_readLength 75 = .ok (.iadd, 1) := by decide +kernel
theorem dX0_readLength_76 : decode cX0_readLength 76 = .ok (.iload_n 3, 1) := by decide +kernel
theorem dX0_readLength_77 : decode cX0_readLength 77 = .ok (.if_icmp .lt 9, 3) := by decide +kernel
theorem dX0_readLength_80 : decode cX0_readLength 80 = .ok (.aload_n 0, 1) := by decide +kernel
theorem dX0_readLength_81 : decode cX0_readLength 81 = .ok (.iload_n 1, 1) := by decide +kernel
theorem dX0_readLength_82 : decode cX0_readLength 82 = .ok (.invokevirtual 83, 3) := by decide +kernel
theorem dX0_readLength_85 : decode cX0_readLength 85 = .ok (.ireturn, 1) := by decide +kernel
theorem dX0_readLength_86 : decode cX0_readLength 86 = .ok (.iload 5, 2) := by decide +kernel
theorem dX0_readLength_88 : decode cX0_readLength 88 = .ok (.ifCond .ne 8, 3) := by decide +kernel
theorem dX0_readLength_91 : decode cX0_readLength 91 = .ok (.iload 4, 2) := by decide +kernel
theorem dX0_readLength_93 : decode cX0_readLength 93 = .ok (.goto 12, 3) := by decide +kernel
theorem dX0_readLength_96 : decode cX0_readLength 96 = .ok (.aload_n 0, 1) := by decide +kernel
theorem dX0_readLength_97 : decode cX0_readLength 97 = .ok (.iload_n 2, 1) := by decide +kernel
theorem dX0_readLength_98 : decode cX0_readLength 98 = .ok (.iconst 1, 1) := by decide +kernel
theorem dX0_readLength_99 : decode cX0_readLength 99 = .ok (.iadd, 1) := by decide +kernel
theorem dX0_readLength_100 : decode cX0_readLength 100 = .ok (.iload 5, 2) := by decide +kernel
theorem dX0_readLength_102 : decode cX0_readLength 102 = .ok (.invokevirtual 86, 3) := by decide +kernel
theorem dX0_readLength_105 : decode cX0_readLength 105 = .ok (.istore 6, 2) := by decide +kernel
theorem dX0_readLength_107 : decode cX0_readLength 107 = .ok (.iload 6, 2) := by decide +kernel
theorem dX0_readLength_109 : decode cX0_readLength 109 = .ok (.invokestatic 89, 3) := by decide +kernel
theorem dX0_readLength_112 : decode cX0_readLength 112 = .ok (.iconst 1, 1) := by decide +kernel
theorem dX0_readLength_113 : decode cX0_readLength 113 = .ok (.iload 5, 2) := by decide +kernel
theorem dX0_readLength_115 : decode cX0_readLength 115 = .ok (.iadd, 1) := by decide +kernel
theorem dX0_readLength_116 : decode cX0_readLength 116 = .ok (.if_icmp .eq 11, 3) := by decide +kernel
theorem dX0_readLength_119 : decode cX0_readLength 119 = .ok (.aload_n 0, 1) := by decide +kernel
theorem dX0_readLength_120 : decode cX0_readLength 120 = .ok (.bipush (-3), 2) := by decide +kernel
theorem dX0_readLength_122 : decode cX0_readLength 122 = .ok (.iload_n 2, 1) := by decide +kernel
theorem dX0_readLength_123 : decode cX0_readLength 123 = .ok (.invokevirtual 64, 3) := by decide +kernel
theorem dX0_readLength_126 : decode cX0_readLength 126 = .ok (.ireturn, 1) := by decide +kernel
theorem dX0_readLength_127 : decode cX0_readLength 127 = .ok (.aload_n 0, 1) := by decide +kernel
theorem dX0_readLength_128 : decode cX0_readLength 128 = .ok (.getfield 22, 3) := by decide +kernel
theorem dX0_readLength_131 : decode cX0_readLength 131 = .ok (.aload_n 0, 1) := by decide +kernel
theorem dX0_readLength_132 : decode cX0_readLength 132 = .ok (.getfield 31, 3) := by decide +kernel
theorem dX0_readLength_135 : decode cX0_readLength 135 = .ok (.iload_n 2, 1) := by decide +kernel
theorem dX0_readLength_136 : decode cX0_readLength 136 = .ok (.iload 5, 2) := by decide +kernel
theorem dX0_readLength_138 : decode cX0_readLength 138 = .ok (.iadd, 1) := by decide +kernel
theorem dX0_readLength_139 : decode cX0_readLength 139 = .ok (.iconst 1, 1) := by decide +kernel
theorem dX0_readLength_140 : decode cX0_readLength 140 = .ok (.iadd, 1) := by decide +kernel
theorem dX0_readLength_141 : decode cX0_readLength 141 = .ok (.iastore, 1) := by decide +kernel
theorem dX0_readLength_142 : decode cX0_readLength 142 = .ok (.aload_n 0, 1) := by decide +kernel
theorem dX0_readLength_143 : decode cX0_readLength 143 = .ok (.getfield 25, 3) := by decide +kernel
theorem dX0_readLength_146 : decode cX0_readLength 146 = .ok (.aload_n 0, 1) := by decide +kernel
theorem dX0_readLength_147 : decode cX0_readLength 147 = .ok (.getfield 31, 3) := by decide +kernel
theorem dX0_readLength_150 : decode cX0_readLength 150 = .ok (.iload 6, 2) := by decide +kernel
theorem dX0_readLength_152 : decode cX0_readLength 152 = .ok (.iastore, 1) := by decide +kernel
theorem dX0_readLength_153 : decode cX0_readLength 153 = .ok (.iconst 0, 1) := by decide +kernel
theorem dX0_readLength_154 : decode cX0_readLength 154 = .ok (.ireturn, 1) := by decide +kernel
set_option maxRecDepth 20000 in
theorem ggX0_checkContents_X0_limitHere : GoodIn wsX0_checkContents wsX0_limitHere := goodIn_r _ [10, 11, 12, 13, 14, 15, 16, 9, 17, 1, 3, 36, 37, 38, 39, 40, 41, 42, 43, 44, 45] (by decide +kernel) (by decide +kernel)
set_option maxRecDepth 20000 in
theorem gX0_checkContents_X0_limitHere : GoodIn wsX0_checkContents (wsV RX0 80 RX0 yX0_limitHere wsX0_limitHere) := goodIn_app (goodIn_of _ (by decide +kernel)) ggX0_checkContents_X0_limitHere
set_option maxRecDepth 20000 in
theorem ggX0_checkContents_X0_offend : GoodIn wsX0_checkContents wsX0_offend := goodIn_r _ [21, 22, 36, 37, 38, 39, 40, 41, 42, 43, 44, 45] (by decide +kernel) (by decide +kernel)
set_option maxRecDepth 20000 in
theorem gX0_checkContents_X0_offend : GoodIn wsX0_checkContents (wsV RX0 64 RX0 yX0_offend wsX0_offend) := goodIn_app (goodIn_of _ (by decide +kernel)) ggX0_checkContents_X0_offend
set_option maxRecDepth 20000 in
theorem ggX0_checkContents_X1_hold : GoodIn wsX0_checkContents wsX1_hold := goodIn_r _ [26, 27, 28, 25, 29, 30, 31, 32, 33, 34, 35] (by decide +kernel) (by decide +kernel)
set_option maxRecDepth 20000 in
theorem gX0_checkContents_X1_hold : GoodIn wsX0_checkContents (va_wsS RX0 92 yX1_hold wsX1_hold) := goodIn_app (goodIn_of _ (by decide +kernel)) ggX0_checkContents_X1_hold
theorem dX0_checkContents_0 : decode cX0_checkContents 0 = .ok (.aload_n 0, 1) := by decide +kernel
theorem dX0_checkContents_1 : decode cX0_checkContents 1 = .ok (.getfield 22, 3) := by decide +kernel
theorem dX0_checkContents_4 : decode cX0_checkContents 4 = .ok (.aload_n 0, 1) := by decide +kernel
theorem dX0_checkContents_5 : decode cX0_checkContents 5 = .ok (.getfield 31, 3) := by decide +kernel
theorem dX0_checkContents_8 : decode cX0_checkContents 8 = .ok (.iaload, 1) := by decide +kernel
theorem dX0_checkContents_9 : decode cX0_checkContents 9 = .ok (.istore_n 2, 1) := by decide +kernel
theorem dX0_checkContents_10 : decode cX0_checkContents 10 = .ok (.aload_n 0, 1) := by decide +kernel
theorem dX0_checkContents_11 : decode cX0_checkContents 11 = .ok (.getfield 25, 3) := by decide +kernel
theorem dX0_checkContents_14 : decode cX0_checkContents 14 = .ok (.aload_n 0, 1) := by decide +kernel
theorem dX0_checkContents_15 : decode cX0_checkContents 15 = .ok (.getfield 31, 3) := by decide +kernel
theorem dX0_checkContents_18 : decode cX0_checkContents 18 = .ok (.iaload, 1) := by decide +kernel
theorem dX0_checkContents_19 : decode cX0_checkContents 19 = .ok (.istore_n 3, 1) := by decide +kernel
theorem dX0_checkContents_20 : decode cX0_checkContents 20 = .ok (.iload_n 3, 1) := by decide +kernel
theorem dX0_checkContents_21 : decode cX0_checkContents 21 = .ok (.aload_n 0, 1) := by decide +kernel
theorem dX0_checkContents_22 : decode cX0_checkContents 22 = .ok (.invokevirtual 80, 3) := by decide +kernel
theorem dX0_checkContents_25 : decode cX0_checkContents 25 = .ok (.iload_n 2, 1) := by decide +kernel
theorem dX0_checkContents_26 : decode cX0_checkContents 26 = .ok (.isub, 1) := by decide +kernel
theorem dX0_checkContents_27 : decode cX0_checkContents 27 = .ok (.if_icmp .le 11, 3) := by decide +kernel
theorem dX0_checkContents_30 : decode cX0_checkContents 30 = .ok (.aload_n 0, 1) := by decide +kernel
theorem dX0_checkContents_31 : decode cX0_checkContents 31 = .ok (.bipush (-4), 2) := by decide +kernel
theorem dX0_checkContents_33 : decode cX0_checkContents 33 = .ok (.iload_n 1, 1) := by decide +kernel
theorem dX0_checkContents_34 : decode cX0_checkContents 34 = .ok (.invokevirtual 64, 3) := by decide +kernel
theorem dX0_checkContents_37 : decode cX0_checkContents 37 = .ok (.ireturn, 1) := by decide +kernel
theorem dX0_checkContents_38 : decode cX0_checkContents 38 = .ok (.aload_n 0, 1) := by decide +kernel
theorem dX0_checkContents_39 : decode cX0_checkContents 39 = .ok (.getfield 19, 3) := by decide +kernel
theorem dX0_checkContents_42 : decode cX0_checkContents 42 = .ok (.aload_n 0, 1) := by decide +kernel
theorem dX0_checkContents_43 : decode cX0_checkContents 43 = .ok (.getfield 31, 3) := by decide +kernel
theorem dX0_checkContents_46 : decode cX0_checkContents 46 = .ok (.iaload, 1) := by decide +kernel
theorem dX0_checkContents_47 : decode cX0_checkContents 47 = .ok (.aload_n 0, 1) := by decide +kernel
theorem dX0_checkContents_48 : decode cX0_checkContents 48 = .ok (.getfield 9, 3) := by decide +kernel
theorem dX0_checkContents_51 : decode cX0_checkContents 51 = .ok (.iload_n 2, 1) := by decide +kernel
theorem dX0_checkContents_52 : decode cX0_checkContents 52 = .ok (.iload_n 3, 1) := by decide +kernel
theorem dX0_checkContents_53 : decode cX0_checkContents 53 = .ok (.invokestatic 92, 3) := by decide +kernel
theorem dX0_checkContents_56 : decode cX0_checkContents 56 = .ok (.ifCond .eq 7, 3) := by decide +kernel
theorem dX0_checkContents_59 : decode cX0_checkContents 59 = .ok (.iconst 0, 1) := by decide +kernel
theorem dX0_checkContents_60 : decode cX0_checkContents 60 = .ok (.goto 10, 3) := by decide +kernel
theorem dX0_checkContents_63 : decode cX0_checkContents 63 = .ok (.aload_n 0, 1) := by decide +kernel
theorem dX0_checkContents_64 : decode cX0_checkContents 64 = .ok (.bipush (-5), 2) := by decide +kernel
theorem dX0_checkContents_66 : decode cX0_checkContents 66 = .ok (.iload_n 1, 1) := by decide +kernel
theorem dX0_checkContents_67 : decode cX0_checkContents 67 = .ok (.invokevirtual 64, 3) := by decide +kernel
theorem dX0_checkContents_70 : decode cX0_checkContents 70 = .ok (.ireturn, 1) := by decide +kernel
set_option maxRecDepth 20000 in
theorem ggX0_goOnFrom_X0_endOf : GoodIn wsX0_goOnFrom wsX0_endOf := goodIn_r _ [9, 4, 10, 11, 12, 13, 14, 15, 16, 17, 18, 19, 20] (by decide +kernel) (by decide +kernel)
set_option maxRecDepth 20000 in
theorem gX0_goOnFrom_X0_endOf : GoodIn wsX0_goOnFrom (wsV RX0 96 RX0 yX0_endOf wsX0_endOf) := goodIn_app (goodIn_of _ (by decide +kernel)) ggX0_goOnFrom_X0_endOf
theorem dX0_goOnFrom_0 : decode cX0_goOnFrom 0 = .ok (.aload_n 0, 1) := by decide +kernel
theorem dX0_goOnFrom_1 : decode cX0_goOnFrom 1 = .ok (.getfield 19, 3) := by decide +kernel
theorem dX0_goOnFrom_4 : decode cX0_goOnFrom 4 = .ok (.iload_n 1, 1) := by decide +kernel
theorem dX0_goOnFrom_5 : decode cX0_goOnFrom 5 = .ok (.iaload, 1) := by decide +kernel
theorem dX0_goOnFrom_6 : decode cX0_goOnFrom 6 = .ok (.bipush 48, 2) := by decide +kernel
theorem dX0_goOnFrom_8 : decode cX0_goOnFrom 8 = .ok (.if_icmp .eq 9, 3) := by decide +kernel
theorem dX0_goOnFrom_11 : decode cX0_goOnFrom 11 = .ok (.aload_n 0, 1) := by decide +kernel
theorem dX0_goOnFrom_12 : decode cX0_goOnFrom 12 = .ok (.iload_n 1, 1) := by decide +kernel
theorem dX0_goOnFrom_13 : decode cX0_goOnFrom 13 = .ok (.invokevirtual 96, 3) := by decide +kernel
theorem dX0_goOnFrom_16 : decode cX0_goOnFrom 16 = .ok (.ireturn, 1) := by decide +kernel
theorem dX0_goOnFrom_17 : decode cX0_goOnFrom 17 = .ok (.aload_n 0, 1) := by decide +kernel
theorem dX0_goOnFrom_18 : decode cX0_goOnFrom 18 = .ok (.getfield 34, 3) := by decide +kernel
theorem dX0_goOnFrom_21 : decode cX0_goOnFrom 21 = .ok (.aload_n 0, 1) := by decide +kernel
theorem dX0_goOnFrom_22 : decode cX0_goOnFrom 22 = .ok (.getfield 37, 3) := by decide +kernel
theorem dX0_goOnFrom_25 : decode cX0_goOnFrom 25 = .ok (.iload_n 1, 1) := by decide +kernel
theorem dX0_goOnFrom_26 : decode cX0_goOnFrom 26 = .ok (.iastore, 1) := by decide +kernel
theorem dX0_goOnFrom_27 : decode cX0_goOnFrom 27 = .ok (.aload_n 0, 1) := by decide +kernel
theorem dX0_goOnFrom_28 : decode cX0_goOnFrom 28 = .ok (.dup, 1) := by decide +kernel
theorem dX0_goOnFrom_29 : decode cX0_goOnFrom 29 = .ok (.getfield 37, 3) := by decide +kernel
theorem dX0_goOnFrom_32 : decode cX0_goOnFrom 32 = .ok (.iconst 1, 1) := by decide +kernel
theorem dX0_goOnFrom_33 : decode cX0_goOnFrom 33 = .ok (.iadd, 1) := by decide +kernel
theorem dX0_goOnFrom_34 : decode cX0_goOnFrom 34 = .ok (.putfield 37, 3) := by decide +kernel
theorem dX0_goOnFrom_37 : decode cX0_goOnFrom 37 = .ok (.aload_n 0, 1) := by decide +kernel
theorem dX0_goOnFrom_38 : decode cX0_goOnFrom 38 = .ok (.getfield 22, 3) := by decide +kernel
theorem dX0_goOnFrom_41 : decode cX0_goOnFrom 41 = .ok (.iload_n 1, 1) := by decide +kernel
theorem dX0_goOnFrom_42 : decode cX0_goOnFrom 42 = .ok (.iaload, 1) := by decide +kernel
theorem dX0_goOnFrom_43 : decode cX0_goOnFrom 43 = .ok (.ireturn, 1) := by decide +kernel
set_option maxRecDepth 20000 in
theorem ggX0_leaveSequencesThatEndAt_X0_endOf : GoodIn wsX0_leaveSequencesThatEndAt wsX0_endOf := goodIn_r _ [7, 8, 9, 10, 11, 12, 13, 14, 15, 16, 17, 18, 19] (by decide +kernel) (by decide +kernel)
set_option maxRecDepth 20000 in
theorem gX0_leaveSequencesThatEndAt_X0_endOf : GoodIn wsX0_leaveSequencesThatEndAt (wsV RX0 96 RX0 yX0_endOf wsX0_endOf) := goodIn_app (goodIn_of _ (by decide +kernel)) ggX0_leaveSequencesThatEndAt_X0_endOf
theorem dX0_leaveSequencesThatEndAt_0 : decode cX0_leaveSequencesThatEndAt 0 = .ok (.aload_n 0, 1) := by decide +kernel
theorem dX0_leaveSequencesThatEndAt_1 : decode cX0_leaveSequencesThatEndAt 1 = .ok (.getfield 37, 3) := by decide +kernel
theorem dX0_leaveSequencesThatEndAt_4 : decode cX0_leaveSequencesThatEndAt 4 = .ok (.ifCond .le 35, 3) := by decide +kernel
theorem dX0_leaveSequencesThatEndAt_7 : decode cX0_leaveSequencesThatEndAt 7 = .ok (.aload_n 0, 1) := by decide +kernel
theorem dX0_leaveSequencesThatEndAt_8 : decode cX0_leaveSequencesThatEndAt 8 = .ok (.aload_n 0, 1) := by decide +kernel
theorem dX0_leaveSequencesThatEndAt_9 : decode cX0_leaveSequencesThatEndAt 9 = .ok (.getfield 34, 3) := by decide +kernel
theorem dX0_leaveSequencesThatEndAt_12 : decode cX0_leaveSequencesThatEndAt 12 = .ok (.aload_n 0, 1) := by decide +kernel
theorem dX0_leaveSequencesThatEndAt_13 : decode cX0_leaveSequencesThatEndAt 13 = .ok (.getfield 37, 3) := by decide +kernel
theorem dX0_leaveSequencesThatEndAt_16 : decode cX0_leaveSequencesThatEndAt 16 = .ok (.iconst 1, 1) := by decide +kernel
theorem dX0_leaveSequencesThatEndAt_17 : decode cX0_leaveSequencesThatEndAt 17 = .ok (.isub, 1) := by decide +kernel
theorem dX0_leaveSequencesThatEndAt_18 : decode cX0_leaveSequencesThatEndAt 18 = .ok (.iaload, 1) := by decide +kernel
theorem dX0_leaveSequencesThatEndAt_19 : decode cX0_leaveSequencesThatEndAt 19 = .ok (.invokevirtual 96, 3) := by decide +kernel
theorem dX0_leaveSequencesThatEndAt_22 : decode cX0_leaveSequencesThatEndAt 22 = .ok (.iload_n 1, 1) := by decide +kernel
theorem dX0_leaveSequencesThatEndAt_23 : decode cX0_leaveSequencesThatEndAt 23 = .ok (.if_icmp .ne 16, 3) := by decide +kernel
theorem dX0_leaveSequencesThatEndAt_26 : decode cX0_leaveSequencesThatEndAt 26 = .ok (.aload_n 0, 1) := by decide +kernel
theorem dX0_leaveSequencesThatEndAt_27 : decode cX0_leaveSequencesThatEndAt 27 = .ok (.dup, 1) := by decide +kernel
theorem dX0_leaveSequencesThatEndAt_28 : decode cX0_leaveSequencesThatEndAt 28 = .ok (.getfield 37, 3) := by decide +kernel
theorem dX0_leaveSequencesThatEndAt_31 : decode cX0_leaveSequencesThatEndAt 31 = .ok (.iconst 1, 1) := by decide +kernel
theorem dX0_leaveSequencesThatEndAt_32 : decode cX0_leaveSequencesThatEndAt 32 = .ok (.isub, 1) := by decide +kernel
theorem dX0_leaveSequencesThatEndAt_33 : decode cX0_leaveSequencesThatEndAt 33 = .ok (.putfield 37, 3) := by decide +kernel
theorem dX0_leaveSequencesThatEndAt_36 : decode cX0_leaveSequencesThatEndAt 36 = .ok (.goto (-36), 3) := by decide +kernel
theorem dX0_leaveSequencesThatEndAt_39 : decode cX0_leaveSequencesThatEndAt 39 = .ok (.return_, 1) := by decide +kernel
set_option maxRecDepth 20000 in
theorem ggX0_limitHere_X0_endOf : GoodIn wsX0_limitHere wsX0_endOf := goodIn_r _ [8, 9, 10, 11, 12, 13, 14, 15, 16, 17, 18, 19, 20] (by decide +kernel) (by decide +kernel)
set_option maxRecDepth 20000 in
theorem gX0_limitHere_X0_endOf : GoodIn wsX0_limitHere (wsV RX0 96 RX0 yX0_endOf wsX0_endOf) := goodIn_app (goodIn_of _ (by decide +kernel)) ggX0_limitHere_X0_endOf
theorem dX0_limitHere_0 : decode cX0_limitHere 0 = .ok (.aload_n 0, 1) := by decide +kernel
theorem dX0_limitHere_1 : decode cX0_limitHere 1 = .ok (.getfield 37, 3) := by decide +kernel
theorem dX0_limitHere_4 : decode cX0_limitHere 4 = .ok (.ifCond .ne 10, 3) := by decide +kernel
theorem dX0_limitHere_7 : decode cX0_limitHere 7 = .ok (.aload_n 0, 1) := by decide +kernel
theorem dX0_limitHere_8 : decode cX0_limitHere 8 = .ok (.getfield 15, 3) := by decide +kernel
theorem dX0_limitHere_11 : decode cX0_limitHere 11 = .ok (.goto 18, 3) := by decide +kernel
theorem dX0_limitHere_14 : decode cX0_limitHere 14 = .ok (.aload_n 0, 1) := by decide +kernel
theorem dX0_limitHere_15 : decode cX0_limitHere 15 = .ok (.aload_n 0, 1) := by decide +kernel
theorem dX0_limitHere_16 : decode cX0_limitHere 16 = .ok (.getfield 34, 3) := by decide +kernel
theorem dX0_limitHere_19 : decode cX0_limitHere 19 = .ok (.aload_n 0, 1) := by decide +kernel
theorem dX0_limitHere_20 : decode cX0_limitHere 20 = .ok (.getfield 37, 3) := by decide +kernel
theorem dX0_limitHere_23 : decode cX0_limitHere 23 = .ok (.iconst 1, 1) := by decide +kernel
theorem dX0_limitHere_24 : decode cX0_limitHere 24 = .ok (.isub, 1) := by decide +kernel
theorem dX0_limitHere_25 : decode cX0_limitHere 25 = .ok (.iaload, 1) := by decide +kernel
theorem dX0_limitHere_26 : decode cX0_limitHere 26 = .ok (.invokevirtual 96, 3) := by decide +kernel
theorem dX0_limitHere_29 : decode cX0_limitHere 29 = .ok (.ireturn, 1) := by decide +kernel
theorem dX0_endOf_0 : decode cX0_endOf 0 = .ok (.aload_n 0, 1) := by decide +kernel
theorem dX0_endOf_1 : decode cX0_endOf 1 = .ok (.getfield 22, 3) := by decide +kernel
theorem dX0_endOf_4 : decode cX0_endOf 4 = .ok (.iload_n 1, 1) := by decide +kernel
theorem dX0_endOf_5 : decode cX0_endOf 5 = .ok (.iaload, 1) := by decide +kernel
theorem dX0_endOf_6 : decode cX0_endOf 6 = .ok (.aload_n 0, 1) := by decide +kernel
theorem dX0_endOf_7 : decode cX0_endOf 7 = .ok (.getfield 25, 3) := by decide +kernel
theorem dX0_endOf_10 : decode cX0_endOf 10 = .ok (.iload_n 1, 1) := by decide +kernel
theorem dX0_endOf_11 : decode cX0_endOf 11 = .ok (.iaload, 1) := by decide +kernel
theorem dX0_endOf_12 : decode cX0_endOf 12 = .ok (.iadd, 1) := by decide +kernel
theorem dX0_endOf_13 : decode cX0_endOf 13 = .ok (.ireturn, 1) := by decide +kernel
theorem dX0_numberAt_0 : decode cX0_numberAt 0 = .ok (.iconst 0, 1) := by decide +kernel
theorem dX0_numberAt_1 : decode cX0_numberAt 1 = .ok (.istore_n 3, 1) := by decide +kernel
theorem dX0_numberAt_2 : decode cX0_numberAt 2 = .ok (.iconst 0, 1) := by decide +kernel
theorem dX0_numberAt_3 : decode cX0_numberAt 3 = .ok (.istore 4, 2) := by decide +kernel
theorem dX0_numberAt_5 : decode cX0_numberAt 5 = .ok (.iload 4, 2) := by decide +kernel
theorem dX0_numberAt_7 : decode cX0_numberAt 7 = .ok (.iload_n 2, 1) := by decide +kernel
theorem dX0_numberAt_8 : decode cX0_numberAt 8 = .ok (.if_icmp .ge 24, 3) := by decide +kernel
theorem dX0_numberAt_11 : decode cX0_numberAt 11 = .ok (.iload_n 3, 1) := by decide +kernel
theorem dX0_numberAt_12 : decode cX0_numberAt 12 = .ok (.bipush 8, 2) := by decide +kernel
theorem dX0_numberAt_14 : decode cX0_numberAt 14 = .ok (.ishl, 1) := by decide +kernel
theorem dX0_numberAt_15 : decode cX0_numberAt 15 = .ok (.aload_n 0, 1) := by decide +kernel
theorem dX0_numberAt_16 : decode cX0_numberAt 16 = .ok (.getfield 9, 3) := by decide +kernel
theorem dX0_numberAt_19 : decode cX0_numberAt 19 = .ok (.iload_n 1, 1) := by decide +kernel
theorem dX0_numberAt_20 : decode cX0_numberAt 20 = .ok (.iload 4, 2) := by decide +kernel
theorem dX0_numberAt_22 : decode cX0_numberAt 22 = .ok (.iadd, 1) := by decide +kernel
theorem dX0_numberAt_23 : decode cX0_numberAt 23 = .ok (.iaload, 1) := by decide +kernel
theorem dX0_numberAt_24 : decode cX0_numberAt 24 = .ok (.ior, 1) := by decide +kernel
theorem dX0_numberAt_25 : decode cX0_numberAt 25 = .ok (.istore_n 3, 1) := by decide +kernel
theorem dX0_numberAt_26 : decode cX0_numberAt 26 = .ok (.iinc 4 1, 3) := by decide +kernel
theorem dX0_numberAt_29 : decode cX0_numberAt 29 = .ok (.goto (-24), 3) := by decide +kernel
theorem dX0_numberAt_32 : decode cX0_numberAt 32 = .ok (.iload_n 3, 1) := by decide +kernel
theorem dX0_numberAt_33 : decode cX0_numberAt 33 = .ok (.ireturn, 1) := by decide +kernel
set_option maxRecDepth 20000 in
theorem ggX0_offendByCutLength_X0_offend : GoodIn wsX0_offendByCutLength wsX0_offend := goodIn_r _ [7, 8, 9, 10, 11, 12, 13, 14, 15, 16, 17, 18] (by decide +kernel) (by decide +kernel)
set_option maxRecDepth 20000 in
theorem gX0_offendByCutLength_X0_offend : GoodIn wsX0_offendByCutLength (wsV RX0 64 RX0 yX0_offend wsX0_offend) := goodIn_app (goodIn_of _ (by decide +kernel)) ggX0_offendByCutLength_X0_offend
theorem dX0_offendByCutLength_0 : decode cX0_offendByCutLength 0 = .ok (.aload_n 0, 1) := by decide +kernel
theorem dX0_offendByCutLength_1 : decode cX0_offendByCutLength 1 = .ok (.getfield 37, 3) := by decide +kernel
theorem dX0_offendByCutLength_4 : decode cX0_offendByCutLength 4 = .ok (.ifCond .ne 15, 3) := by decide +kernel
theorem dX0_offendByCutLength_7 : decode cX0_offendByCutLength 7 = .ok (.aload_n 0, 1) := by decide +kernel
theorem dX0_offendByCutLength_8 : decode cX0_offendByCutLength 8 = .ok (.iconst (-1), 1) := by decide +kernel
theorem dX0_offendByCutLength_9 : decode cX0_offendByCutLength 9 = .ok (.aload_n 0, 1) := by decide +kernel
theorem dX0_offendByCutLength_10 : decode cX0_offendByCutLength 10 = .ok (.getfield 15, 3) := by decide +kernel
theorem dX0_offendByCutLength_13 : decode cX0_offendByCutLength 13 = .ok (.invokevirtual 64, 3) := by decide +kernel
theorem dX0_offendByCutLength_16 : decode cX0_offendByCutLength 16 = .ok (.goto 10, 3) := by decide +kernel
theorem dX0_offendByCutLength_19 : decode cX0_offendByCutLength 19 = .ok (.aload_n 0, 1) := by decide +kernel
theorem dX0_offendByCutLength_20 : decode cX0_offendByCutLength 20 = .ok (.bipush (-4), 2) := by decide +kernel
theorem dX0_offendByCutLength_22 : decode cX0_offendByCutLength 22 = .ok (.iload_n 1, 1) := by decide +kernel
theorem dX0_offendByCutLength_23 : decode cX0_offendByCutLength 23 = .ok (.invokevirtual 64, 3) := by decide +kernel
theorem dX0_offendByCutLength_26 : decode cX0_offendByCutLength 26 = .ok (.ireturn, 1) := by decide +kernel
theorem dX0_offend_0 : decode cX0_offend 0 = .ok (.aload_n 0, 1) := by decide +kernel
theorem dX0_offend_1 : decode cX0_offend 1 = .ok (.iload_n 2, 1) := by decide +kernel
theorem dX0_offend_2 : decode cX0_offend 2 = .ok (.putfield 40, 3) := by decide +kernel
theorem dX0_offend_5 : decode cX0_offend 5 = .ok (.iload_n 1, 1) := by decide +kernel
theorem dX0_offend_6 : decode cX0_offend 6 = .ok (.ireturn, 1) := by decide +kernel
theorem dX0_isNode_0 : decode cX0_isNode 0 = .ok (.iload_n 1, 1) := by decide +kernel
theorem dX0_isNode_1 : decode cX0_isNode 1 = .ok (.ifCond .lt 15, 3) := by decide +kernel
theorem dX0_isNode_4 : decode cX0_isNode 4 = .ok (.iload_n 1, 1) := by decide +kernel
theorem dX0_isNode_5 : decode cX0_isNode 5 = .ok (.aload_n 0, 1) := by decide +kernel
theorem dX0_isNode_6 : decode cX0_isNode 6 = .ok (.getfield 31, 3) := by decide +kernel
theorem dX0_isNode_9 : decode cX0_isNode 9 = .ok (.if_icmp .ge 7, 3) := by decide +kernel
theorem dX0_isNode_12 : decode cX0_isNode 12 = .ok (.iconst 1, 1) := by decide +kernel
theorem dX0_isNode_13 : decode cX0_isNode 13 = .ok (.goto 4, 3) := by decide +kernel
theorem dX0_isNode_16 : decode cX0_isNode 16 = .ok (.iconst 0, 1) := by decide +kernel
theorem dX0_isNode_17 : decode cX0_isNode 17 = .ok (.ireturn, 1) := by decide +kernel
set_option maxRecDepth 20000 in
theorem ggX0_ofNode_X0_isNode : GoodIn wsX0_ofNode wsX0_isNode := goodIn_r _ [5, 6, 7, 8, 9, 10, 11, 12, 13, 14, 15, 16] (by decide +kernel) (by decide +kernel)
set_option maxRecDepth 20000 in
theorem gX0_ofNode_X0_isNode : GoodIn wsX0_ofNode (wsV RX0 99 RX0 yX0_isNode wsX0_isNode) := goodIn_app (goodIn_of _ (by decide +kernel)) ggX0_ofNode_X0_isNode
theorem dX0_ofNode_0 : decode cX0_ofNode 0 = .ok (.aload_n 0, 1) := by decide +kernel
theorem dX0_ofNode_1 : decode cX0_ofNode 1 = .ok (.iload_n 2, 1) := by decide +kernel
theorem dX0_ofNode_2 : decode cX0_ofNode 2 = .ok (.invokevirtual 99, 3) := by decide +kernel
theorem dX0_ofNode_5 : decode cX0_ofNode 5 = .ok (.ifCond .eq 9, 3) := by decide +kernel
theorem dX0_ofNode_8 : decode cX0_ofNode 8 = .ok (.aload_n 1, 1) := by decide +kernel
theorem dX0_ofNode_9 : decode cX0_ofNode 9 = .ok (.iload_n 2, 1) := by decide +kernel
theorem dX0_ofNode_10 : decode cX0_ofNode 10 = .ok (.iaload, 1) := by decide +kernel
theorem dX0_ofNode_11 : decode cX0_ofNode 11 = .ok (.goto 4, 3) := by decide +kernel
theorem dX0_ofNode_14 : decode cX0_ofNode 14 = .ok (.iconst (-1), 1) := by decide +kernel
theorem dX0_ofNode_15 : decode cX0_ofNode 15 = .ok (.ireturn, 1) := by decide +kernel
set_option maxRecDepth 20000 in
theorem ggX0_isSmallInteger_X0_isNode : GoodIn wsX0_isSmallInteger wsX0_isNode := goodIn_r _ [7, 8, 9, 10, 11, 12, 13, 14, 15, 16, 17, 18] (by decide +kernel) (by decide +kernel)
set_option maxRecDepth 20000 in
theorem gX0_isSmallInteger_X0_isNode : GoodIn wsX0_isSmallInteger (wsV RX0 99 RX0 yX0_isNode wsX0_isNode) := goodIn_app (goodIn_of _ (by decide +kernel)) ggX0_isSmallInteger_X0_isNode
theorem dX0_isSmallInteger_0 : decode cX0_isSmallInteger 0 = .ok (.aload_n 0, 1) := by decide +kernel
theorem dX0_isSmallInteger_1 : decode cX0_isSmallInteger 1 = .ok (.iload_n 1, 1) := by decide +kernel
theorem dX0_isSmallInteger_2 : decode cX0_isSmallInteger 2 = .ok (.invokevirtual 99, 3) := by decide +kernel
theorem dX0_isSmallInteger_5 : decode cX0_isSmallInteger 5 = .ok (.ifCond .eq 27, 3) := by decide +kernel
theorem dX0_isSmallInteger_8 : decode cX0_isSmallInteger 8 = .ok (.aload_n 0, 1) := by decide +kernel
theorem dX0_isSmallInteger_9 : decode cX0_isSmallInteger 9 = .ok (.getfield 19, 3) := by decide +kernel
theorem dX0_isSmallInteger_12 : decode cX0_isSmallInteger 12 = .ok (.iload_n 1, 1) := by decide +kernel
theorem dX0_isSmallInteger_13 : decode cX0_isSmallInteger 13 = .ok (.iaload, 1) := by decide +kernel
theorem dX0_isSmallInteger_14 : decode cX0_isSmallInteger 14 = .ok (.iconst 2, 1) := by decide +kernel
theorem dX0_isSmallInteger_15 : decode cX0_isSmallInteger 15 = .ok (.if_icmp .ne 17, 3) := by decide +kernel
theorem dX0_isSmallInteger_18 : decode cX0_isSmallInteger 18 = .ok (.aload_n 0, 1) := by decide +kernel
theorem dX0_isSmallInteger_19 : decode cX0_isSmallInteger 19 = .ok (.getfield 25, 3) := by decide +kernel
theorem dX0_isSmallInteger_22 : decode cX0_isSmallInteger 22 = .ok (.iload_n 1, 1) := by decide +kernel
theorem dX0_isSmallInteger_23 : decode cX0_isSmallInteger 23 = .ok (.iaload, 1) := by decide +kernel
theorem dX0_isSmallInteger_24 : decode cX0_isSmallInteger 24 = .ok (.iconst 4, 1) := by decide +kernel
theorem dX0_isSmallInteger_25 : decode cX0_isSmallInteger 25 = .ok (.if_icmp .gt 7, 3) := by decide +kernel
theorem dX0_isSmallInteger_28 : decode cX0_isSmallInteger 28 = .ok (.iconst 1, 1) := by decide +kernel
theorem dX0_isSmallInteger_29 : decode cX0_isSmallInteger 29 = .ok (.goto 4, 3) := by decide +kernel
theorem dX0_isSmallInteger_32 : decode cX0_isSmallInteger 32 = .ok (.iconst 0, 1) := by decide +kernel
theorem dX0_isSmallInteger_33 : decode cX0_isSmallInteger 33 = .ok (.ireturn, 1) := by decide +kernel
set_option maxRecDepth 20000 in
theorem ggX0_smallInteger_X0_isSmallInteger : GoodIn wsX0_smallInteger wsX0_isSmallInteger := goodIn_r _ [7, 8, 1, 9, 10, 11, 6, 12, 13, 19, 20, 21, 22, 23, 24, 25, 26, 27, 28] (by decide +kernel) (by decide +kernel)
set_option maxRecDepth 20000 in
theorem gX0_smallInteger_X0_isSmallInteger : GoodIn wsX0_smallInteger (wsV RX0 102 RX0 yX0_isSmallInteger wsX0_isSmallInteger) := goodIn_app (goodIn_of _ (by decide +kernel)) ggX0_smallInteger_X0_isSmallInteger
set_option maxRecDepth 20000 in
theorem ggX0_smallInteger_X0_numberAt : GoodIn wsX0_smallInteger wsX0_numberAt := goodIn_r _ [17, 18, 19, 20, 21, 22, 23, 24, 25, 26, 27, 28] (by decide +kernel) (by decide +kernel)
set_option maxRecDepth 20000 in
theorem gX0_smallInteger_X0_numberAt : GoodIn wsX0_smallInteger (wsV RX0 86 RX0 yX0_numberAt wsX0_numberAt) := goodIn_app (goodIn_of _ (by decide +kernel)) ggX0_smallInteger_X0_numberAt
theorem dX0_smallInteger_0 : decode cX0_smallInteger 0 = .ok (.aload_n 0, 1) := by decide +kernel
theorem dX0_smallInteger_1 : decode cX0_smallInteger 1 = .ok (.iload_n 1, 1) := by decide +kernel
theorem dX0_smallInteger_2 : decode cX0_smallInteger 2 = .ok (.invokevirtual 102, 3) := by decide +kernel
theorem dX0_smallInteger_5 : decode cX0_smallInteger 5 = .ok (.ifCond .ne 5, 3) := by decide +kernel
theorem dX0_smallInteger_8 : decode cX0_smallInteger 8 = .ok (.iconst 0, 1) := by decide +kernel
theorem dX0_smallInteger_9 : decode cX0_smallInteger 9 = .ok (.ireturn, 1) := by decide +kernel
theorem dX0_smallInteger_10 : decode cX0_smallInteger 10 = .ok (.bipush 32, 2) := by decide +kernel
theorem dX0_smallInteger_12 : decode cX0_smallInteger 12 = .ok (.bipush 8, 2) := by decide +kernel
theorem dX0_smallInteger_14 : decode cX0_smallInteger 14 = .ok (.aload_n 0, 1) := by decide +kernel
theorem dX0_smallInteger_15 : decode cX0_smallInteger 15 = .ok (.getfield 25, 3) := by decide +kernel
theorem dX0_smallInteger_18 : decode cX0_smallInteger 18 = .ok (.iload_n 1, 1) := by decide +kernel
theorem dX0_smallInteger_19 : decode cX0_smallInteger 19 = .ok (.iaload, 1) := by decide +kernel
theorem dX0_smallInteger_20 : decode cX0_smallInteger 20 = .ok (.imul, 1) := by decide +kernel
theorem dX0_smallInteger_21 : decode cX0_smallInteger 21 = .ok (.isub, 1) := by decide +kernel
theorem dX0_smallInteger_22 : decode cX0_smallInteger 22 = .ok (.istore_n 2, 1) := by decide +kernel
theorem dX0_smallInteger_23 : decode cX0_smallInteger 23 = .ok (.aload_n 0, 1) := by decide +kernel
theorem dX0_smallInteger_24 : decode cX0_smallInteger 24 = .ok (.aload_n 0, 1) := by decide +kernel
theorem dX0_smallInteger_25 : decode cX0_smallInteger 25 = .ok (.getfield 22, 3) := by decide +kernel
theorem dX0_smallInteger_28 : decode cX0_smallInteger 28 = .ok (.iload_n 1, 1) := by decide +kernel
theorem dX0_smallInteger_29 : decode cX0_smallInteger 29 = .ok (.iaload, 1) := by decide +kernel
theorem dX0_smallInteger_30 : decode cX0_smallInteger 30 = .ok (.aload_n 0, 1) := by decide +kernel
theorem dX0_smallInteger_31 : decode cX0_smallInteger 31 = .ok (.getfield 25, 3) := by decide +kernel
theorem dX0_smallInteger_34 : decode cX0_smallInteger 34 = .ok (.iload_n 1, 1) := by decide +kernel
theorem dX0_smallInteger_35 : decode cX0_smallInteger 35 = .ok (.iaload, 1) := by decide +kernel
theorem dX0_smallInteger_36 : decode cX0_smallInteger 36 = .ok (.invokevirtual 86, 3) := by decide +kernel
theorem dX0_smallInteger_39 : decode cX0_smallInteger 39 = .ok (.iload_n 2, 1) := by decide +kernel
theorem dX0_smallInteger_40 : decode cX0_smallInteger 40 = .ok (.ishl, 1) := by decide +kernel
theorem dX0_smallInteger_41 : decode cX0_smallInteger 41 = .ok (.iload_n 2, 1) := by decide +kernel
theorem dX0_smallInteger_42 : decode cX0_smallInteger 42 = .ok (.ishr, 1) := by decide +kernel
theorem dX0_smallInteger_43 : decode cX0_smallInteger 43 = .ok (.ireturn, 1) := by decide +kernel
set_option maxRecDepth 20000 in
theorem ggX0_arcOf_X0_isNode : GoodIn wsX0_arcOf wsX0_isNode := goodIn_r _ [7, 8, 31, 32, 33, 34, 35, 36, 37, 38, 39, 40] (by decide +kernel) (by decide +kernel)
set_option maxRecDepth 20000 in
theorem gX0_arcOf_X0_isNode : GoodIn wsX0_arcOf (wsV RX0 99 RX0 yX0_isNode wsX0_isNode) := goodIn_app (goodIn_of _ (by decide +kernel)) ggX0_arcOf_X0_isNode
set_option maxRecDepth 20000 in
theorem ggX0_arcOf_X0_partOf : GoodIn wsX0_arcOf wsX0_partOf := goodIn_r _ [12, 13, 14, 15, 16, 17, 18, 19, 20, 21, 22, 23, 6, 24, 25, 31, 32, 33, 34, 35, 36, 37, 38, 39, 40] (by decide +kernel) (by decide +kernel)
set_option maxRecDepth 20000 in
theorem gX0_arcOf_X0_partOf : GoodIn wsX0_arcOf (wsV RX0 105 RX0 yX0_partOf wsX0_partOf) := goodIn_app (goodIn_of _ (by decide +kernel)) ggX0_arcOf_X0_partOf
set_option maxRecDepth 20000 in
theorem ggX0_arcOf_X0_firstArcOf : GoodIn wsX0_arcOf wsX0_firstArcOf := goodIn_r _ [28, 29, 30] (by decide +kernel) (by decide +kernel)
set_option maxRecDepth 20000 in
theorem gX0_arcOf_X0_firstArcOf : GoodIn wsX0_arcOf (va_wsS RX0 109 yX0_firstArcOf wsX0_firstArcOf) := goodIn_app (goodIn_of _ (by decide +kernel)) ggX0_arcOf_X0_firstArcOf
theorem dX0_arcOf_0 : decode cX0_arcOf 0 = .ok (.aload_n 0, 1) := by decide +kernel
theorem dX0_arcOf_1 : decode cX0_arcOf 1 = .ok (.iload_n 1, 1) := by decide +kernel
theorem dX0_arcOf_2 : decode cX0_arcOf 2 = .ok (.invokevirtual 99, 3) := by decide +kernel
theorem dX0_arcOf_5 : decode cX0_arcOf 5 = .ok (.ifCond .eq 18, 3) := by decide +kernel
theorem dX0_arcOf_8 : decode cX0_arcOf 8 = .ok (.aload_n 0, 1) := by decide +kernel
theorem dX0_arcOf_9 : decode cX0_arcOf 9 = .ok (.getfield 19, 3) := by decide +kernel
theorem dX0_arcOf_12 : decode cX0_arcOf 12 = .ok (.iload_n 1, 1) := by decide +kernel
theorem dX0_arcOf_13 : decode cX0_arcOf 13 = .ok (.iaload, 1) := by decide +kernel
theorem dX0_arcOf_14 : decode cX0_arcOf 14 = .ok (.bipush 6, 2) := by decide +kernel
theorem dX0_arcOf_16 : decode cX0_arcOf 16 = .ok (.if_icmp .ne 7, 3) := by decide +kernel
theorem dX0_arcOf_19 : decode cX0_arcOf 19 = .ok (.iload_n 2, 1) := by decide +kernel
theorem dX0_arcOf_20 : decode cX0_arcOf 20 = .ok (.ifCond .ge 5, 3) := by decide +kernel
theorem dX0_arcOf_23 : decode cX0_arcOf 23 = .ok (.iconst (-1), 1) := by decide +kernel
theorem dX0_arcOf_24 : decode cX0_arcOf 24 = .ok (.ireturn, 1) := by decide +kernel
theorem dX0_arcOf_25 : decode cX0_arcOf 25 = .ok (.aload_n 0, 1) := by decide +kernel
theorem dX0_arcOf_26 : decode cX0_arcOf 26 = .ok (.iload_n 1, 1) := by decide +kernel
theorem dX0_arcOf_27 : decode cX0_arcOf 27 = .ok (.iload_n 2, 1) := by decide +kernel
theorem dX0_arcOf_28 : decode cX0_arcOf 28 = .ok (.iconst 2, 1) := by decide +kernel
theorem dX0_arcOf_29 : decode cX0_arcOf 29 = .ok (.if_icmp .ge 7, 3) := by decide +kernel
theorem dX0_arcOf_32 : decode cX0_arcOf 32 = .ok (.iconst 0, 1) := by decide +kernel
theorem dX0_arcOf_33 : decode cX0_arcOf 33 = .ok (.goto 6, 3) := by decide +kernel
theorem dX0_arcOf_36 : decode cX0_arcOf 36 = .ok (.iload_n 2, 1) := by decide +kernel
theorem dX0_arcOf_37 : decode cX0_arcOf 37 = .ok (.iconst 1, 1) := by decide +kernel
theorem dX0_arcOf_38 : decode cX0_arcOf 38 = .ok (.isub, 1) := by decide +kernel
theorem dX0_arcOf_39 : decode cX0_arcOf 39 = .ok (.invokevirtual 105, 3) := by decide +kernel
theorem dX0_arcOf_42 : decode cX0_arcOf 42 = .ok (.lstore_n 3, 1) := by decide +kernel
theorem dX0_arcOf_43 : decode cX0_arcOf 43 = .ok (.lload_n 3, 1) := by decide +kernel
theorem dX0_arcOf_44 : decode cX0_arcOf 44 = .ok (.lconst 0, 1) := by decide +kernel
theorem dX0_arcOf_45 : decode cX0_arcOf 45 = .ok (.lcmp, 1) := by decide +kernel
theorem dX0_arcOf_46 : decode cX0_arcOf 46 = .ok (.ifCond .ge 5, 3) := by decide +kernel
theorem dX0_arcOf_49 : decode cX0_arcOf 49 = .ok (.iconst (-1), 1) := by decide +kernel
theorem dX0_arcOf_50 : decode cX0_arcOf 50 = .ok (.ireturn, 1) := by decide +kernel
theorem dX0_arcOf_51 : decode cX0_arcOf 51 = .ok (.lload_n 3, 1) := by decide +kernel
theorem dX0_arcOf_52 : decode cX0_arcOf 52 = .ok (.lstore 5, 2) := by decide +kernel
theorem dX0_arcOf_54 : decode cX0_arcOf 54 = .ok (.iload_n 2, 1) := by decide +kernel
theorem dX0_arcOf_55 : decode cX0_arcOf 55 = .ok (.iconst 2, 1) := by decide +kernel
theorem dX0_arcOf_56 : decode cX0_arcOf 56 = .ok (.if_icmp .ge 29, 3) := by decide +kernel
theorem dX0_arcOf_59 : decode cX0_arcOf 59 = .ok (.lload_n 3, 1) := by decide +kernel
theorem dX0_arcOf_60 : decode cX0_arcOf 60 = .ok (.invokestatic 109, 3) := by decide +kernel
theorem dX0_arcOf_63 : decode cX0_arcOf 63 = .ok (.istore 7, 2) := by decide +kernel
theorem dX0_arcOf_65 : decode cX0_arcOf 65 = .ok (.iload_n 2, 1) := by decide +kernel
theorem dX0_arcOf_66 : decode cX0_arcOf 66 = .ok (.ifCond .ne 9, 3) := by decide +kernel
theorem dX0_arcOf_69 : decode cX0_arcOf 69 = .ok (.iload 7, 2) := by decide +kernel
theorem dX0_arcOf_71 : decode cX0_arcOf 71 = .ok (.i2l, 1) := by decide +kernel
theorem dX0_arcOf_72 : decode cX0_arcOf 72 = .ok (.goto 11, 3) := by decide +kernel
theorem dX0_arcOf_75 : decode cX0_arcOf 75 = .ok (.lload_n 3, 1) := by decide +kernel
theorem dX0_arcOf_76 : decode cX0_arcOf 76 = .ok (.bipush 40, 2) := by decide +kernel
theorem dX0_arcOf_78 : decode cX0_arcOf 78 = .ok (.iload 7, 2) := by decide +kernel
theorem dX0_arcOf_80 : decode cX0_arcOf 80 = .ok (.imul, 1) := by decide +kernel
theorem dX0_arcOf_81 : decode cX0_arcOf 81 = .ok (.i2l, 1) := by decide +kernel
theorem dX0_arcOf_82 : decode cX0_arcOf 82 = .ok (.lsub, 1) := by decide +kernel
theorem dX0_arcOf_83 : decode cX0_arcOf 83 = .ok (.lstore 5, 2) := by decide +kernel
theorem dX0_arcOf_85 : decode cX0_arcOf 85 = .ok (.lload 5, 2) := by decide +kernel
theorem dX0_arcOf_87 : decode cX0_arcOf 87 = .ok (.ldc2_w 115, 3) := by decide +kernel
theorem dX0_arcOf_90 : decode cX0_arcOf 90 = .ok (.lcmp, 1) := by decide +kernel
theorem dX0_arcOf_91 : decode cX0_arcOf 91 = .ok (.ifCond .le 8, 3) := by decide +kernel
theorem dX0_arcOf_94 : decode cX0_arcOf 94 = .ok (.bipush (-2), 2) := by decide +kernel
theorem dX0_arcOf_96 : decode cX0_arcOf 96 = .ok (.goto 6, 3) := by decide +kernel
theorem dX0_arcOf_99 : decode cX0_arcOf 99 = .ok (.lload 5, 2) := by decide +kernel
theorem dX0_arcOf_101 : decode cX0_arcOf 101 = .ok (.l2i, 1) := by decide +kernel
theorem dX0_arcOf_102 : decode cX0_arcOf 102 = .ok (.ireturn, 1) := by decide +kernel
theorem dX0_firstArcOf_0 : decode cX0_firstArcOf 0 = .ok (.lload_n 0, 1) := by decide +kernel
theorem dX0_firstArcOf_1 : decode cX0_firstArcOf 1 = .ok (.ldc2_w 117, 3) := by decide +kernel
theorem dX0_firstArcOf_4 : decode cX0_firstArcOf 4 = .ok (.lcmp, 1) := by decide +kernel
theorem dX0_firstArcOf_5 : decode cX0_firstArcOf 5 = .ok (.ifCond .ge 5, 3) := by decide +kernel
theorem dX0_firstArcOf_8 : decode cX0_firstArcOf 8 = .ok (.iconst 0, 1) := by decide +kernel
theorem dX0_firstArcOf_9 : decode cX0_firstArcOf 9 = .ok (.ireturn, 1) := by decide +kernel
theorem dX0_firstArcOf_10 : decode cX0_firstArcOf 10 = .ok (.lload_n 0, 1) := by decide +kernel
theorem dX0_firstArcOf_11 : decode cX0_firstArcOf 11 = .ok (.ldc2_w 119, 3) := by decide +kernel
theorem dX0_firstArcOf_14 : decode cX0_firstArcOf 14 = .ok (.lcmp, 1) := by decide +kernel
theorem dX0_firstArcOf_15 : decode cX0_firstArcOf 15 = .ok (.ifCond .ge 7, 3) := by decide +kernel
theorem dX0_firstArcOf_18 : decode cX0_firstArcOf 18 = .ok (.iconst 1, 1) := by decide +kernel
theorem dX0_firstArcOf_19 : decode cX0_firstArcOf 19 = .ok (.goto 4, 3) := by decide +kernel
theorem dX0_firstArcOf_22 : decode cX0_firstArcOf 22 = .ok (.iconst 2, 1) := by decide +kernel
theorem dX0_firstArcOf_23 : decode cX0_firstArcOf 23 = .ok (.ireturn, 1) := by decide +kernel
set_option maxRecDepth 20000 in
theorem ggX0_partOf_X0_endOf : GoodIn wsX0_partOf wsX0_endOf := goodIn_r _ [13, 1, 14, 15, 16, 17, 18, 19, 20, 21, 22, 23, 24] (by decide +kernel) (by decide +kernel)
set_option maxRecDepth 20000 in
theorem gX0_partOf_X0_endOf : GoodIn wsX0_partOf (wsV RX0 96 RX0 yX0_endOf wsX0_endOf) := goodIn_app (goodIn_of _ (by decide +kernel)) ggX0_partOf_X0_endOf
theorem dX0_partOf_0 : decode cX0_partOf 0 = .ok (.iconst 0, 1) := by decide +kernel
theorem dX0_partOf_1 : decode cX0_partOf 1 = .ok (.istore_n 3, 1) := by decide +kernel
theorem dX0_partOf_2 : decode cX0_partOf 2 = .ok (.lconst 0, 1) := by decide +kernel
theorem dX0_partOf_3 : decode cX0_partOf 3 = .ok (.lstore 4, 2) := by decide +kernel
theorem dX0_partOf_5 : decode cX0_partOf 5 = .ok (.aload_n 0, 1) := by decide +kernel
theorem dX0_partOf_6 : decode cX0_partOf 6 = .ok (.getfield 22, 3) := by decide +kernel
theorem dX0_partOf_9 : decode cX0_partOf 9 = .ok (.iload_n 1, 1) := by decide +kernel
theorem dX0_partOf_10 : decode cX0_partOf 10 = .ok (.iaload, 1) := by decide +kernel
theorem dX0_partOf_11 : decode cX0_partOf 11 = .ok (.istore 6, 2) := by decide +kernel
theorem dX0_partOf_13 : decode cX0_partOf 13 = .ok (.iload 6, 2) := by decide +kernel
theorem dX0_partOf_15 : decode cX0_partOf 15 = .ok (.aload_n 0, 1) := by decide +kernel
theorem dX0_partOf_16 : decode cX0_partOf 16 = .ok (.iload_n 1, 1) := by decide +kernel
theorem dX0_partOf_17 : decode cX0_partOf 17 = .ok (.invokevirtual 96, 3) := by decide +kernel
theorem dX0_partOf_20 : decode cX0_partOf 20 = .ok (.if_icmp .ge 61, 3) := by decide +kernel
theorem dX0_partOf_23 : decode cX0_partOf 23 = .ok (.lload 4, 2) := by decide +kernel
theorem dX0_partOf_25 : decode cX0_partOf 25 = .ok (.bipush 7, 2) := by decide +kernel
theorem dX0_partOf_27 : decode cX0_partOf 27 = .ok (.lshl, 1) := by decide +kernel
theorem dX0_partOf_28 : decode cX0_partOf 28 = .ok (.aload_n 0, 1) := by decide +kernel
theorem dX0_partOf_29 : decode cX0_partOf 29 = .ok (.getfield 9, 3) := by decide +kernel
theorem dX0_partOf_32 : decode cX0_partOf 32 = .ok (.iload 6, 2) := by decide +kernel
theorem dX0_partOf_34 : decode cX0_partOf 34 = .ok (.iaload, 1) := by decide +kernel
theorem dX0_partOf_35 : decode cX0_partOf 35 = .ok (.bipush 127, 2) := by decide +kernel
theorem dX0_partOf_37 : decode cX0_partOf 37 = .ok (.iand, 1) := by decide +kernel
theorem dX0_partOf_38 : decode cX0_partOf 38 = .ok (.i2l, 1) := by decide +kernel
theorem dX0_partOf_39 : decode cX0_partOf 39 = .ok (.lor, 1) := by decide +kernel
theorem dX0_partOf_40 : decode cX0_partOf 40 = .ok (.ldc2_w 121, 3) := by decide +kernel
theorem dX0_partOf_43 : decode cX0_partOf 43 = .ok (.invokestatic 123, 3) := by decide +kernel
theorem dX0_partOf_46 : decode cX0_partOf 46 = .ok (.lstore 4, 2) := by decide +kernel
theorem dX0_partOf_48 : decode cX0_partOf 48 = .ok (.aload_n 0, 1) := by decide +kernel
theorem dX0_partOf_49 : decode cX0_partOf 49 = .ok (.getfield 9, 3) := by decide +kernel
theorem dX0_partOf_52 : decode cX0_partOf 52 = .ok (.iload 6, 2) := by decide +kernel
theorem dX0_partOf_54 : decode cX0_partOf 54 = .ok (.iaload, 1) := by decide +kernel
theorem dX0_partOf_55 : decode cX0_partOf 55 = .ok (.sipush 128, 3) := by decide +kernel
theorem dX0_partOf_58 : decode cX0_partOf 58 = .ok (.if_icmp .ge 17, 3) := by decide +kernel
theorem dX0_partOf_61 : decode cX0_partOf 61 = .ok (.iload_n 3, 1) := by decide +kernel
theorem dX0_partOf_62 : decode cX0_partOf 62 = .ok (.iload_n 2, 1) := by decide +kernel
theorem dX0_partOf_63 : decode cX0_partOf 63 = .ok (.if_icmp .ne 6, 3) := by decide +kernel
theorem dX0_partOf_66 : decode cX0_partOf 66 = .ok (.lload 4, 2) := by decide +kernel
theorem dX0_partOf_68 : decode cX0_partOf 68 = .ok (.lreturn, 1) := by decide +kernel
theorem dX0_partOf_69 : decode cX0_partOf 69 = .ok (.iinc 3 1, 3) := by decide +kernel
theorem dX0_partOf_72 : decode cX0_partOf 72 = .ok (.lconst 0, 1) := by decide +kernel
theorem dX0_partOf_73 : decode cX0_partOf 73 = .ok (.lstore 4, 2) := by decide +kernel
theorem dX0_partOf_75 : decode cX0_partOf 75 = .ok (.iinc 6 1, 3) := by decide +kernel
theorem dX0_partOf_78 : decode cX0_partOf 78 = .ok (.goto (-65), 3) := by decide +kernel
theorem dX0_partOf_81 : decode cX0_partOf 81 = .ok (.ldc2_w 129, 3) := by decide +kernel
theorem dX0_partOf_84 : decode cX0_partOf 84 = .ok (.lreturn, 1) := by decide +kernel
end
section
theorem dX1_isByte_0 : decode cX1_isByte 0 = .ok (.iload_n 0, 1) := by decide +kernel
theorem dX1_isByte_1 : decode cX1_isByte 1 = .ok (.ifCond .lt 14, 3) := by decide +kernel
theorem dX1_isByte_4 : decode cX1_isByte 4 = .ok (.iload_n 0, 1) := by decide +kernel
theorem dX1_isByte_5 : decode cX1_isByte 5 = .ok (.sipush 255, 3) := by decide +kernel
theorem dX1_isByte_8 : decode cX1_isByte 8 = .ok (.if_icmp .gt 7, 3) := by decide +kernel
theorem dX1_isByte_11 : decode cX1_isByte 11 = .ok (.iconst 1, 1) := by decide +kernel
theorem dX1_isByte_12 : decode cX1_isByte 12 = .ok (.goto 4, 3) := by decide +kernel
theorem dX1_isByte_15 : decode cX1_isByte 15 = .ok (.iconst 0, 1) := by decide +kernel
theorem dX1_isByte_16 : decode cX1_isByte 16 = .ok (.ireturn, 1) := by decide +kernel
theorem dX1_isIdentifier_0 : decode cX1_isIdentifier 0 = .ok (.iload_n 0, 1) := by decide +kernel
theorem dX1_isIdentifier_1 : decode cX1_isIdentifier 1 = .ok (.iconst 1, 1) := by decide +kernel
theorem dX1_isIdentifier_2 : decode cX1_isIdentifier 2 = .ok (.if_icmp .lt 9, 3) := by decide +kernel
theorem dX1_isIdentifier_5 : decode cX1_isIdentifier 5 = .ok (.iload_n 0, 1) := by decide +kernel
theorem dX1_isIdentifier_6 : decode cX1_isIdentifier 6 = .ok (.bipush 6, 2) := by decide +kernel
theorem dX1_isIdentifier_8 : decode cX1_isIdentifier 8 = .ok (.if_icmp .le 9, 3) := by decide +kernel
theorem dX1_isIdentifier_11 : decode cX1_isIdentifier 11 = .ok (.iload_n 0, 1) := by decide +kernel
theorem dX1_isIdentifier_12 : decode cX1_isIdentifier 12 = .ok (.bipush 48, 2) := by decide +kernel
theorem dX1_isIdentifier_14 : decode cX1_isIdentifier 14 = .ok (.if_icmp .ne 7, 3) := by decide +kernel
theorem dX1_isIdentifier_17 : decode cX1_isIdentifier 17 = .ok (.iconst 1, 1) := by decide +kernel
theorem dX1_isIdentifier_18 : decode cX1_isIdentifier 18 = .ok (.goto 4, 3) := by decide +kernel
theorem dX1_isIdentifier_21 : decode cX1_isIdentifier 21 = .ok (.iconst 0, 1) := by decide +kernel
theorem dX1_isIdentifier_22 : decode cX1_isIdentifier 22 = .ok (.ireturn, 1) := by decide +kernel
theorem dX1_lengthSize_0 : decode cX1_lengthSize 0 = .ok (.iload_n 0, 1) := by decide +kernel
theorem dX1_lengthSize_1 : decode cX1_lengthSize 1 = .ok (.sipush 128, 3) := by decide +kernel
theorem dX1_lengthSize_4 : decode cX1_lengthSize 4 = .ok (.if_icmp .ge 5, 3) := by decide +kernel
theorem dX1_lengthSize_7 : decode cX1_lengthSize 7 = .ok (.iconst 1, 1) := by decide +kernel
theorem dX1_lengthSize_8 : decode cX1_lengthSize 8 = .ok (.ireturn, 1) := by decide +kernel
theorem dX1_lengthSize_9 : decode cX1_lengthSize 9 = .ok (.iload_n 0, 1) := by decide +kernel
theorem dX1_lengthSize_10 : decode cX1_lengthSize 10 = .ok (.sipush 256, 3) := by decide +kernel
theorem dX1_lengthSize_13 : decode cX1_lengthSize 13 = .ok (.if_icmp .ge 7, 3) := by decide +kernel
theorem dX1_lengthSize_16 : decode cX1_lengthSize 16 = .ok (.iconst 2, 1) := by decide +kernel
theorem dX1_lengthSize_17 : decode cX1_lengthSize 17 = .ok (.goto 4, 3) := by decide +kernel
theorem dX1_lengthSize_20 : decode cX1_lengthSize 20 = .ok (.iconst 3, 1) := by decide +kernel
theorem dX1_lengthSize_21 : decode cX1_lengthSize 21 = .ok (.ireturn, 1) := by decide +kernel
set_option maxRecDepth 20000 in
theorem ggX1_hold_X1_isRightInteger : GoodIn wsX1_hold wsX1_isRightInteger := goodIn_r _ [4] (by decide +kernel) (by decide +kernel)
set_option maxRecDepth 20000 in
theorem gX1_hold_X1_isRightInteger : GoodIn wsX1_hold (va_wsS RX1 9 yX1_isRightInteger wsX1_isRightInteger) := goodIn_app (goodIn_of _ (by decide +kernel)) ggX1_hold_X1_isRightInteger
set_option maxRecDepth 20000 in
theorem ggX1_hold_X1_isRightBits : GoodIn wsX1_hold wsX1_isRightBits := goodIn_r _ [7] (by decide +kernel) (by decide +kernel)
set_option maxRecDepth 20000 in
theorem gX1_hold_X1_isRightBits : GoodIn wsX1_hold (va_wsS RX1 15 yX1_isRightBits wsX1_isRightBits) := goodIn_app (goodIn_of _ (by decide +kernel)) ggX1_hold_X1_isRightBits
set_option maxRecDepth 20000 in
theorem ggX1_hold_X1_isRightObject : GoodIn wsX1_hold wsX1_isRightObject := goodIn_r _ [10] (by decide +kernel) (by decide +kernel)
set_option maxRecDepth 20000 in
theorem gX1_hold_X1_isRightObject : GoodIn wsX1_hold (va_wsS RX1 18 yX1_isRightObject wsX1_isRightObject) := goodIn_app (goodIn_of _ (by decide +kernel)) ggX1_hold_X1_isRightObject
theorem dX1_hold_0 : decode cX1_hold 0 = .ok (.iload_n 0, 1) := by decide +kernel
theorem dX1_hold_1 : decode cX1_hold 1 = .ok (.tableswitch 96 1 6 #[39, 65, 72, 96, 79, 89], 39) := by decide +kernel
theorem dX1_hold_40 : decode cX1_hold 40 = .ok (.iload_n 3, 1) := by decide +kernel
theorem dX1_hold_41 : decode cX1_hold 41 = .ok (.iconst 1, 1) := by decide +kernel
theorem dX1_hold_42 : decode cX1_hold 42 = .ok (.if_icmp .ne 22, 3) := by decide +kernel
theorem dX1_hold_45 : decode cX1_hold 45 = .ok (.aload_n 1, 1) := by decide +kernel
theorem dX1_hold_46 : decode cX1_hold 46 = .ok (.iload_n 2, 1) := by decide +kernel
theorem dX1_hold_47 : decode cX1_hold 47 = .ok (.iaload, 1) := by decide +kernel
theorem dX1_hold_48 : decode cX1_hold 48 = .ok (.ifCond .eq 12, 3) := by decide +kernel
theorem dX1_hold_51 : decode cX1_hold 51 = .ok (.aload_n 1, 1) := by decide +kernel
theorem dX1_hold_52 : decode cX1_hold 52 = .ok (.iload_n 2, 1) := by decide +kernel
theorem dX1_hold_53 : decode cX1_hold 53 = .ok (.iaload, 1) := by decide +kernel
theorem dX1_hold_54 : decode cX1_hold 54 = .ok (.sipush 255, 3) := by decide +kernel
theorem dX1_hold_57 : decode cX1_hold 57 = .ok (.if_icmp .ne 7, 3) := by decide +kernel
theorem dX1_hold_60 : decode cX1_hold 60 = .ok (.iconst 1, 1) := by decide +kernel
theorem dX1_hold_61 : decode cX1_hold 61 = .ok (.goto 4, 3) := by decide +kernel
theorem dX1_hold_64 : decode cX1_hold 64 = .ok (.iconst 0, 1) := by decide +kernel
theorem dX1_hold_65 : decode cX1_hold 65 = .ok (.ireturn, 1) := by decide +kernel
theorem dX1_hold_66 : decode cX1_hold 66 = .ok (.aload_n 1, 1) := by decide +kernel
theorem dX1_hold_67 : decode cX1_hold 67 = .ok (.iload_n 2, 1) := by decide +kernel
theorem dX1_hold_68 : decode cX1_hold 68 = .ok (.iload_n 3, 1) := by decide +kernel
theorem dX1_hold_69 : decode cX1_hold 69 = .ok (.invokestatic 9, 3) := by decide +kernel
theorem dX1_hold_72 : decode cX1_hold 72 = .ok (.ireturn, 1) := by decide +kernel
theorem dX1_hold_73 : decode cX1_hold 73 = .ok (.aload_n 1, 1) := by decide +kernel
theorem dX1_hold_74 : decode cX1_hold 74 = .ok (.iload_n 2, 1) := by decide +kernel
theorem dX1_hold_75 : decode cX1_hold 75 = .ok (.iload_n 3, 1) := by decide +kernel
theorem dX1_hold_76 : decode cX1_hold 76 = .ok (.invokestatic 15, 3) := by decide +kernel
theorem dX1_hold_79 : decode cX1_hold 79 = .ok (.ireturn, 1) := by decide +kernel
theorem dX1_hold_80 : decode cX1_hold 80 = .ok (.iload_n 3, 1) := by decide +kernel
theorem dX1_hold_81 : decode cX1_hold 81 = .ok (.ifCond .ne 7, 3) := by decide +kernel
theorem dX1_hold_84 : decode cX1_hold 84 = .ok (.iconst 1, 1) := by decide +kernel
theorem dX1_hold_85 : decode cX1_hold 85 = .ok (.goto 4, 3) := by decide +kernel
theorem dX1_hold_88 : decode cX1_hold 88 = .ok (.iconst 0, 1) := by decide +kernel
theorem dX1_hold_89 : decode cX1_hold 89 = .ok (.ireturn, 1) := by decide +kernel
theorem dX1_hold_90 : decode cX1_hold 90 = .ok (.aload_n 1, 1) := by decide +kernel
theorem dX1_hold_91 : decode cX1_hold 91 = .ok (.iload_n 2, 1) := by decide +kernel
theorem dX1_hold_92 : decode cX1_hold 92 = .ok (.iload_n 3, 1) := by decide +kernel
theorem dX1_hold_93 : decode cX1_hold 93 = .ok (.invokestatic 18, 3) := by decide +kernel
theorem dX1_hold_96 : decode cX1_hold 96 = .ok (.ireturn, 1) := by decide +kernel
theorem dX1_hold_97 : decode cX1_hold 97 = .ok (.iconst 1, 1) := by decide +kernel
theorem dX1_hold_98 : decode cX1_hold 98 = .ok (.ireturn, 1) := by decide +kernel
theorem dX1_isRightInteger_0 : decode cX1_isRightInteger 0 = .ok (.iload_n 2, 1) := by decide +kernel
theorem dX1_isRightInteger_1 : decode cX1_isRightInteger 1 = .ok (.iconst 2, 1) := by decide +kernel
theorem dX1_isRightInteger_2 : decode cX1_isRightInteger 2 = .ok (.if_icmp .ge 14, 3) := by decide +kernel
theorem dX1_isRightInteger_5 : decode cX1_isRightInteger 5 = .ok (.iload_n 2, 1) := by decide +kernel
theorem dX1_isRightInteger_6 : decode cX1_isRightInteger 6 = .ok (.iconst 1, 1) := by decide +kernel
theorem dX1_isRightInteger_7 : decode cX1_isRightInteger 7 = .ok (.if_icmp .ne 7, 3) := by decide +kernel
theorem dX1_isRightInteger_10 : decode cX1_isRightInteger 10 = .ok (.iconst 1, 1) := by decide +kernel
theorem dX1_isRightInteger_11 : decode cX1_isRightInteger 11 = .ok (.goto 4, 3) := by decide +kernel
theorem dX1_isRightInteger_14 : decode cX1_isRightInteger 14 = .ok (.iconst 0, 1) := by decide +kernel
theorem dX1_isRightInteger_15 : decode cX1_isRightInteger 15 = .ok (.ireturn, 1) := by decide +kernel
theorem dX1_isRightInteger_16 : decode cX1_isRightInteger 16 = .ok (.aload_n 0, 1) := by decide +kernel
theorem dX1_isRightInteger_17 : decode cX1_isRightInteger 17 = .ok (.iload_n 1, 1) := by decide +kernel
theorem dX1_isRightInteger_18 : decode cX1_isRightInteger 18 = .ok (.iconst 1, 1) := by decide +kernel
theorem dX1_isRightInteger_19 : decode cX1_isRightInteger 19 = .ok (.iadd, 1) := by decide +kernel
theorem dX1_isRightInteger_20 : decode cX1_isRightInteger 20 = .ok (.iaload, 1) := by decide +kernel
theorem dX1_isRightInteger_21 : decode cX1_isRightInteger 21 = .ok (.sipush 128, 3) := by decide +kernel
theorem dX1_isRightInteger_24 : decode cX1_isRightInteger 24 = .ok (.if_icmp .lt 7, 3) := by decide +kernel
theorem dX1_isRightInteger_27 : decode cX1_isRightInteger 27 = .ok (.iconst 1, 1) := by decide +kernel
theorem dX1_isRightInteger_28 : decode cX1_isRightInteger 28 = .ok (.goto 4, 3) := by decide +kernel
theorem dX1_isRightInteger_31 : decode cX1_isRightInteger 31 = .ok (.iconst 0, 1) := by decide +kernel
theorem dX1_isRightInteger_32 : decode cX1_isRightInteger 32 = .ok (.istore_n 3, 1) := by decide +kernel
theorem dX1_isRightInteger_33 : decode cX1_isRightInteger 33 = .ok (.aload_n 0, 1) := by decide +kernel
theorem dX1_isRightInteger_34 : decode cX1_isRightInteger 34 = .ok (.iload_n 1, 1) := by decide +kernel
theorem dX1_isRightInteger_35 : decode cX1_isRightInteger 35 = .ok (.iaload, 1) := by decide +kernel
theorem dX1_isRightInteger_36 : decode cX1_isRightInteger 36 = .ok (.iload_n 3, 1) := by decide +kernel
theorem dX1_isRightInteger_37 : decode cX1_isRightInteger 37 = .ok (.ifCond .eq 9, 3) := by decide +kernel
theorem dX1_isRightInteger_40 : decode cX1_isRightInteger 40 = .ok (.sipush 255, 3) := by decide +kernel
theorem dX1_isRightInteger_43 : decode cX1_isRightInteger 43 = .ok (.goto 4, 3) := by decide +kernel
theorem dX1_isRightInteger_46 : decode cX1_isRightInteger 46 = .ok (.iconst 0, 1) := by decide +kernel
theorem dX1_isRightInteger_47 : decode cX1_isRightInteger 47 = .ok (.if_icmp .eq 7, 3) := by decide +kernel
theorem dX1_isRightInteger_50 : decode cX1_isRightInteger 50 = .ok (.iconst 1, 1) := by decide +kernel
theorem dX1_isRightInteger_51 : decode cX1_isRightInteger 51 = .ok (.goto 4, 3) := by decide +kernel
theorem dX1_isRightInteger_54 : decode cX1_isRightInteger 54 = .ok (.iconst 0, 1) := by decide +kernel
theorem dX1_isRightInteger_55 : decode cX1_isRightInteger 55 = .ok (.ireturn, 1) := by decide +kernel
theorem dX1_isRightBits_0 : decode cX1_isRightBits 0 = .ok (.iload_n 2, 1) := by decide +kernel
theorem dX1_isRightBits_1 : decode cX1_isRightBits 1 = .ok (.iconst 1, 1) := by decide +kernel
theorem dX1_isRightBits_2 : decode cX1_isRightBits 2 = .ok (.if_icmp .ge 5, 3) := by decide +kernel
theorem dX1_isRightBits_5 : decode cX1_isRightBits 5 = .ok (.iconst 0, 1) := by decide +kernel
theorem dX1_isRightBits_6 : decode cX1_isRightBits 6 = .ok (.ireturn, 1) := by decide +kernel
theorem dX1_isRightBits_7 : decode cX1_isRightBits 7 = .ok (.aload_n 0, 1) := by decide +kernel
theorem dX1_isRightBits_8 : decode cX1_isRightBits 8 = .ok (.iload_n 1, 1) := by decide +kernel
theorem dX1_isRightBits_9 : decode cX1_isRightBits 9 = .ok (.iaload, 1) := by decide +kernel
theorem dX1_isRightBits_10 : decode cX1_isRightBits 10 = .ok (.istore_n 3, 1) := by decide +kernel
theorem dX1_isRightBits_11 : decode cX1_isRightBits 11 = .ok (.iload_n 2, 1) := by decide +kernel
theorem dX1_isRightBits_12 : decode cX1_isRightBits 12 = .ok (.iconst 1, 1) := by decide +kernel
theorem dX1_isRightBits_13 : decode cX1_isRightBits 13 = .ok (.if_icmp .eq 9, 3) := by decide +kernel
theorem dX1_isRightBits_16 : decode cX1_isRightBits 16 = .ok (.iload_n 3, 1) := by decide +kernel
theorem dX1_isRightBits_17 : decode cX1_isRightBits 17 = .ok (.bipush 7, 2) := by decide +kernel
theorem dX1_isRightBits_19 : decode cX1_isRightBits 19 = .ok (.if_icmp .le 13, 3) := by decide +kernel
theorem dX1_isRightBits_22 : decode cX1_isRightBits 22 = .ok (.iload_n 3, 1) := by decide +kernel
theorem dX1_isRightBits_23 : decode cX1_isRightBits 23 = .ok (.ifCond .ne 7, 3) := by decide +kernel
theorem dX1_isRightBits_26 : decode cX1_isRightBits 26 = .ok (.iconst 1, 1) := by decide +kernel
theorem dX1_isRightBits_27 : decode cX1_isRightBits 27 = .ok (.goto 4, 3) := by decide +kernel
theorem dX1_isRightBits_30 : decode cX1_isRightBits 30 = .ok (.iconst 0, 1) := by decide +kernel
theorem dX1_isRightBits_31 : decode cX1_isRightBits 31 = .ok (.ireturn, 1) := by decide +kernel
theorem dX1_isRightBits_32 : decode cX1_isRightBits 32 = .ok (.iconst 1, 1) := by decide +kernel
theorem dX1_isRightBits_33 : decode cX1_isRightBits 33 = .ok (.iload_n 3, 1) := by decide +kernel
theorem dX1_isRightBits_34 : decode cX1_isRightBits 34 = .ok (.ishl, 1) := by decide +kernel
theorem dX1_isRightBits_35 : decode cX1_isRightBits 35 = .ok (.iconst 1, 1) := by decide +kernel
theorem dX1_isRightBits_36 : decode cX1_isRightBits 36 = .ok (.isub, 1) := by decide +kernel
theorem dX1_isRightBits_37 : decode cX1_isRightBits 37 = .ok (.istore 4, 2) := by decide +kernel
theorem dX1_isRightBits_39 : decode cX1_isRightBits 39 = .ok (.aload_n 0, 1) := by decide +kernel
theorem dX1_isRightBits_40 : decode cX1_isRightBits 40 = .ok (.iload_n 1, 1) := by decide +kernel
theorem dX1_isRightBits_41 : decode cX1_isRightBits 41 = .ok (.iload_n 2, 1) := by decide +kernel
theorem dX1_isRightBits_42 : decode cX1_isRightBits 42 = .ok (.iadd, 1) := by decide +kernel
theorem dX1_isRightBits_43 : decode cX1_isRightBits 43 = .ok (.iconst 1, 1) := by decide +kernel
theorem dX1_isRightBits_44 : decode cX1_isRightBits 44 = .ok (.isub, 1) := by decide +kernel
theorem dX1_isRightBits_45 : decode cX1_isRightBits 45 = .ok (.iaload, 1) := by decide +kernel
theorem dX1_isRightBits_46 : decode cX1_isRightBits 46 = .ok (.iload 4, 2) := by decide +kernel
theorem dX1_isRightBits_48 : decode cX1_isRightBits 48 = .ok (.iand, 1) := by decide +kernel
theorem dX1_isRightBits_49 : decode cX1_isRightBits 49 = .ok (.ifCond .ne 7, 3) := by decide +kernel
theorem dX1_isRightBits_52 : decode cX1_isRightBits 52 = .ok (.iconst 1, 1) := by decide +kernel
theorem dX1_isRightBits_53 : decode cX1_isRightBits 53 = .ok (.goto 4, 3) := by decide +kernel
theorem dX1_isRightBits_56 : decode cX1_isRightBits 56 = .ok (.iconst 0, 1) := by decide +kernel
theorem dX1_isRightBits_57 : decode cX1_isRightBits 57 = .ok (.ireturn, 1) := by decide +kernel
theorem dX1_isRightObject_0 : decode cX1_isRightObject 0 = .ok (.iconst 1, 1) := by decide +kernel
theorem dX1_isRightObject_1 : decode cX1_isRightObject 1 = .ok (.istore_n 3, 1) := by decide +kernel
theorem dX1_isRightObject_2 : decode cX1_isRightObject 2 = .ok (.iload_n 1, 1) := by decide +kernel
theorem dX1_isRightObject_3 : decode cX1_isRightObject 3 = .ok (.istore 4, 2) := by decide +kernel
theorem dX1_isRightObject_5 : decode cX1_isRightObject 5 = .ok (.iload 4, 2) := by decide +kernel
theorem dX1_isRightObject_7 : decode cX1_isRightObject 7 = .ok (.iload_n 1, 1) := by decide +kernel
theorem dX1_isRightObject_8 : decode cX1_isRightObject 8 = .ok (.iload_n 2, 1) := by decide +kernel
theorem dX1_isRightObject_9 : decode cX1_isRightObject 9 = .ok (.iadd, 1) := by decide +kernel
theorem dX1_isRightObject_10 : decode cX1_isRightObject 10 = .ok (.if_icmp .ge 41, 3) := by decide +kernel
theorem dX1_isRightObject_13 : decode cX1_isRightObject 13 = .ok (.iload_n 3, 1) := by decide +kernel
theorem dX1_isRightObject_14 : decode cX1_isRightObject 14 = .ok (.ifCond .eq 15, 3) := by decide +kernel
theorem dX1_isRightObject_17 : decode cX1_isRightObject 17 = .ok (.aload_n 0, 1) := by decide +kernel
theorem dX1_isRightObject_18 : decode cX1_isRightObject 18 = .ok (.iload 4, 2) := by decide +kernel
theorem dX1_isRightObject_20 : decode cX1_isRightObject 20 = .ok (.iaload, 1) := by decide +kernel
theorem dX1_isRightObject_21 : decode cX1_isRightObject 21 = .ok (.sipush 128, 3) := by decide +kernel
theorem dX1_isRightObject_24 : decode cX1_isRightObject 24 = .ok (.if_icmp .ne 5, 3) := by decide +kernel
theorem dX1_isRightObject_27 : decode cX1_isRightObject 27 = .ok (.iconst 0, 1) := by decide +kernel
theorem dX1_isRightObject_28 : decode cX1_isRightObject 28 = .ok (.ireturn, 1) := by decide +kernel
theorem dX1_isRightObject_29 : decode cX1_isRightObject 29 = .ok (.aload_n 0, 1) := by decide +kernel
theorem dX1_isRightObject_30 : decode cX1_isRightObject 30 = .ok (.iload 4, 2) := by decide +kernel
theorem dX1_isRightObject_32 : decode cX1_isRightObject 32 = .ok (.iaload, 1) := by decide +kernel
theorem dX1_isRightObject_33 : decode cX1_isRightObject 33 = .ok (.sipush 128, 3) := by decide +kernel
theorem dX1_isRightObject_36 : decode cX1_isRightObject 36 = .ok (.if_icmp .ge 7, 3) := by decide +kernel
theorem dX1_isRightObject_39 : decode cX1_isRightObject 39 = .ok (.iconst 1, 1) := by decide +kernel
theorem dX1_isRightObject_40 : decode cX1_isRightObject 40 = .ok (.goto 4, 3) := by decide +kernel
theorem dX1_isRightObject_43 : decode cX1_isRightObject 43 = .ok (.iconst 0, 1) := by decide +kernel
theorem dX1_isRightObject_44 : decode cX1_isRightObject 44 = .ok (.istore_n 3, 1) := by decide +kernel
theorem dX1_isRightObject_45 : decode cX1_isRightObject 45 = .ok (.iinc 4 1, 3) := by decide +kernel
theorem dX1_isRightObject_48 : decode cX1_isRightObject 48 = .ok (.goto (-43), 3) := by decide +kernel
theorem dX1_isRightObject_51 : decode cX1_isRightObject 51 = .ok (.iload_n 2, 1) := by decide +kernel
theorem dX1_isRightObject_52 : decode cX1_isRightObject 52 = .ok (.ifCond .le 11, 3) := by decide +kernel
theorem dX1_isRightObject_55 : decode cX1_isRightObject 55 = .ok (.iload_n 3, 1) := by decide +kernel
theorem dX1_isRightObject_56 : decode cX1_isRightObject 56 = .ok (.ifCond .eq 7, 3) := by decide +kernel
theorem dX1_isRightObject_59 : decode cX1_isRightObject 59 = .ok (.iconst 1, 1) := by decide +kernel
theorem dX1_isRightObject_60 : decode cX1_isRightObject 60 = .ok (.goto 4, 3) := by decide +kernel
theorem dX1_isRightObject_63 : decode cX1_isRightObject 63 = .ok (.iconst 0, 1) := by decide +kernel
theorem dX1_isRightObject_64 : decode cX1_isRightObject 64 = .ok (.ireturn, 1) := by decide +kernel
theorem dX2_init_0 : decode cX2_init 0 = .ok (.aload_n 0, 1) := by decide +kernel
theorem dX2_init_1 : decode cX2_init 1 = .ok (.invokespecial 3, 3) := by decide +kernel
theorem dX2_init_4 : decode cX2_init 4 = .ok (.aload_n 0, 1) := by decide +kernel
theorem dX2_init_5 : decode cX2_init 5 = .ok (.sipush 300, 3) := by decide +kernel
theorem dX2_init_8 : decode cX2_init 8 = .ok (.newarray .int, 2) := by decide +kernel
theorem dX2_init_10 : decode cX2_init 10 = .ok (.putfield 9, 3) := by decide +kernel
theorem dX2_init_13 : decode cX2_init 13 = .ok (.aload_n 0, 1) := by decide +kernel
theorem dX2_init_14 : decode cX2_init 14 = .ok (.iconst 0, 1) := by decide +kernel
theorem dX2_init_15 : decode cX2_init 15 = .ok (.putfield 15, 3) := by decide +kernel
theorem dX2_init_18 : decode cX2_init 18 = .ok (.aload_n 0, 1) := by decide +kernel
theorem dX2_init_19 : decode cX2_init 19 = .ok (.bipush 16, 2) := by decide +kernel
theorem dX2_init_21 : decode cX2_init 21 = .ok (.newarray .int, 2) := by decide +kernel
theorem dX2_init_23 : decode cX2_init 23 = .ok (.putfield 19, 3) := by decide +kernel
theorem dX2_init_26 : decode cX2_init 26 = .ok (.aload_n 0, 1) := by decide +kernel
theorem dX2_init_27 : decode cX2_init 27 = .ok (.iconst 0, 1) := by decide +kernel
theorem dX2_init_28 : decode cX2_init 28 = .ok (.putfield 22, 3) := by decide +kernel
theorem dX2_init_31 : decode cX2_init 31 = .ok (.return_, 1) := by decide +kernel
theorem dX2_clear_0 : decode cX2_clear 0 = .ok (.aload_n 0, 1) := by decide +kernel
theorem dX2_clear_1 : decode cX2_clear 1 = .ok (.iconst 0, 1) := by decide +kernel
theorem dX2_clear_2 : decode cX2_clear 2 = .ok (.putfield 15, 3) := by decide +kernel
theorem dX2_clear_5 : decode cX2_clear 5 = .ok (.aload_n 0, 1) := by decide +kernel
theorem dX2_clear_6 : decode cX2_clear 6 = .ok (.iconst 0, 1) := by decide +kernel
theorem dX2_clear_7 : decode cX2_clear 7 = .ok (.putfield 22, 3) := by decide +kernel
theorem dX2_clear_10 : decode cX2_clear 10 = .ok (.return_, 1) := by decide +kernel
set_option maxRecDepth 20000 in
theorem ggX2_open_X1_isIdentifier : GoodIn wsX2_open wsX1_isIdentifier := goodIn_r _ [7] (by decide +kernel) (by decide +kernel)
set_option maxRecDepth 20000 in
theorem gX2_open_X1_isIdentifier : GoodIn wsX2_open (va_wsS RX2 25 yX1_isIdentifier wsX1_isIdentifier) := goodIn_app (goodIn_of _ (by decide +kernel)) ggX2_open_X1_isIdentifier
set_option maxRecDepth 20000 in
theorem ggX2_open_X2_canHoldValue : GoodIn wsX2_open wsX2_canHoldValue := goodIn_r _ [12, 1, 3, 13, 14, 15, 11, 16, 17, 2, 26, 27, 28, 29] (by decide +kernel) (by decide +kernel)
set_option maxRecDepth 20000 in
theorem gX2_open_X2_canHoldValue : GoodIn wsX2_open (wsV RX2 31 RX2 yX2_canHoldValue wsX2_canHoldValue) := goodIn_app (goodIn_of _ (by decide +kernel)) ggX2_open_X2_canHoldValue
set_option maxRecDepth 20000 in
theorem ggX2_open_X2_hasRoom : GoodIn wsX2_open wsX2_hasRoom := goodIn_r _ [21, 3, 26, 27, 28, 29] (by decide +kernel) (by decide +kernel)
set_option maxRecDepth 20000 in
theorem gX2_open_X2_hasRoom : GoodIn wsX2_open (wsV RX2 35 RX2 yX2_hasRoom wsX2_hasRoom) := goodIn_app (goodIn_of _ (by decide +kernel)) ggX2_open_X2_hasRoom
set_option maxRecDepth 20000 in
theorem ggX2_open_X2_append : GoodIn wsX2_open wsX2_append := goodIn_r _ [25, 3, 17, 26, 27, 28, 29] (by decide +kernel) (by decide +kernel)
set_option maxRecDepth 20000 in
theorem gX2_open_X2_append : GoodIn wsX2_open (wsV RX2 38 RX2 yX2_append wsX2_append) := goodIn_app (goodIn_of _ (by decide +kernel)) ggX2_open_X2_append
theorem dX2_open_0 : decode cX2_open 0 = .ok (.iload_n 1, 1) := by decide +kernel
theorem dX2_open_1 : decode cX2_open 1 = .ok (.invokestatic 25, 3) := by decide +kernel
theorem dX2_open_4 : decode cX2_open 4 = .ok (.ifCond .ne 5, 3) := by decide +kernel
theorem dX2_open_7 : decode cX2_open 7 = .ok (.iconst (-1), 1) := by decide +kernel
theorem dX2_open_8 : decode cX2_open 8 = .ok (.ireturn, 1) := by decide +kernel
theorem dX2_open_9 : decode cX2_open 9 = .ok (.aload_n 0, 1) := by decide +kernel
theorem dX2_open_10 : decode cX2_open 10 = .ok (.invokevirtual 31, 3) := by decide +kernel
theorem dX2_open_13 : decode cX2_open 13 = .ok (.ifCond .ne 6, 3) := by decide +kernel
theorem dX2_open_16 : decode cX2_open 16 = .ok (.bipush (-2), 2) := by decide +kernel
theorem dX2_open_18 : decode cX2_open 18 = .ok (.ireturn, 1) := by decide +kernel
theorem dX2_open_19 : decode cX2_open 19 = .ok (.aload_n 0, 1) := by decide +kernel
theorem dX2_open_20 : decode cX2_open 20 = .ok (.getfield 22, 3) := by decide +kernel
theorem dX2_open_23 : decode cX2_open 23 = .ok (.bipush 16, 2) := by decide +kernel
theorem dX2_open_25 : decode cX2_open 25 = .ok (.if_icmp .ge 11, 3) := by decide +kernel
theorem dX2_open_28 : decode cX2_open 28 = .ok (.aload_n 0, 1) := by decide +kernel
theorem dX2_open_29 : decode cX2_open 29 = .ok (.iconst 1, 1) := by decide +kernel
theorem dX2_open_30 : decode cX2_open 30 = .ok (.invokevirtual 35, 3) := by decide +kernel
theorem dX2_open_33 : decode cX2_open 33 = .ok (.ifCond .ne 6, 3) := by decide +kernel
theorem dX2_open_36 : decode cX2_open 36 = .ok (.bipush (-3), 2) := by decide +kernel
theorem dX2_open_38 : decode cX2_open 38 = .ok (.ireturn, 1) := by decide +kernel
theorem dX2_open_39 : decode cX2_open 39 = .ok (.aload_n 0, 1) := by decide +kernel
theorem dX2_open_40 : decode cX2_open 40 = .ok (.getfield 19, 3) := by decide +kernel
theorem dX2_open_43 : decode cX2_open 43 = .ok (.aload_n 0, 1) := by decide +kernel
theorem dX2_open_44 : decode cX2_open 44 = .ok (.getfield 22, 3) := by decide +kernel
theorem dX2_open_47 : decode cX2_open 47 = .ok (.aload_n 0, 1) := by decide +kernel
theorem dX2_open_48 : decode cX2_open 48 = .ok (.getfield 15, 3) := by decide +kernel
theorem dX2_open_51 : decode cX2_open 51 = .ok (.iastore, 1) := by decide +kernel
theorem dX2_open_52 : decode cX2_open 52 = .ok (.aload_n 0, 1) := by decide +kernel
theorem dX2_open_53 : decode cX2_open 53 = .ok (.dup, 1) := by decide +kernel
theorem dX2_open_54 : decode cX2_open 54 = .ok (.getfield 22, 3) := by decide +kernel
theorem dX2_open_57 : decode cX2_open 57 = .ok (.iconst 1, 1) := by decide +kernel
theorem dX2_open_58 : decode cX2_open 58 = .ok (.iadd, 1) := by decide +kernel
theorem dX2_open_59 : decode cX2_open 59 = .ok (.putfield 22, 3) := by decide +kernel
theorem dX2_open_62 : decode cX2_open 62 = .ok (.aload_n 0, 1) := by decide +kernel
theorem dX2_open_63 : decode cX2_open 63 = .ok (.iload_n 1, 1) := by decide +kernel
theorem dX2_open_64 : decode cX2_open 64 = .ok (.invokevirtual 38, 3) := by decide +kernel
theorem dX2_open_67 : decode cX2_open 67 = .ok (.iconst 0, 1) := by decide +kernel
theorem dX2_open_68 : decode cX2_open 68 = .ok (.ireturn, 1) := by decide +kernel
set_option maxRecDepth 20000 in
theorem ggX2_addByte_X1_isByte : GoodIn wsX2_addByte wsX1_isByte := goodIn_r _ [5] (by decide +kernel) (by decide +kernel)
set_option maxRecDepth 20000 in
theorem gX2_addByte_X1_isByte : GoodIn wsX2_addByte (va_wsS RX2 42 yX1_isByte wsX1_isByte) := goodIn_app (goodIn_of _ (by decide +kernel)) ggX2_addByte_X1_isByte
set_option maxRecDepth 20000 in
theorem ggX2_addByte_X2_openTag : GoodIn wsX2_addByte wsX2_openTag := goodIn_r _ [10, 1, 11, 12, 22, 23, 24, 25] (by decide +kernel) (by decide +kernel)
set_option maxRecDepth 20000 in
theorem gX2_addByte_X2_openTag : GoodIn wsX2_addByte (wsV RX2 45 RX2 yX2_openTag wsX2_openTag) := goodIn_app (goodIn_of _ (by decide +kernel)) ggX2_addByte_X2_openTag
set_option maxRecDepth 20000 in
theorem ggX2_addByte_X2_hasRoom : GoodIn wsX2_addByte wsX2_hasRoom := goodIn_r _ [16, 17, 22, 23, 24, 25] (by decide +kernel) (by decide +kernel)
set_option maxRecDepth 20000 in
theorem gX2_addByte_X2_hasRoom : GoodIn wsX2_addByte (wsV RX2 35 RX2 yX2_hasRoom wsX2_hasRoom) := goodIn_app (goodIn_of _ (by decide +kernel)) ggX2_addByte_X2_hasRoom
set_option maxRecDepth 20000 in
theorem ggX2_addByte_X2_append : GoodIn wsX2_addByte wsX2_append := goodIn_r _ [21, 17, 11, 22, 23, 24, 25] (by decide +kernel) (by decide +kernel)
set_option maxRecDepth 20000 in
theorem gX2_addByte_X2_append : GoodIn wsX2_addByte (wsV RX2 38 RX2 yX2_append wsX2_append) := goodIn_app (goodIn_of _ (by decide +kernel)) ggX2_addByte_X2_append
theorem dX2_addByte_0 : decode cX2_addByte 0 = .ok (.iload_n 1, 1) := by decide +kernel
theorem dX2_addByte_1 : decode cX2_addByte 1 = .ok (.invokestatic 42, 3) := by decide +kernel
theorem dX2_addByte_4 : decode cX2_addByte 4 = .ok (.ifCond .ne 5, 3) := by decide +kernel
theorem dX2_addByte_7 : decode cX2_addByte 7 = .ok (.iconst (-1), 1) := by decide +kernel
theorem dX2_addByte_8 : decode cX2_addByte 8 = .ok (.ireturn, 1) := by decide +kernel
theorem dX2_addByte_9 : decode cX2_addByte 9 = .ok (.aload_n 0, 1) := by decide +kernel
theorem dX2_addByte_10 : decode cX2_addByte 10 = .ok (.getfield 22, 3) := by decide +kernel
theorem dX2_addByte_13 : decode cX2_addByte 13 = .ok (.ifCond .eq 12, 3) := by decide +kernel
theorem dX2_addByte_16 : decode cX2_addByte 16 = .ok (.aload_n 0, 1) := by decide +kernel
theorem dX2_addByte_17 : decode cX2_addByte 17 = .ok (.invokevirtual 45, 3) := by decide +kernel
theorem dX2_addByte_20 : decode cX2_addByte 20 = .ok (.bipush 48, 2) := by decide +kernel
theorem dX2_addByte_22 : decode cX2_addByte 22 = .ok (.if_icmp .ne 6, 3) := by decide +kernel
theorem dX2_addByte_25 : decode cX2_addByte 25 = .ok (.bipush (-2), 2) := by decide +kernel
theorem dX2_addByte_27 : decode cX2_addByte 27 = .ok (.ireturn, 1) := by decide +kernel
theorem dX2_addByte_28 : decode cX2_addByte 28 = .ok (.aload_n 0, 1) := by decide +kernel
theorem dX2_addByte_29 : decode cX2_addByte 29 = .ok (.iconst 1, 1) := by decide +kernel
theorem dX2_addByte_30 : decode cX2_addByte 30 = .ok (.invokevirtual 35, 3) := by decide +kernel
theorem dX2_addByte_33 : decode cX2_addByte 33 = .ok (.ifCond .ne 6, 3) := by decide +kernel
theorem dX2_addByte_36 : decode cX2_addByte 36 = .ok (.bipush (-3), 2) := by decide +kernel
theorem dX2_addByte_38 : decode cX2_addByte 38 = .ok (.ireturn, 1) := by decide +kernel
theorem dX2_addByte_39 : decode cX2_addByte 39 = .ok (.aload_n 0, 1) := by decide +kernel
theorem dX2_addByte_40 : decode cX2_addByte 40 = .ok (.iload_n 1, 1) := by decide +kernel
theorem dX2_addByte_41 : decode cX2_addByte 41 = .ok (.invokevirtual 38, 3) := by decide +kernel
theorem dX2_addByte_44 : decode cX2_addByte 44 = .ok (.iconst 0, 1) := by decide +kernel
theorem dX2_addByte_45 : decode cX2_addByte 45 = .ok (.ireturn, 1) := by decide +kernel
set_option maxRecDepth 20000 in
theorem ggX2_addInteger_X2_openTag : GoodIn wsX2_addInteger wsX2_openTag := goodIn_r _ [5, 6, 7, 8, 25, 26, 27, 28] (by decide +kernel) (by decide +kernel)
set_option maxRecDepth 20000 in
theorem gX2_addInteger_X2_openTag : GoodIn wsX2_addInteger (wsV RX2 45 RX2 yX2_openTag wsX2_openTag) := goodIn_app (goodIn_of _ (by decide +kernel)) ggX2_addInteger_X2_openTag
set_option maxRecDepth 20000 in
theorem ggX2_addInteger_X2_openLength : GoodIn wsX2_addInteger wsX2_openLength := goodIn_r _ [12, 6, 13, 8, 25, 26, 27, 28] (by decide +kernel) (by decide +kernel)
set_option maxRecDepth 20000 in
theorem gX2_addInteger_X2_openLength : GoodIn wsX2_addInteger (wsV RX2 49 RX2 yX2_openLength wsX2_openLength) := goodIn_app (goodIn_of _ (by decide +kernel)) ggX2_addInteger_X2_openLength
set_option maxRecDepth 20000 in
theorem ggX2_addInteger_X2_integerSize : GoodIn wsX2_addInteger wsX2_integerSize := goodIn_r _ [16] (by decide +kernel) (by decide +kernel)
set_option maxRecDepth 20000 in
theorem gX2_addInteger_X2_integerSize : GoodIn wsX2_addInteger (va_wsS RX2 52 yX2_integerSize wsX2_integerSize) := goodIn_app (goodIn_of _ (by decide +kernel)) ggX2_addInteger_X2_integerSize
set_option maxRecDepth 20000 in
theorem ggX2_addInteger_X2_hasRoom : GoodIn wsX2_addInteger wsX2_hasRoom := goodIn_r _ [20, 13, 25, 26, 27, 28] (by decide +kernel) (by decide +kernel)
set_option maxRecDepth 20000 in
theorem gX2_addInteger_X2_hasRoom : GoodIn wsX2_addInteger (wsV RX2 35 RX2 yX2_hasRoom wsX2_hasRoom) := goodIn_app (goodIn_of _ (by decide +kernel)) ggX2_addInteger_X2_hasRoom
set_option maxRecDepth 20000 in
theorem ggX2_addInteger_X2_append : GoodIn wsX2_addInteger wsX2_append := goodIn_r _ [24, 13, 7, 25, 26, 27, 28] (by decide +kernel) (by decide +kernel)
set_option maxRecDepth 20000 in
theorem gX2_addInteger_X2_append : GoodIn wsX2_addInteger (wsV RX2 38 RX2 yX2_append wsX2_append) := goodIn_app (goodIn_of _ (by decide +kernel)) ggX2_addInteger_X2_append
theorem dX2_addInteger_0 : decode cX2_addInteger 0 = .ok (.aload_n 0, 1) := by decide +kernel
theorem dX2_addInteger_1 : decode cX2_addInteger 1 = .ok (.invokevirtual 45, 3) := by decide +kernel
theorem dX2_addInteger_4 : decode cX2_addInteger 4 = .ok (.iconst 2, 1) := by decide +kernel
theorem dX2_addInteger_5 : decode cX2_addInteger 5 = .ok (.if_icmp .ne 10, 3) := by decide +kernel
theorem dX2_addInteger_8 : decode cX2_addInteger 8 = .ok (.aload_n 0, 1) := by decide +kernel
theorem dX2_addInteger_9 : decode cX2_addInteger 9 = .ok (.invokevirtual 49, 3) := by decide +kernel
theorem dX2_addInteger_12 : decode cX2_addInteger 12 = .ok (.ifCond .le 6, 3) := by decide +kernel
theorem dX2_addInteger_15 : decode cX2_addInteger 15 = .ok (.bipush (-2), 2) := by decide +kernel
theorem dX2_addInteger_17 : decode cX2_addInteger 17 = .ok (.ireturn, 1) := by decide +kernel
theorem dX2_addInteger_18 : decode cX2_addInteger 18 = .ok (.iload_n 1, 1) := by decide +kernel
theorem dX2_addInteger_19 : decode cX2_addInteger 19 = .ok (.invokestatic 52, 3) := by decide +kernel
theorem dX2_addInteger_22 : decode cX2_addInteger 22 = .ok (.istore_n 2, 1) := by decide +kernel
theorem dX2_addInteger_23 : decode cX2_addInteger 23 = .ok (.aload_n 0, 1) := by decide +kernel
theorem dX2_addInteger_24 : decode cX2_addInteger 24 = .ok (.iload_n 2, 1) := by decide +kernel
theorem dX2_addInteger_25 : decode cX2_addInteger 25 = .ok (.invokevirtual 35, 3) := by decide +kernel
theorem dX2_addInteger_28 : decode cX2_addInteger 28 = .ok (.ifCond .ne 6, 3) := by decide +kernel
theorem dX2_addInteger_31 : decode cX2_addInteger 31 = .ok (.bipush (-3), 2) := by decide +kernel
theorem dX2_addInteger_33 : decode cX2_addInteger 33 = .ok (.ireturn, 1) := by decide +kernel
theorem dX2_addInteger_34 : decode cX2_addInteger 34 = .ok (.iload_n 2, 1) := by decide +kernel
theorem dX2_addInteger_35 : decode cX2_addInteger 35 = .ok (.iconst 1, 1) := by decide +kernel
theorem dX2_addInteger_36 : decode cX2_addInteger 36 = .ok (.isub, 1) := by decide +kernel
theorem dX2_addInteger_37 : decode cX2_addInteger 37 = .ok (.istore_n 3, 1) := by decide +kernel
theorem dX2_addInteger_38 : decode cX2_addInteger 38 = .ok (.iload_n 3, 1) := by decide +kernel
theorem dX2_addInteger_39 : decode cX2_addInteger 39 = .ok (.ifCond .lt 23, 3) := by decide +kernel
theorem dX2_addInteger_42 : decode cX2_addInteger 42 = .ok (.aload_n 0, 1) := by decide +kernel
theorem dX2_addInteger_43 : decode cX2_addInteger 43 = .ok (.iload_n 1, 1) := by decide +kernel
theorem dX2_addInteger_44 : decode cX2_addInteger 44 = .ok (.bipush 8, 2) := by decide +kernel
theorem dX2_addInteger_46 : decode cX2_addInteger 46 = .ok (.iload_n 3, 1) := by decide +kernel
theorem dX2_addInteger_47 : decode cX2_addInteger 47 = .ok (.imul, 1) := by decide +kernel
theorem dX2_addInteger_48 : decode cX2_addInteger 48 = .ok (.ishr, 1) := by decide +kernel
theorem dX2_addInteger_49 : decode cX2_addInteger 49 = .ok (.sipush 255, 3) := by decide +kernel
theorem dX2_addInteger_52 : decode cX2_addInteger 52 = .ok (.iand, 1) := by decide +kernel
theorem dX2_addInteger_53 : decode cX2_addInteger 53 = .ok (.invokevirtual 38, 3) := by decide +kernel
theorem dX2_addInteger_56 : decode cX2_addInteger 56 = .ok (.iinc 3 (-1), 3) := by decide +kernel
theorem dX2_addInteger_59 : decode cX2_addInteger 59 = .ok (.goto (-21), 3) := by decide +kernel
theorem dX2_addInteger_62 : decode cX2_addInteger 62 = .ok (.iconst 0, 1) := by decide +kernel
theorem dX2_addInteger_63 : decode cX2_addInteger 63 = .ok (.ireturn, 1) := by decide +kernel
set_option maxRecDepth 20000 in
theorem ggX2_addPart_X2_openTag : GoodIn wsX2_addPart wsX2_openTag := goodIn_r _ [5, 6, 7, 8, 21, 22, 23, 24] (by decide +kernel) (by decide +kernel)
set_option maxRecDepth 20000 in
theorem gX2_addPart_X2_openTag : GoodIn wsX2_addPart (wsV RX2 45 RX2 yX2_openTag wsX2_openTag) := goodIn_app (goodIn_of _ (by decide +kernel)) ggX2_addPart_X2_openTag
set_option maxRecDepth 20000 in
theorem ggX2_addPart_X2_partSize : GoodIn wsX2_addPart wsX2_partSize := goodIn_r _ [11] (by decide +kernel) (by decide +kernel)
set_option maxRecDepth 20000 in
theorem gX2_addPart_X2_partSize : GoodIn wsX2_addPart (va_wsS RX2 56 yX2_partSize wsX2_partSize) := goodIn_app (goodIn_of _ (by decide +kernel)) ggX2_addPart_X2_partSize
set_option maxRecDepth 20000 in
theorem ggX2_addPart_X2_hasRoom : GoodIn wsX2_addPart wsX2_hasRoom := goodIn_r _ [15, 16, 21, 22, 23, 24] (by decide +kernel) (by decide +kernel)
set_option maxRecDepth 20000 in
theorem gX2_addPart_X2_hasRoom : GoodIn wsX2_addPart (wsV RX2 35 RX2 yX2_hasRoom wsX2_hasRoom) := goodIn_app (goodIn_of _ (by decide +kernel)) ggX2_addPart_X2_hasRoom
set_option maxRecDepth 20000 in
theorem ggX2_addPart_X2_append : GoodIn wsX2_addPart wsX2_append := goodIn_r _ [20, 16, 7, 21, 22, 23, 24] (by decide +kernel) (by decide +kernel)
set_option maxRecDepth 20000 in
theorem gX2_addPart_X2_append : GoodIn wsX2_addPart (wsV RX2 38 RX2 yX2_append wsX2_append) := goodIn_app (goodIn_of _ (by decide +kernel)) ggX2_addPart_X2_append
theorem dX2_addPart_0 : decode cX2_addPart 0 = .ok (.iload_n 1, 1) := by decide +kernel
theorem dX2_addPart_1 : decode cX2_addPart 1 = .ok (.ifCond .ge 5, 3) := by decide +kernel
theorem dX2_addPart_4 : decode cX2_addPart 4 = .ok (.iconst (-1), 1) := by decide +kernel
theorem dX2_addPart_5 : decode cX2_addPart 5 = .ok (.ireturn, 1) := by decide +kernel
theorem dX2_addPart_6 : decode cX2_addPart 6 = .ok (.aload_n 0, 1) := by decide +kernel
theorem dX2_addPart_7 : decode cX2_addPart 7 = .ok (.invokevirtual 45, 3) := by decide +kernel
theorem dX2_addPart_10 : decode cX2_addPart 10 = .ok (.bipush 6, 2) := by decide +kernel
theorem dX2_addPart_12 : decode cX2_addPart 12 = .ok (.if_icmp .eq 6, 3) := by decide +kernel
theorem dX2_addPart_15 : decode cX2_addPart 15 = .ok (.bipush (-2), 2) := by decide +kernel
theorem dX2_addPart_17 : decode cX2_addPart 17 = .ok (.ireturn, 1) := by decide +kernel
theorem dX2_addPart_18 : decode cX2_addPart 18 = .ok (.iload_n 1, 1) := by decide +kernel
theorem dX2_addPart_19 : decode cX2_addPart 19 = .ok (.invokestatic 56, 3) := by decide +kernel
theorem dX2_addPart_22 : decode cX2_addPart 22 = .ok (.istore_n 2, 1) := by decide +kernel
theorem dX2_addPart_23 : decode cX2_addPart 23 = .ok (.aload_n 0, 1) := by decide +kernel
theorem dX2_addPart_24 : decode cX2_addPart 24 = .ok (.iload_n 2, 1) := by decide +kernel
theorem dX2_addPart_25 : decode cX2_addPart 25 = .ok (.invokevirtual 35, 3) := by decide +kernel
theorem dX2_addPart_28 : decode cX2_addPart 28 = .ok (.ifCond .ne 6, 3) := by decide +kernel
theorem dX2_addPart_31 : decode cX2_addPart 31 = .ok (.bipush (-3), 2) := by decide +kernel
theorem dX2_addPart_33 : decode cX2_addPart 33 = .ok (.ireturn, 1) := by decide +kernel
theorem dX2_addPart_34 : decode cX2_addPart 34 = .ok (.iload_n 2, 1) := by decide +kernel
theorem dX2_addPart_35 : decode cX2_addPart 35 = .ok (.iconst 1, 1) := by decide +kernel
theorem dX2_addPart_36 : decode cX2_addPart 36 = .ok (.isub, 1) := by decide +kernel
theorem dX2_addPart_37 : decode cX2_addPart 37 = .ok (.istore_n 3, 1) := by decide +kernel
theorem dX2_addPart_38 : decode cX2_addPart 38 = .ok (.iload_n 3, 1) := by decide +kernel
theorem dX2_addPart_39 : decode cX2_addPart 39 = .ok (.ifCond .lt 39, 3) := by decide +kernel
theorem dX2_addPart_42 : decode cX2_addPart 42 = .ok (.iload_n 1, 1) := by decide +kernel
theorem dX2_addPart_43 : decode cX2_addPart 43 = .ok (.bipush 7, 2) := by decide +kernel
theorem dX2_addPart_45 : decode cX2_addPart 45 = .ok (.iload_n 3, 1) := by decide +kernel
theorem dX2_addPart_46 : decode cX2_addPart 46 = .ok (.imul, 1) := by decide +kernel
theorem dX2_addPart_47 : decode cX2_addPart 47 = .ok (.ishr, 1) := by decide +kernel
theorem dX2_addPart_48 : decode cX2_addPart 48 = .ok (.bipush 127, 2) := by decide +kernel
theorem dX2_addPart_50 : decode cX2_addPart 50 = .ok (.iand, 1) := by decide +kernel
theorem dX2_addPart_51 : decode cX2_addPart 51 = .ok (.istore 4, 2) := by decide +kernel
theorem dX2_addPart_53 : decode cX2_addPart 53 = .ok (.aload_n 0, 1) := by decide +kernel
theorem dX2_addPart_54 : decode cX2_addPart 54 = .ok (.iload_n 3, 1) := by decide +kernel
theorem dX2_addPart_55 : decode cX2_addPart 55 = .ok (.ifCond .ne 8, 3) := by decide +kernel
theorem dX2_addPart_58 : decode cX2_addPart 58 = .ok (.iload 4, 2) := by decide +kernel
theorem dX2_addPart_60 : decode cX2_addPart 60 = .ok (.goto 9, 3) := by decide +kernel
theorem dX2_addPart_63 : decode cX2_addPart 63 = .ok (.iload 4, 2) := by decide +kernel
theorem dX2_addPart_65 : decode cX2_addPart 65 = .ok (.sipush 128, 3) := by decide +kernel
theorem dX2_addPart_68 : decode cX2_addPart 68 = .ok (.ior, 1) := by decide +kernel
theorem dX2_addPart_69 : decode cX2_addPart 69 = .ok (.invokevirtual 38, 3) := by decide +kernel
theorem dX2_addPart_72 : decode cX2_addPart 72 = .ok (.iinc 3 (-1), 3) := by decide +kernel
theorem dX2_addPart_75 : decode cX2_addPart 75 = .ok (.goto (-37), 3) := by decide +kernel
theorem dX2_addPart_78 : decode cX2_addPart 78 = .ok (.iconst 0, 1) := by decide +kernel
theorem dX2_addPart_79 : decode cX2_addPart 79 = .ok (.ireturn, 1) := by decide +kernel
set_option maxRecDepth 20000 in
theorem ggX2_close_X1_hold : GoodIn wsX2_close wsX1_hold := goodIn_r _ [8, 9, 10, 7, 11, 12, 13, 14, 15, 16, 17] (by decide +kernel) (by decide +kernel)
set_option maxRecDepth 20000 in
theorem gX2_close_X1_hold : GoodIn wsX2_close (va_wsS RX2 59 yX1_hold wsX1_hold) := goodIn_app (goodIn_of _ (by decide +kernel)) ggX2_close_X1_hold
set_option maxRecDepth 20000 in
theorem ggX2_close_X1_lengthSize : GoodIn wsX2_close wsX1_lengthSize := goodIn_r _ [20] (by decide +kernel) (by decide +kernel)
set_option maxRecDepth 20000 in
theorem gX2_close_X1_lengthSize : GoodIn wsX2_close (va_wsS RX2 63 yX1_lengthSize wsX1_lengthSize) := goodIn_app (goodIn_of _ (by decide +kernel)) ggX2_close_X1_lengthSize
set_option maxRecDepth 20000 in
theorem ggX2_close_X2_hasRoom : GoodIn wsX2_close wsX2_hasRoom := goodIn_r _ [25, 3, 34, 35, 36, 37] (by decide +kernel) (by decide +kernel)
set_option maxRecDepth 20000 in
theorem gX2_close_X2_hasRoom : GoodIn wsX2_close (wsV RX2 35 RX2 yX2_hasRoom wsX2_hasRoom) := goodIn_app (goodIn_of _ (by decide +kernel)) ggX2_close_X2_hasRoom
set_option maxRecDepth 20000 in
theorem ggX2_close_X2_makeGap : GoodIn wsX2_close wsX2_makeGap := goodIn_r _ [29, 3, 4, 34, 35, 36, 37] (by decide +kernel) (by decide +kernel)
set_option maxRecDepth 20000 in
theorem gX2_close_X2_makeGap : GoodIn wsX2_close (wsV RX2 66 RX2 yX2_makeGap wsX2_makeGap) := goodIn_app (goodIn_of _ (by decide +kernel)) ggX2_close_X2_makeGap
set_option maxRecDepth 20000 in
theorem ggX2_close_X2_writeLength : GoodIn wsX2_close wsX2_writeLength := goodIn_r _ [33, 4, 34, 35, 36, 37] (by decide +kernel) (by decide +kernel)
set_option maxRecDepth 20000 in
theorem gX2_close_X2_writeLength : GoodIn wsX2_close (wsV RX2 70 RX2 yX2_writeLength wsX2_writeLength) := goodIn_app (goodIn_of _ (by decide +kernel)) ggX2_close_X2_writeLength
theorem dX2_close_0 : decode cX2_close 0 = .ok (.aload_n 0, 1) := by decide +kernel
theorem dX2_close_1 : decode cX2_close 1 = .ok (.getfield 22, 3) := by decide +kernel
theorem dX2_close_4 : decode cX2_close 4 = .ok (.ifCond .ne 6, 3) := by decide +kernel
theorem dX2_close_7 : decode cX2_close 7 = .ok (.bipush (-2), 2) := by decide +kernel
theorem dX2_close_9 : decode cX2_close 9 = .ok (.ireturn, 1) := by decide +kernel
theorem dX2_close_10 : decode cX2_close 10 = .ok (.aload_n 0, 1) := by decide +kernel
theorem dX2_close_11 : decode cX2_close 11 = .ok (.getfield 19, 3) := by decide +kernel
theorem dX2_close_14 : decode cX2_close 14 = .ok (.aload_n 0, 1) := by decide +kernel
theorem dX2_close_15 : decode cX2_close 15 = .ok (.getfield 22, 3) := by decide +kernel
theorem dX2_close_18 : decode cX2_close 18 = .ok (.iconst 1, 1) := by decide +kernel
theorem dX2_close_19 : decode cX2_close 19 = .ok (.isub, 1) := by decide +kernel
theorem dX2_close_20 : decode cX2_close 20 = .ok (.iaload, 1) := by decide +kernel
theorem dX2_close_21 : decode cX2_close 21 = .ok (.istore_n 1, 1) := by decide +kernel
theorem dX2_close_22 : decode cX2_close 22 = .ok (.iload_n 1, 1) := by decide +kernel
theorem dX2_close_23 : decode cX2_close 23 = .ok (.iconst 1, 1) := by decide +kernel
theorem dX2_close_24 : decode cX2_close 24 = .ok (.iadd, 1) := by decide +kernel
theorem dX2_close_25 : decode cX2_close 25 = .ok (.istore_n 2, 1) := by decide +kernel
theorem dX2_close_26 : decode cX2_close 26 = .ok (.aload_n 0, 1) := by decide +kernel
theorem dX2_close_27 : decode cX2_close 27 = .ok (.getfield 15, 3) := by decide +kernel
theorem dX2_close_30 : decode cX2_close 30 = .ok (.iload_n 2, 1) := by decide +kernel
theorem dX2_close_31 : decode cX2_close 31 = .ok (.isub, 1) := by decide +kernel
theorem dX2_close_32 : decode cX2_close 32 = .ok (.istore_n 3, 1) := by decide +kernel
theorem dX2_close_33 : decode cX2_close 33 = .ok (.aload_n 0, 1) := by decide +kernel
theorem dX2_close_34 : decode cX2_close 34 = .ok (.getfield 9, 3) := by decide +kernel
theorem dX2_close_37 : decode cX2_close 37 = .ok (.iload_n 1, 1) := by decide +kernel
theorem dX2_close_38 : decode cX2_close 38 = .ok (.iaload, 1) := by decide +kernel
theorem dX2_close_39 : decode cX2_close 39 = .ok (.aload_n 0, 1) := by decide +kernel
theorem dX2_close_40 : decode cX2_close 40 = .ok (.getfield 9, 3) := by decide +kernel
theorem dX2_close_43 : decode cX2_close 43 = .ok (.iload_n 2, 1) := by decide +kernel
theorem dX2_close_44 : decode cX2_close 44 = .ok (.iload_n 3, 1) := by decide +kernel
theorem dX2_close_45 : decode cX2_close 45 = .ok (.invokestatic 59, 3) := by decide +kernel
theorem dX2_close_48 : decode cX2_close 48 = .ok (.ifCond .ne 21, 3) := by decide +kernel
theorem dX2_close_51 : decode cX2_close 51 = .ok (.aload_n 0, 1) := by decide +kernel
theorem dX2_close_52 : decode cX2_close 52 = .ok (.iload_n 1, 1) := by decide +kernel
theorem dX2_close_53 : decode cX2_close 53 = .ok (.putfield 15, 3) := by decide +kernel
theorem dX2_close_56 : decode cX2_close 56 = .ok (.aload_n 0, 1) := by decide +kernel
theorem dX2_close_57 : decode cX2_close 57 = .ok (.dup, 1) := by decide +kernel
theorem dX2_close_58 : decode cX2_close 58 = .ok (.getfield 22, 3) := by decide +kernel
theorem dX2_close_61 : decode cX2_close 61 = .ok (.iconst 1, 1) := by decide +kernel
theorem dX2_close_62 : decode cX2_close 62 = .ok (.isub, 1) := by decide +kernel
theorem dX2_close_63 : decode cX2_close 63 = .ok (.putfield 22, 3) := by decide +kernel
theorem dX2_close_66 : decode cX2_close 66 = .ok (.bipush (-4), 2) := by decide +kernel
theorem dX2_close_68 : decode cX2_close 68 = .ok (.ireturn, 1) := by decide +kernel
theorem dX2_close_69 : decode cX2_close 69 = .ok (.iload_n 3, 1) := by decide +kernel
theorem dX2_close_70 : decode cX2_close 70 = .ok (.invokestatic 63, 3) := by decide +kernel
theorem dX2_close_73 : decode cX2_close 73 = .ok (.istore 4, 2) := by decide +kernel
theorem dX2_close_75 : decode cX2_close 75 = .ok (.aload_n 0, 1) := by decide +kernel
theorem dX2_close_76 : decode cX2_close 76 = .ok (.iload 4, 2) := by decide +kernel
theorem dX2_close_78 : decode cX2_close 78 = .ok (.invokevirtual 35, 3) := by decide +kernel
theorem dX2_close_81 : decode cX2_close 81 = .ok (.ifCond .ne 6, 3) := by decide +kernel
theorem dX2_close_84 : decode cX2_close 84 = .ok (.bipush (-3), 2) := by decide +kernel
theorem dX2_close_86 : decode cX2_close 86 = .ok (.ireturn, 1) := by decide +kernel
theorem dX2_close_87 : decode cX2_close 87 = .ok (.aload_n 0, 1) := by decide +kernel
theorem dX2_close_88 : decode cX2_close 88 = .ok (.iload_n 2, 1) := by decide +kernel
theorem dX2_close_89 : decode cX2_close 89 = .ok (.iload 4, 2) := by decide +kernel
theorem dX2_close_91 : decode cX2_close 91 = .ok (.invokevirtual 66, 3) := by decide +kernel
theorem dX2_close_94 : decode cX2_close 94 = .ok (.aload_n 0, 1) := by decide +kernel
theorem dX2_close_95 : decode cX2_close 95 = .ok (.iload_n 2, 1) := by decide +kernel
theorem dX2_close_96 : decode cX2_close 96 = .ok (.iload_n 3, 1) := by decide +kernel
theorem dX2_close_97 : decode cX2_close 97 = .ok (.iload 4, 2) := by decide +kernel
theorem dX2_close_99 : decode cX2_close 99 = .ok (.invokevirtual 70, 3) := by decide +kernel
theorem dX2_close_102 : decode cX2_close 102 = .ok (.aload_n 0, 1) := by decide +kernel
theorem dX2_close_103 : decode cX2_close 103 = .ok (.dup, 1) := by decide +kernel
theorem dX2_close_104 : decode cX2_close 104 = .ok (.getfield 22, 3) := by decide +kernel
theorem dX2_close_107 : decode cX2_close 107 = .ok (.iconst 1, 1) := by decide +kernel
theorem dX2_close_108 : decode cX2_close 108 = .ok (.isub, 1) := by decide +kernel
theorem dX2_close_109 : decode cX2_close 109 = .ok (.putfield 22, 3) := by decide +kernel
theorem dX2_close_112 : decode cX2_close 112 = .ok (.iconst 0, 1) := by decide +kernel
theorem dX2_close_113 : decode cX2_close 113 = .ok (.ireturn, 1) := by decide +kernel
theorem dX2_byteAt_0 : decode cX2_byteAt 0 = .ok (.iload_n 1, 1) := by decide +kernel
theorem dX2_byteAt_1 : decode cX2_byteAt 1 = .ok (.ifCond .lt 20, 3) := by decide +kernel
theorem dX2_byteAt_4 : decode cX2_byteAt 4 = .ok (.iload_n 1, 1) := by decide +kernel
theorem dX2_byteAt_5 : decode cX2_byteAt 5 = .ok (.aload_n 0, 1) := by decide +kernel
theorem dX2_byteAt_6 : decode cX2_byteAt 6 = .ok (.getfield 15, 3) := by decide +kernel
theorem dX2_byteAt_9 : decode cX2_byteAt 9 = .ok (.if_icmp .ge 12, 3) := by decide +kernel
theorem dX2_byteAt_12 : decode cX2_byteAt 12 = .ok (.aload_n 0, 1) := by decide +kernel
theorem dX2_byteAt_13 : decode cX2_byteAt 13 = .ok (.getfield 9, 3) := by decide +kernel
theorem dX2_byteAt_16 : decode cX2_byteAt 16 = .ok (.iload_n 1, 1) := by decide +kernel
theorem dX2_byteAt_17 : decode cX2_byteAt 17 = .ok (.iaload, 1) := by decide +kernel
theorem dX2_byteAt_18 : decode cX2_byteAt 18 = .ok (.goto 4, 3) := by decide +kernel
theorem dX2_byteAt_21 : decode cX2_byteAt 21 = .ok (.iconst (-1), 1) := by decide +kernel
theorem dX2_byteAt_22 : decode cX2_byteAt 22 = .ok (.ireturn, 1) := by decide +kernel
set_option maxRecDepth 20000 in
theorem ggX2_canHoldValue_X2_openTag : GoodIn wsX2_canHoldValue wsX2_openTag := goodIn_r _ [7, 1, 8, 9, 10, 11, 12, 13] (by decide +kernel) (by decide +kernel)
set_option maxRecDepth 20000 in
theorem gX2_canHoldValue_X2_openTag : GoodIn wsX2_canHoldValue (wsV RX2 45 RX2 yX2_openTag wsX2_openTag) := goodIn_app (goodIn_of _ (by decide +kernel)) ggX2_canHoldValue_X2_openTag
theorem dX2_canHoldValue_0 : decode cX2_canHoldValue 0 = .ok (.aload_n 0, 1) := by decide +kernel
theorem dX2_canHoldValue_1 : decode cX2_canHoldValue 1 = .ok (.getfield 22, 3) := by decide +kernel
theorem dX2_canHoldValue_4 : decode cX2_canHoldValue 4 = .ok (.ifCond .ne 18, 3) := by decide +kernel
theorem dX2_canHoldValue_7 : decode cX2_canHoldValue 7 = .ok (.aload_n 0, 1) := by decide +kernel
theorem dX2_canHoldValue_8 : decode cX2_canHoldValue 8 = .ok (.getfield 15, 3) := by decide +kernel
theorem dX2_canHoldValue_11 : decode cX2_canHoldValue 11 = .ok (.ifCond .ne 7, 3) := by decide +kernel
theorem dX2_canHoldValue_14 : decode cX2_canHoldValue 14 = .ok (.iconst 1, 1) := by decide +kernel
theorem dX2_canHoldValue_15 : decode cX2_canHoldValue 15 = .ok (.goto 21, 3) := by decide +kernel
theorem dX2_canHoldValue_18 : decode cX2_canHoldValue 18 = .ok (.iconst 0, 1) := by decide +kernel
theorem dX2_canHoldValue_19 : decode cX2_canHoldValue 19 = .ok (.goto 17, 3) := by decide +kernel
theorem dX2_canHoldValue_22 : decode cX2_canHoldValue 22 = .ok (.aload_n 0, 1) := by decide +kernel
theorem dX2_canHoldValue_23 : decode cX2_canHoldValue 23 = .ok (.invokevirtual 45, 3) := by decide +kernel
theorem dX2_canHoldValue_26 : decode cX2_canHoldValue 26 = .ok (.bipush 48, 2) := by decide +kernel
theorem dX2_canHoldValue_28 : decode cX2_canHoldValue 28 = .ok (.if_icmp .ne 7, 3) := by decide +kernel
theorem dX2_canHoldValue_31 : decode cX2_canHoldValue 31 = .ok (.iconst 1, 1) := by decide +kernel
theorem dX2_canHoldValue_32 : decode cX2_canHoldValue 32 = .ok (.goto 4, 3) := by decide +kernel
theorem dX2_canHoldValue_35 : decode cX2_canHoldValue 35 = .ok (.iconst 0, 1) := by decide +kernel
theorem dX2_canHoldValue_36 : decode cX2_canHoldValue 36 = .ok (.ireturn, 1) := by decide +kernel
theorem dX2_openTag_0 : decode cX2_openTag 0 = .ok (.aload_n 0, 1) := by decide +kernel
theorem dX2_openTag_1 : decode cX2_openTag 1 = .ok (.getfield 22, 3) := by decide +kernel
theorem dX2_openTag_4 : decode cX2_openTag 4 = .ok (.ifCond .ne 7, 3) := by decide +kernel
theorem dX2_openTag_7 : decode cX2_openTag 7 = .ok (.iconst (-1), 1) := by decide +kernel
theorem dX2_openTag_8 : decode cX2_openTag 8 = .ok (.goto 19, 3) := by decide +kernel
theorem dX2_openTag_11 : decode cX2_openTag 11 = .ok (.aload_n 0, 1) := by decide +kernel
theorem dX2_openTag_12 : decode cX2_openTag 12 = .ok (.getfield 9, 3) := by decide +kernel
theorem dX2_openTag_15 : decode cX2_openTag 15 = .ok (.aload_n 0, 1) := by decide +kernel
theorem dX2_openTag_16 : decode cX2_openTag 16 = .ok (.getfield 19, 3) := by decide +kernel
theorem dX2_openTag_19 : decode cX2_openTag 19 = .ok (.aload_n 0, 1) := by decide +kernel
theorem dX2_openTag_20 : decode cX2_openTag 20 = .ok (.getfield 22, 3) := by decide +kernel
theorem dX2_openTag_23 : decode cX2_openTag 23 = .ok (.iconst 1, 1) := by decide +kernel
theorem dX2_openTag_24 : decode cX2_openTag 24 = .ok (.isub, 1) := by decide +kernel
theorem dX2_openTag_25 : decode cX2_openTag 25 = .ok (.iaload, 1) := by decide +kernel
theorem dX2_openTag_26 : decode cX2_openTag 26 = .ok (.iaload, 1) := by decide +kernel
theorem dX2_openTag_27 : decode cX2_openTag 27 = .ok (.ireturn, 1) := by decide +kernel
theorem dX2_openLength_0 : decode cX2_openLength 0 = .ok (.aload_n 0, 1) := by decide +kernel
theorem dX2_openLength_1 : decode cX2_openLength 1 = .ok (.getfield 22, 3) := by decide +kernel
theorem dX2_openLength_4 : decode cX2_openLength 4 = .ok (.ifCond .ne 7, 3) := by decide +kernel
theorem dX2_openLength_7 : decode cX2_openLength 7 = .ok (.iconst 0, 1) := by decide +kernel
theorem dX2_openLength_8 : decode cX2_openLength 8 = .ok (.goto 21, 3) := by decide +kernel
theorem dX2_openLength_11 : decode cX2_openLength 11 = .ok (.aload_n 0, 1) := by decide +kernel
theorem dX2_openLength_12 : decode cX2_openLength 12 = .ok (.getfield 15, 3) := by decide +kernel
theorem dX2_openLength_15 : decode cX2_openLength 15 = .ok (.aload_n 0, 1) := by decide +kernel
theorem dX2_openLength_16 : decode cX2_openLength 16 = .ok (.getfield 19, 3) := by decide +kernel
theorem dX2_openLength_19 : decode cX2_openLength 19 = .ok (.aload_n 0, 1) := by decide +kernel
theorem dX2_openLength_20 : decode cX2_openLength 20 = .ok (.getfield 22, 3) := by decide +kernel
theorem dX2_openLength_23 : decode cX2_openLength 23 = .ok (.iconst 1, 1) := by decide +kernel
theorem dX2_openLength_24 : decode cX2_openLength 24 = .ok (.isub, 1) := by decide +kernel
theorem dX2_openLength_25 : decode cX2_openLength 25 = .ok (.iaload, 1) := by decide +kernel
theorem dX2_openLength_26 : decode cX2_openLength 26 = .ok (.isub, 1) := by decide +kernel
theorem dX2_openLength_27 : decode cX2_openLength 27 = .ok (.iconst 1, 1) := by decide +kernel
theorem dX2_openLength_28 : decode cX2_openLength 28 = .ok (.isub, 1) := by decide +kernel
theorem dX2_openLength_29 : decode cX2_openLength 29 = .ok (.ireturn, 1) := by decide +kernel
theorem dX2_hasRoom_0 : decode cX2_hasRoom 0 = .ok (.aload_n 0, 1) := by decide +kernel
theorem dX2_hasRoom_1 : decode cX2_hasRoom 1 = .ok (.getfield 15, 3) := by decide +kernel
theorem dX2_hasRoom_4 : decode cX2_hasRoom 4 = .ok (.iload_n 1, 1) := by decide +kernel
theorem dX2_hasRoom_5 : decode cX2_hasRoom 5 = .ok (.iadd, 1) := by decide +kernel
theorem dX2_hasRoom_6 : decode cX2_hasRoom 6 = .ok (.sipush 300, 3) := by decide +kernel
theorem dX2_hasRoom_9 : decode cX2_hasRoom 9 = .ok (.if_icmp .gt 7, 3) := by decide +kernel
theorem dX2_hasRoom_12 : decode cX2_hasRoom 12 = .ok (.iconst 1, 1) := by decide +kernel
theorem dX2_hasRoom_13 : decode cX2_hasRoom 13 = .ok (.goto 4, 3) := by decide +kernel
theorem dX2_hasRoom_16 : decode cX2_hasRoom 16 = .ok (.iconst 0, 1) := by decide +kernel
theorem dX2_hasRoom_17 : decode cX2_hasRoom 17 = .ok (.ireturn, 1) := by decide +kernel
theorem dX2_append_0 : decode cX2_append 0 = .ok (.aload_n 0, 1) := by decide +kernel
theorem dX2_append_1 : decode cX2_append 1 = .ok (.getfield 15, 3) := by decide +kernel
theorem dX2_append_4 : decode cX2_append 4 = .ok (.sipush 300, 3) := by decide +kernel
theorem dX2_append_7 : decode cX2_append 7 = .ok (.if_icmp .ge 23, 3) := by decide +kernel
theorem dX2_append_10 : decode cX2_append 10 = .ok (.aload_n 0, 1) := by decide +kernel
theorem dX2_append_11 : decode cX2_append 11 = .ok (.getfield 9, 3) := by decide +kernel
theorem dX2_append_14 : decode cX2_append 14 = .ok (.aload_n 0, 1) := by decide +kernel
theorem dX2_append_15 : decode cX2_append 15 = .ok (.getfield 15, 3) := by decide +kernel
theorem dX2_append_18 : decode cX2_append 18 = .ok (.iload_n 1, 1) := by decide +kernel
theorem dX2_append_19 : decode cX2_append 19 = .ok (.iastore, 1) := by decide +kernel
theorem dX2_append_20 : decode cX2_append 20 = .ok (.aload_n 0, 1) := by decide +kernel
theorem dX2_append_21 : decode cX2_append 21 = .ok (.dup, 1) := by decide +kernel
theorem dX2_append_22 : decode cX2_append 22 = .ok (.getfield 15, 3) := by decide +kernel
theorem dX2_append_25 : decode cX2_append 25 = .ok (.iconst 1, 1) := by decide +kernel
theorem dX2_append_26 : decode cX2_append 26 = .ok (.iadd, 1) := by decide +kernel
theorem dX2_append_27 : decode cX2_append 27 = .ok (.putfield 15, 3) := by decide +kernel
theorem dX2_append_30 : decode cX2_append 30 = .ok (.return_, 1) := by decide +kernel
theorem dX2_integerSize_0 : decode cX2_integerSize 0 = .ok (.iconst 1, 1) := by decide +kernel
theorem dX2_integerSize_1 : decode cX2_integerSize 1 = .ok (.istore_n 1, 1) := by decide +kernel
theorem dX2_integerSize_2 : decode cX2_integerSize 2 = .ok (.iload_n 1, 1) := by decide +kernel
theorem dX2_integerSize_3 : decode cX2_integerSize 3 = .ok (.iconst 4, 1) := by decide +kernel
theorem dX2_integerSize_4 : decode cX2_integerSize 4 = .ok (.if_icmp .ge 24, 3) := by decide +kernel
theorem dX2_integerSize_7 : decode cX2_integerSize 7 = .ok (.iload_n 0, 1) := by decide +kernel
theorem dX2_integerSize_8 : decode cX2_integerSize 8 = .ok (.bipush 8, 2) := by decide +kernel
theorem dX2_integerSize_10 : decode cX2_integerSize 10 = .ok (.iload_n 1, 1) := by decide +kernel
theorem dX2_integerSize_11 : decode cX2_integerSize 11 = .ok (.imul, 1) := by decide +kernel
theorem dX2_integerSize_12 : decode cX2_integerSize 12 = .ok (.iconst 1, 1) := by decide +kernel
theorem dX2_integerSize_13 : decode cX2_integerSize 13 = .ok (.isub, 1) := by decide +kernel
theorem dX2_integerSize_14 : decode cX2_integerSize 14 = .ok (.ishr, 1) := by decide +kernel
theorem dX2_integerSize_15 : decode cX2_integerSize 15 = .ok (.iload_n 0, 1) := by decide +kernel
theorem dX2_integerSize_16 : decode cX2_integerSize 16 = .ok (.bipush 31, 2) := by decide +kernel
theorem dX2_integerSize_18 : decode cX2_integerSize 18 = .ok (.ishr, 1) := by decide +kernel
theorem dX2_integerSize_19 : decode cX2_integerSize 19 = .ok (.if_icmp .eq 9, 3) := by decide +kernel
theorem dX2_integerSize_22 : decode cX2_integerSize 22 = .ok (.iinc 1 1, 3) := by decide +kernel
theorem dX2_integerSize_25 : decode cX2_integerSize 25 = .ok (.goto (-23), 3) := by decide +kernel
theorem dX2_integerSize_28 : decode cX2_integerSize 28 = .ok (.iload_n 1, 1) := by decide +kernel
theorem dX2_integerSize_29 : decode cX2_integerSize 29 = .ok (.ireturn, 1) := by decide +kernel
theorem dX2_partSize_0 : decode cX2_partSize 0 = .ok (.iconst 1, 1) := by decide +kernel
theorem dX2_partSize_1 : decode cX2_partSize 1 = .ok (.istore_n 1, 1) := by decide +kernel
theorem dX2_partSize_2 : decode cX2_partSize 2 = .ok (.iload_n 1, 1) := by decide +kernel
theorem dX2_partSize_3 : decode cX2_partSize 3 = .ok (.iconst 5, 1) := by decide +kernel
theorem dX2_partSize_4 : decode cX2_partSize 4 = .ok (.if_icmp .ge 18, 3) := by decide +kernel
theorem dX2_partSize_7 : decode cX2_partSize 7 = .ok (.iload_n 0, 1) := by decide +kernel
theorem dX2_partSize_8 : decode cX2_partSize 8 = .ok (.bipush 7, 2) := by decide +kernel
theorem dX2_partSize_10 : decode cX2_partSize 10 = .ok (.iload_n 1, 1) := by decide +kernel
theorem dX2_partSize_11 : decode cX2_partSize 11 = .ok (.imul, 1) := by decide +kernel
theorem dX2_partSize_12 : decode cX2_partSize 12 = .ok (.ishr, 1) := by decide +kernel
theorem dX2_partSize_13 : decode cX2_partSize 13 = .ok (.ifCond .eq 9, 3) := by decide +kernel
theorem dX2_partSize_16 : decode cX2_partSize 16 = .ok (.iinc 1 1, 3) := by decide +kernel
theorem dX2_partSize_19 : decode cX2_partSize 19 = .ok (.goto (-17), 3) := by decide +kernel
theorem dX2_partSize_22 : decode cX2_partSize 22 = .ok (.iload_n 1, 1) := by decide +kernel
theorem dX2_partSize_23 : decode cX2_partSize 23 = .ok (.ireturn, 1) := by decide +kernel
theorem dX2_makeGap_0 : decode cX2_makeGap 0 = .ok (.aload_n 0, 1) := by decide +kernel
theorem dX2_makeGap_1 : decode cX2_makeGap 1 = .ok (.getfield 15, 3) := by decide +kernel
theorem dX2_makeGap_4 : decode cX2_makeGap 4 = .ok (.iconst 1, 1) := by decide +kernel
theorem dX2_makeGap_5 : decode cX2_makeGap 5 = .ok (.isub, 1) := by decide +kernel
theorem dX2_makeGap_6 : decode cX2_makeGap 6 = .ok (.istore_n 3, 1) := by decide +kernel
theorem dX2_makeGap_7 : decode cX2_makeGap 7 = .ok (.iload_n 3, 1) := by decide +kernel
theorem dX2_makeGap_8 : decode cX2_makeGap 8 = .ok (.iload_n 1, 1) := by decide +kernel
theorem dX2_makeGap_9 : decode cX2_makeGap 9 = .ok (.if_icmp .lt 23, 3) := by decide +kernel
theorem dX2_makeGap_12 : decode cX2_makeGap 12 = .ok (.aload_n 0, 1) := by decide +kernel
theorem dX2_makeGap_13 : decode cX2_makeGap 13 = .ok (.getfield 9, 3) := by decide +kernel
theorem dX2_makeGap_16 : decode cX2_makeGap 16 = .ok (.iload_n 3, 1) := by decide +kernel
theorem dX2_makeGap_17 : decode cX2_makeGap 17 = .ok (.iload_n 2, 1) := by decide +kernel
theorem dX2_makeGap_18 : decode cX2_makeGap 18 = .ok (.iadd, 1) := by decide +kernel
theorem dX2_makeGap_19 : decode cX2_makeGap 19 = .ok (.aload_n 0, 1) := by decide +kernel
theorem dX2_makeGap_20 : decode cX2_makeGap 20 = .ok (.getfield 9, 3) := by decide +kernel
theorem dX2_makeGap_23 : decode cX2_makeGap 23 = .ok (.iload_n 3, 1) := by decide +kernel
theorem dX2_makeGap_24 : decode cX2_makeGap 24 = .ok (.iaload, 1) := by decide +kernel
theorem dX2_makeGap_25 : decode cX2_makeGap 25 = .ok (.iastore, 1) := by decide +kernel
theorem dX2_makeGap_26 : decode cX2_makeGap 26 = .ok (.iinc 3 (-1), 3) := by decide +kernel
theorem dX2_makeGap_29 : decode cX2_makeGap 29 = .ok (.goto (-22), 3) := by decide +kernel
theorem dX2_makeGap_32 : decode cX2_makeGap 32 = .ok (.aload_n 0, 1) := by decide +kernel
theorem dX2_makeGap_33 : decode cX2_makeGap 33 = .ok (.dup, 1) := by decide +kernel
theorem dX2_makeGap_34 : decode cX2_makeGap 34 = .ok (.getfield 15, 3) := by decide +kernel
theorem dX2_makeGap_37 : decode cX2_makeGap 37 = .ok (.iload_n 2, 1) := by decide +kernel
theorem dX2_makeGap_38 : decode cX2_makeGap 38 = .ok (.iadd, 1) := by decide +kernel
theorem dX2_makeGap_39 : decode cX2_makeGap 39 = .ok (.putfield 15, 3) := by decide +kernel
theorem dX2_makeGap_42 : decode cX2_makeGap 42 = .ok (.return_, 1) := by decide +kernel
theorem dX2_writeLength_0 : decode cX2_writeLength 0 = .ok (.iload_n 3, 1) := by decide +kernel
theorem dX2_writeLength_1 : decode cX2_writeLength 1 = .ok (.iconst 1, 1) := by decide +kernel
theorem dX2_writeLength_2 : decode cX2_writeLength 2 = .ok (.if_icmp .ne 11, 3) := by decide +kernel
theorem dX2_writeLength_5 : decode cX2_writeLength 5 = .ok (.aload_n 0, 1) := by decide +kernel
theorem dX2_writeLength_6 : decode cX2_writeLength 6 = .ok (.getfield 9, 3) := by decide +kernel
theorem dX2_writeLength_9 : decode cX2_writeLength 9 = .ok (.iload_n 1, 1) := by decide +kernel
theorem dX2_writeLength_10 : decode cX2_writeLength 10 = .ok (.iload_n 2, 1) := by decide +kernel
theorem dX2_writeLength_11 : decode cX2_writeLength 11 = .ok (.iastore, 1) := by decide +kernel
theorem dX2_writeLength_12 : decode cX2_writeLength 12 = .ok (.return_, 1) := by decide +kernel
theorem dX2_writeLength_13 : decode cX2_writeLength 13 = .ok (.iload_n 3, 1) := by decide +kernel
theorem dX2_writeLength_14 : decode cX2_writeLength 14 = .ok (.iconst 1, 1) := by decide +kernel
theorem dX2_writeLength_15 : decode cX2_writeLength 15 = .ok (.isub, 1) := by decide +kernel
theorem dX2_writeLength_16 : decode cX2_writeLength 16 = .ok (.istore 4, 2) := by decide +kernel
theorem dX2_writeLength_18 : decode cX2_writeLength 18 = .ok (.aload_n 0, 1) := by decide +kernel
theorem dX2_writeLength_19 : decode cX2_writeLength 19 = .ok (.getfield 9, 3) := by decide +kernel
theorem dX2_writeLength_22 : decode cX2_writeLength 22 = .ok (.iload_n 1, 1) := by decide +kernel
theorem dX2_writeLength_23 : decode cX2_writeLength 23 = .ok (.sipush 128, 3) := by decide +kernel
theorem dX2_writeLength_26 : decode cX2_writeLength 26 = .ok (.iload 4, 2) := by decide +kernel
theorem dX2_writeLength_28 : decode cX2_writeLength 28 = .ok (.iadd, 1) := by decide +kernel
theorem dX2_writeLength_29 : decode cX2_writeLength 29 = .ok (.iastore, 1) := by decide +kernel
theorem dX2_writeLength_30 : decode cX2_writeLength 30 = .ok (.iconst 1, 1) := by decide +kernel
theorem dX2_writeLength_31 : decode cX2_writeLength 31 = .ok (.istore 5, 2) := by decide +kernel
theorem dX2_writeLength_33 : decode cX2_writeLength 33 = .ok (.iload 5, 2) := by decide +kernel
theorem dX2_writeLength_35 : decode cX2_writeLength 35 = .ok (.iload 4, 2) := by decide +kernel
theorem dX2_writeLength_37 : decode cX2_writeLength 37 = .ok (.if_icmp .gt 32, 3) := by decide +kernel
theorem dX2_writeLength_40 : decode cX2_writeLength 40 = .ok (.aload_n 0, 1) := by decide +kernel
theorem dX2_writeLength_41 : decode cX2_writeLength 41 = .ok (.getfield 9, 3) := by decide +kernel
theorem dX2_writeLength_44 : decode cX2_writeLength 44 = .ok (.iload_n 1, 1) := by decide +kernel
theorem dX2_writeLength_45 : decode cX2_writeLength 45 = .ok (.iload 5, 2) := by decide +kernel
theorem dX2_writeLength_47 : decode cX2_writeLength 47 = .ok (.iadd, 1) := by decide +kernel
theorem dX2_writeLength_48 : decode cX2_writeLength 48 = .ok (.iload_n 2, 1) := by decide +kernel
theorem dX2_writeLength_49 : decode cX2_writeLength 49 = .ok (.bipush 8, 2) := by decide +kernel
theorem dX2_writeLength_51 : decode cX2_writeLength 51 = .ok (.iload 4, 2) := by decide +kernel
theorem dX2_writeLength_53 : decode cX2_writeLength 53 = .ok (.iload 5, 2) := by decide +kernel
theorem dX2_writeLength_55 : decode cX2_writeLength 55 = .ok (.isub, 1) := by decide +kernel
theorem dX2_writeLength_56 : decode cX2_writeLength 56 = .ok (.imul, 1) := by decide +kernel
theorem dX2_writeLength_57 : decode cX2_writeLength 57 = .ok (.ishr, 1) := by decide +kernel
theorem dX2_writeLength_58 : decode cX2_writeLength 58 = .ok (.sipush 255, 3) := by decide +kernel
theorem dX2_writeLength_61 : decode cX2_writeLength 61 = .ok (.iand, 1) := by decide +kernel
theorem dX2_writeLength_62 : decode cX2_writeLength 62 = .ok (.iastore, 1) := by decide +kernel
theorem dX2_writeLength_63 : decode cX2_writeLength 63 = .ok (.iinc 5 1, 3) := by decide +kernel
theorem dX2_writeLength_66 : decode cX2_writeLength 66 = .ok (.goto (-33), 3) := by decide +kernel
theorem dX2_writeLength_69 : decode cX2_writeLength 69 = .ok (.return_, 1) := by decide +kernel
end
section
set_option maxRecDepth 20000 in
theorem ggX3_init_X0_init : GoodIn wsX3_init wsX0_init := goodIn_r _ [13, 14, 2, 3, 15, 16, 17, 18, 19, 20, 21, 22, 23, 24, 25, 33, 34, 35, 36, 37, 38, 39, 40, 41, 42] (by decide +kernel) (by decide +kernel)
set_option maxRecDepth 20000 in
theorem gX3_init_X0_init_n9 : GoodIn wsX3_init (wsX0_init) := ggX3_init_X0_init
set_option maxRecDepth 20000 in
theorem ggX3_init_X2_init : GoodIn wsX3_init wsX2_init := goodIn_r _ [27, 28, 2, 3, 15, 29, 30, 31, 32, 45, 46, 47, 48] (by decide +kernel) (by decide +kernel)
set_option maxRecDepth 20000 in
theorem gX3_init_X2_init_n18 : GoodIn wsX3_init (wsX2_init) := ggX3_init_X2_init
theorem dX3_init_0 : decode cX3_init 0 = .ok (.aload_n 0, 1) := by decide +kernel
theorem dX3_init_1 : decode cX3_init 1 = .ok (.invokespecial 1, 3) := by decide +kernel
theorem dX3_init_4 : decode cX3_init 4 = .ok (.aload_n 0, 1) := by decide +kernel
theorem dX3_init_5 : decode cX3_init 5 = .ok (.new 7, 3) := by decide +kernel
theorem dX3_init_8 : decode cX3_init 8 = .ok (.dup, 1) := by decide +kernel
theorem dX3_init_9 : decode cX3_init 9 = .ok (.invokespecial 9, 3) := by decide +kernel
theorem dX3_init_12 : decode cX3_init 12 = .ok (.putfield 10, 3) := by decide +kernel
theorem dX3_init_15 : decode cX3_init 15 = .ok (.aload_n 0, 1) := by decide +kernel
theorem dX3_init_16 : decode cX3_init 16 = .ok (.new 16, 3) := by decide +kernel
theorem dX3_init_19 : decode cX3_init 19 = .ok (.dup, 1) := by decide +kernel
theorem dX3_init_20 : decode cX3_init 20 = .ok (.invokespecial 18, 3) := by decide +kernel
theorem dX3_init_23 : decode cX3_init 23 = .ok (.putfield 19, 3) := by decide +kernel
theorem dX3_init_26 : decode cX3_init 26 = .ok (.return_, 1) := by decide +kernel
set_option maxRecDepth 20000 in
theorem ggX3_feed_X0_addByte : GoodIn wsX3_feed wsX0_addByte := goodIn_r _ [6, 7, 8, 9, 10, 11, 12, 13, 16, 17, 18, 19, 20, 21, 22, 23, 24, 25] (by decide +kernel) (by decide +kernel)
set_option maxRecDepth 20000 in
theorem gX3_feed_X0_addByte : GoodIn wsX3_feed (wsV RX3 23 RX0 yX0_addByte wsX0_addByte) := goodIn_app (goodIn_of _ (by decide +kernel)) ggX3_feed_X0_addByte
theorem dX3_feed_0 : decode cX3_feed 0 = .ok (.aload_n 0, 1) := by decide +kernel
theorem dX3_feed_1 : decode cX3_feed 1 = .ok (.getfield 10, 3) := by decide +kernel
theorem dX3_feed_4 : decode cX3_feed 4 = .ok (.iload_n 1, 1) := by decide +kernel
theorem dX3_feed_5 : decode cX3_feed 5 = .ok (.invokevirtual 23, 3) := by decide +kernel
theorem dX3_feed_8 : decode cX3_feed 8 = .ok (.ireturn, 1) := by decide +kernel
set_option maxRecDepth 20000 in
theorem ggX3_parse_X0_readRow : GoodIn wsX3_parse wsX0_readRow := goodIn_r _ [6, 7, 8, 9, 10, 11, 12, 5, 13, 14, 15, 16, 17, 18, 19, 20, 21, 22, 23, 24, 25, 26, 27, 28, 29, 30, 31, 32, 33, 34, 35, 36, 37, 38, 39, 40, 41, 42, 43, 44, 45, 46, 47, 48, 49, 50, 51, 52, 53, 54, 55, 56, 57, 58, 59, 60, 61, 62, 63, 64, 65, 66, 67, 68, 69, 70, 71, 72, 73, 74, 75, 76, 77, 78, 79, 80, 81, 82, 83, 86, 87, 88, 89, 90, 91, 92, 93, 94, 95] (by decide +kernel) (by decide +kernel)
set_option maxRecDepth 20000 in
theorem gX3_parse_X0_readRow : GoodIn wsX3_parse (wsV RX3 27 RX0 yX0_readRow wsX0_readRow) := goodIn_app (goodIn_of _ (by decide +kernel)) ggX3_parse_X0_readRow
theorem dX3_parse_0 : decode cX3_parse 0 = .ok (.aload_n 0, 1) := by decide +kernel
theorem dX3_parse_1 : decode cX3_parse 1 = .ok (.getfield 10, 3) := by decide +kernel
theorem dX3_parse_4 : decode cX3_parse 4 = .ok (.invokevirtual 27, 3) := by decide +kernel
theorem dX3_parse_7 : decode cX3_parse 7 = .ok (.ireturn, 1) := by decide +kernel
theorem dX3_offence_0 : decode cX3_offence 0 = .ok (.aload_n 0, 1) := by decide +kernel
theorem dX3_offence_1 : decode cX3_offence 1 = .ok (.getfield 10, 3) := by decide +kernel
theorem dX3_offence_4 : decode cX3_offence 4 = .ok (.getfield 31, 3) := by decide +kernel
theorem dX3_offence_7 : decode cX3_offence 7 = .ok (.ireturn, 1) := by decide +kernel
theorem dX3_nodeCount_0 : decode cX3_nodeCount 0 = .ok (.aload_n 0, 1) := by decide +kernel
theorem dX3_nodeCount_1 : decode cX3_nodeCount 1 = .ok (.getfield 10, 3) := by decide +kernel
theorem dX3_nodeCount_4 : decode cX3_nodeCount 4 = .ok (.getfield 35, 3) := by decide +kernel
theorem dX3_nodeCount_7 : decode cX3_nodeCount 7 = .ok (.ireturn, 1) := by decide +kernel
set_option maxRecDepth 20000 in
theorem ggX3_tagOf_X0_ofNode : GoodIn wsX3_tagOf wsX0_ofNode := goodIn_r _ [6, 7, 8, 9, 5, 10, 11, 14, 15, 16, 17, 18, 19, 20, 21, 22, 23] (by decide +kernel) (by decide +kernel)
set_option maxRecDepth 20000 in
theorem gX3_tagOf_X0_ofNode : GoodIn wsX3_tagOf (wsV RX3 42 RX0 yX0_ofNode wsX0_ofNode) := goodIn_app (goodIn_of _ (by decide +kernel)) ggX3_tagOf_X0_ofNode
theorem dX3_tagOf_0 : decode cX3_tagOf 0 = .ok (.aload_n 0, 1) := by decide +kernel
theorem dX3_tagOf_1 : decode cX3_tagOf 1 = .ok (.getfield 10, 3) := by decide +kernel
theorem dX3_tagOf_4 : decode cX3_tagOf 4 = .ok (.aload_n 0, 1) := by decide +kernel
theorem dX3_tagOf_5 : decode cX3_tagOf 5 = .ok (.getfield 10, 3) := by decide +kernel
theorem dX3_tagOf_8 : decode cX3_tagOf 8 = .ok (.getfield 38, 3) := by decide +kernel
theorem dX3_tagOf_11 : decode cX3_tagOf 11 = .ok (.iload_n 1, 1) := by decide +kernel
theorem dX3_tagOf_12 : decode cX3_tagOf 12 = .ok (.invokevirtual 42, 3) := by decide +kernel
theorem dX3_tagOf_15 : decode cX3_tagOf 15 = .ok (.ireturn, 1) := by decide +kernel
set_option maxRecDepth 20000 in
theorem ggX3_contentAt_X0_ofNode : GoodIn wsX3_contentAt wsX0_ofNode := goodIn_r _ [6, 7, 8, 9, 5, 10, 11, 14, 15, 16, 17, 18, 19, 20, 21, 22, 23] (by decide +kernel) (by decide +kernel)
set_option maxRecDepth 20000 in
theorem gX3_contentAt_X0_ofNode : GoodIn wsX3_contentAt (wsV RX3 42 RX0 yX0_ofNode wsX0_ofNode) := goodIn_app (goodIn_of _ (by decide +kernel)) ggX3_contentAt_X0_ofNode
theorem dX3_contentAt_0 : decode cX3_contentAt 0 = .ok (.aload_n 0, 1) := by decide +kernel
theorem dX3_contentAt_1 : decode cX3_contentAt 1 = .ok (.getfield 10, 3) := by decide +kernel
theorem dX3_contentAt_4 : decode cX3_contentAt 4 = .ok (.aload_n 0, 1) := by decide +kernel
theorem dX3_contentAt_5 : decode cX3_contentAt 5 = .ok (.getfield 10, 3) := by decide +kernel
theorem dX3_contentAt_8 : decode cX3_contentAt 8 = .ok (.getfield 46, 3) := by decide +kernel
theorem dX3_contentAt_11 : decode cX3_contentAt 11 = .ok (.iload_n 1, 1) := by decide +kernel
theorem dX3_contentAt_12 : decode cX3_contentAt 12 = .ok (.invokevirtual 42, 3) := by decide +kernel
theorem dX3_contentAt_15 : decode cX3_contentAt 15 = .ok (.ireturn, 1) := by decide +kernel
set_option maxRecDepth 20000 in
theorem ggX3_contentLen_X0_ofNode : GoodIn wsX3_contentLen wsX0_ofNode := goodIn_r _ [6, 7, 8, 9, 5, 10, 11, 14, 15, 16, 17, 18, 19, 20, 21, 22, 23] (by decide +kernel) (by decide +kernel)
set_option maxRecDepth 20000 in
theorem gX3_contentLen_X0_ofNode : GoodIn wsX3_contentLen (wsV RX3 42 RX0 yX0_ofNode wsX0_ofNode) := goodIn_app (goodIn_of _ (by decide +kernel)) ggX3_contentLen_X0_ofNode
theorem dX3_contentLen_0 : decode cX3_contentLen 0 = .ok (.aload_n 0, 1) := by decide +kernel
theorem dX3_contentLen_1 : decode cX3_contentLen 1 = .ok (.getfield 10, 3) := by decide +kernel
theorem dX3_contentLen_4 : decode cX3_contentLen 4 = .ok (.aload_n 0, 1) := by decide +kernel
theorem dX3_contentLen_5 : decode cX3_contentLen 5 = .ok (.getfield 10, 3) := by decide +kernel
theorem dX3_contentLen_8 : decode cX3_contentLen 8 = .ok (.getfield 49, 3) := by decide +kernel
theorem dX3_contentLen_11 : decode cX3_contentLen 11 = .ok (.iload_n 1, 1) := by decide +kernel
theorem dX3_contentLen_12 : decode cX3_contentLen 12 = .ok (.invokevirtual 42, 3) := by decide +kernel
theorem dX3_contentLen_15 : decode cX3_contentLen 15 = .ok (.ireturn, 1) := by decide +kernel
set_option maxRecDepth 20000 in
theorem ggX3_parent_X0_ofNode : GoodIn wsX3_parent wsX0_ofNode := goodIn_r _ [6, 7, 8, 9, 5, 10, 11, 14, 15, 16, 17, 18, 19, 20, 21, 22, 23] (by decide +kernel) (by decide +kernel)
set_option maxRecDepth 20000 in
theorem gX3_parent_X0_ofNode : GoodIn wsX3_parent (wsV RX3 42 RX0 yX0_ofNode wsX0_ofNode) := goodIn_app (goodIn_of _ (by decide +kernel)) ggX3_parent_X0_ofNode
theorem dX3_parent_0 : decode cX3_parent 0 = .ok (.aload_n 0, 1) := by decide +kernel
theorem dX3_parent_1 : decode cX3_parent 1 = .ok (.getfield 10, 3) := by decide +kernel
theorem dX3_parent_4 : decode cX3_parent 4 = .ok (.aload_n 0, 1) := by decide +kernel
theorem dX3_parent_5 : decode cX3_parent 5 = .ok (.getfield 10, 3) := by decide +kernel
theorem dX3_parent_8 : decode cX3_parent 8 = .ok (.getfield 52, 3) := by decide +kernel
theorem dX3_parent_11 : decode cX3_parent 11 = .ok (.iload_n 1, 1) := by decide +kernel
theorem dX3_parent_12 : decode cX3_parent 12 = .ok (.invokevirtual 42, 3) := by decide +kernel
theorem dX3_parent_15 : decode cX3_parent 15 = .ok (.ireturn, 1) := by decide +kernel
set_option maxRecDepth 20000 in
theorem ggX3_oidArc_X0_arcOf : GoodIn wsX3_oidArc wsX0_arcOf := goodIn_r _ [6, 7, 8, 9, 10, 11, 5, 12, 13, 14, 15, 16, 17, 18, 19, 20, 21, 22, 23, 24, 25, 26, 27, 28, 29, 30, 31, 32, 33, 34, 35, 38, 39, 40, 41, 42, 43, 44, 45, 46, 47] (by decide +kernel) (by decide +kernel)
set_option maxRecDepth 20000 in
theorem gX3_oidArc_X0_arcOf : GoodIn wsX3_oidArc (wsV RX3 55 RX0 yX0_arcOf wsX0_arcOf) := goodIn_app (goodIn_of _ (by decide +kernel)) ggX3_oidArc_X0_arcOf
theorem dX3_oidArc_0 : decode cX3_oidArc 0 = .ok (.aload_n 0, 1) := by decide +kernel
theorem dX3_oidArc_1 : decode cX3_oidArc 1 = .ok (.getfield 10, 3) := by decide +kernel
theorem dX3_oidArc_4 : decode cX3_oidArc 4 = .ok (.iload_n 1, 1) := by decide +kernel
theorem dX3_oidArc_5 : decode cX3_oidArc 5 = .ok (.iload_n 2, 1) := by decide +kernel
theorem dX3_oidArc_6 : decode cX3_oidArc 6 = .ok (.invokevirtual 55, 3) := by decide +kernel
theorem dX3_oidArc_9 : decode cX3_oidArc 9 = .ok (.ireturn, 1) := by decide +kernel
set_option maxRecDepth 20000 in
theorem ggX3_intFits_X0_isSmallInteger : GoodIn wsX3_intFits wsX0_isSmallInteger := goodIn_r _ [6, 7, 8, 9, 10, 11, 5, 12, 13, 16, 17, 18, 19, 20, 21, 22, 23, 24, 25] (by decide +kernel) (by decide +kernel)
set_option maxRecDepth 20000 in
theorem gX3_intFits_X0_isSmallInteger : GoodIn wsX3_intFits (wsV RX3 59 RX0 yX0_isSmallInteger wsX0_isSmallInteger) := goodIn_app (goodIn_of _ (by decide +kernel)) ggX3_intFits_X0_isSmallInteger
theorem dX3_intFits_0 : decode cX3_intFits 0 = .ok (.aload_n 0, 1) := by decide +kernel
theorem dX3_intFits_1 : decode cX3_intFits 1 = .ok (.getfield 10, 3) := by decide +kernel
theorem dX3_intFits_4 : decode cX3_intFits 4 = .ok (.iload_n 1, 1) := by decide +kernel
theorem dX3_intFits_5 : decode cX3_intFits 5 = .ok (.invokevirtual 59, 3) := by decide +kernel
theorem dX3_intFits_8 : decode cX3_intFits 8 = .ok (.ireturn, 1) := by decide +kernel
set_option maxRecDepth 20000 in
theorem ggX3_intValue_X0_smallInteger : GoodIn wsX3_intValue wsX0_smallInteger := goodIn_r _ [6, 7, 8, 9, 10, 11, 5, 12, 13, 14, 15, 16, 17, 18, 19, 20, 21, 22, 23, 26, 27, 28, 29, 30, 31, 32, 33, 34, 35] (by decide +kernel) (by decide +kernel)
set_option maxRecDepth 20000 in
theorem gX3_intValue_X0_smallInteger : GoodIn wsX3_intValue (wsV RX3 63 RX0 yX0_smallInteger wsX0_smallInteger) := goodIn_app (goodIn_of _ (by decide +kernel)) ggX3_intValue_X0_smallInteger
theorem dX3_intValue_0 : decode cX3_intValue 0 = .ok (.aload_n 0, 1) := by decide +kernel
theorem dX3_intValue_1 : decode cX3_intValue 1 = .ok (.getfield 10, 3) := by decide +kernel
theorem dX3_intValue_4 : decode cX3_intValue 4 = .ok (.iload_n 1, 1) := by decide +kernel
theorem dX3_intValue_5 : decode cX3_intValue 5 = .ok (.invokevirtual 63, 3) := by decide +kernel
theorem dX3_intValue_8 : decode cX3_intValue 8 = .ok (.ireturn, 1) := by decide +kernel
set_option maxRecDepth 20000 in
theorem ggX3_wipe_X0_clear : GoodIn wsX3_wipe wsX0_clear := goodIn_r _ [6, 7, 8, 11, 12, 13, 14, 15, 16, 17, 18, 19, 20] (by decide +kernel) (by decide +kernel)
set_option maxRecDepth 20000 in
theorem gX3_wipe_X0_clear : GoodIn wsX3_wipe (wsV RX3 66 RX0 yX0_clear wsX0_clear) := goodIn_app (goodIn_of _ (by decide +kernel)) ggX3_wipe_X0_clear
theorem dX3_wipe_0 : decode cX3_wipe 0 = .ok (.aload_n 0, 1) := by decide +kernel
theorem dX3_wipe_1 : decode cX3_wipe 1 = .ok (.getfield 10, 3) := by decide +kernel
theorem dX3_wipe_4 : decode cX3_wipe 4 = .ok (.invokevirtual 66, 3) := by decide +kernel
theorem dX3_wipe_7 : decode cX3_wipe 7 = .ok (.return_, 1) := by decide +kernel
set_option maxRecDepth 20000 in
theorem ggX3_begin_X2_open : GoodIn wsX3_begin wsX2_open := goodIn_r _ [6, 7, 8, 9, 10, 11, 12, 13, 14, 15, 16, 5, 17, 18, 19, 20, 21, 22, 23, 24, 25, 26, 27, 28, 29, 30, 33, 34, 35, 36] (by decide +kernel) (by decide +kernel)
set_option maxRecDepth 20000 in
theorem gX3_begin_X2_open : GoodIn wsX3_begin (wsV RX3 69 RX2 yX2_open wsX2_open) := goodIn_app (goodIn_of _ (by decide +kernel)) ggX3_begin_X2_open
theorem dX3_begin_0 : decode cX3_begin 0 = .ok (.aload_n 0, 1) := by decide +kernel
theorem dX3_begin_1 : decode cX3_begin 1 = .ok (.getfield 19, 3) := by decide +kernel
theorem dX3_begin_4 : decode cX3_begin 4 = .ok (.iload_n 1, 1) := by decide +kernel
theorem dX3_begin_5 : decode cX3_begin 5 = .ok (.invokevirtual 69, 3) := by decide +kernel
theorem dX3_begin_8 : decode cX3_begin 8 = .ok (.ireturn, 1) := by decide +kernel
set_option maxRecDepth 20000 in
theorem ggX3_putByte_X2_addByte : GoodIn wsX3_putByte wsX2_addByte := goodIn_r _ [6, 7, 8, 9, 10, 11, 12, 13, 14, 5, 15, 16, 17, 18, 19, 20, 21, 22, 23, 24, 25, 26, 29, 30, 31, 32] (by decide +kernel) (by decide +kernel)
set_option maxRecDepth 20000 in
theorem gX3_putByte_X2_addByte : GoodIn wsX3_putByte (wsV RX3 72 RX2 yX2_addByte wsX2_addByte) := goodIn_app (goodIn_of _ (by decide +kernel)) ggX3_putByte_X2_addByte
theorem dX3_putByte_0 : decode cX3_putByte 0 = .ok (.aload_n 0, 1) := by decide +kernel
theorem dX3_putByte_1 : decode cX3_putByte 1 = .ok (.getfield 19, 3) := by decide +kernel
theorem dX3_putByte_4 : decode cX3_putByte 4 = .ok (.iload_n 1, 1) := by decide +kernel
theorem dX3_putByte_5 : decode cX3_putByte 5 = .ok (.invokevirtual 72, 3) := by decide +kernel
theorem dX3_putByte_8 : decode cX3_putByte 8 = .ok (.ireturn, 1) := by decide +kernel
set_option maxRecDepth 20000 in
theorem ggX3_putInt_X2_addInteger : GoodIn wsX3_putInt wsX2_addInteger := goodIn_r _ [6, 7, 8, 9, 5, 10, 11, 12, 13, 14, 15, 16, 17, 18, 19, 20, 21, 22, 23, 24, 25, 26, 27, 28, 29, 32, 33, 34, 35] (by decide +kernel) (by decide +kernel)
set_option maxRecDepth 20000 in
theorem gX3_putInt_X2_addInteger : GoodIn wsX3_putInt (wsV RX3 73 RX2 yX2_addInteger wsX2_addInteger) := goodIn_app (goodIn_of _ (by decide +kernel)) ggX3_putInt_X2_addInteger
theorem dX3_putInt_0 : decode cX3_putInt 0 = .ok (.aload_n 0, 1) := by decide +kernel
theorem dX3_putInt_1 : decode cX3_putInt 1 = .ok (.getfield 19, 3) := by decide +kernel
theorem dX3_putInt_4 : decode cX3_putInt 4 = .ok (.iload_n 1, 1) := by decide +kernel
theorem dX3_putInt_5 : decode cX3_putInt 5 = .ok (.invokevirtual 73, 3) := by decide +kernel
theorem dX3_putInt_8 : decode cX3_putInt 8 = .ok (.ireturn, 1) := by decide +kernel
set_option maxRecDepth 20000 in
theorem ggX3_putPart_X2_addPart : GoodIn wsX3_putPart wsX2_addPart := goodIn_r _ [6, 7, 8, 9, 5, 10, 11, 12, 13, 14, 15, 16, 17, 18, 19, 20, 21, 22, 23, 24, 25, 28, 29, 30, 31] (by decide +kernel) (by decide +kernel)
set_option maxRecDepth 20000 in
theorem gX3_putPart_X2_addPart : GoodIn wsX3_putPart (wsV RX3 76 RX2 yX2_addPart wsX2_addPart) := goodIn_app (goodIn_of _ (by decide +kernel)) ggX3_putPart_X2_addPart
theorem dX3_putPart_0 : decode cX3_putPart 0 = .ok (.aload_n 0, 1) := by decide +kernel
theorem dX3_putPart_1 : decode cX3_putPart 1 = .ok (.getfield 19, 3) := by decide +kernel
theorem dX3_putPart_4 : decode cX3_putPart 4 = .ok (.iload_n 1, 1) := by decide +kernel
theorem dX3_putPart_5 : decode cX3_putPart 5 = .ok (.invokevirtual 76, 3) := by decide +kernel
theorem dX3_putPart_8 : decode cX3_putPart 8 = .ok (.ireturn, 1) := by decide +kernel
set_option maxRecDepth 20000 in
theorem ggX3_end_X2_close : GoodIn wsX3_end wsX2_close := goodIn_r _ [6, 7, 8, 9, 10, 11, 12, 13, 14, 15, 16, 17, 18, 19, 20, 21, 22, 23, 24, 25, 26, 27, 28, 29, 5, 30, 31, 32, 33, 34, 35, 36, 37, 38, 41, 42, 43, 44] (by decide +kernel) (by decide +kernel)
set_option maxRecDepth 20000 in
theorem gX3_end_X2_close : GoodIn wsX3_end (wsV RX3 79 RX2 yX2_close wsX2_close) := goodIn_app (goodIn_of _ (by decide +kernel)) ggX3_end_X2_close
theorem dX3_end_0 : decode cX3_end 0 = .ok (.aload_n 0, 1) := by decide +kernel
theorem dX3_end_1 : decode cX3_end 1 = .ok (.getfield 19, 3) := by decide +kernel
theorem dX3_end_4 : decode cX3_end 4 = .ok (.invokevirtual 79, 3) := by decide +kernel
theorem dX3_end_7 : decode cX3_end 7 = .ok (.ireturn, 1) := by decide +kernel
set_option maxRecDepth 20000 in
theorem ggX3_out_X2_byteAt : GoodIn wsX3_out wsX2_byteAt := goodIn_r _ [6, 7, 8, 11, 12, 13, 14] (by decide +kernel) (by decide +kernel)
set_option maxRecDepth 20000 in
theorem gX3_out_X2_byteAt : GoodIn wsX3_out (wsV RX3 82 RX2 yX2_byteAt wsX2_byteAt) := goodIn_app (goodIn_of _ (by decide +kernel)) ggX3_out_X2_byteAt
theorem dX3_out_0 : decode cX3_out 0 = .ok (.aload_n 0, 1) := by decide +kernel
theorem dX3_out_1 : decode cX3_out 1 = .ok (.getfield 19, 3) := by decide +kernel
theorem dX3_out_4 : decode cX3_out 4 = .ok (.iload_n 1, 1) := by decide +kernel
theorem dX3_out_5 : decode cX3_out 5 = .ok (.invokevirtual 82, 3) := by decide +kernel
theorem dX3_out_8 : decode cX3_out 8 = .ok (.ireturn, 1) := by decide +kernel
theorem dX3_outSize_0 : decode cX3_outSize 0 = .ok (.aload_n 0, 1) := by decide +kernel
theorem dX3_outSize_1 : decode cX3_outSize 1 = .ok (.getfield 19, 3) := by decide +kernel
theorem dX3_outSize_4 : decode cX3_outSize 4 = .ok (.getfield 85, 3) := by decide +kernel
theorem dX3_outSize_7 : decode cX3_outSize 7 = .ok (.ireturn, 1) := by decide +kernel
theorem dX3_depth_0 : decode cX3_depth 0 = .ok (.aload_n 0, 1) := by decide +kernel
theorem dX3_depth_1 : decode cX3_depth 1 = .ok (.getfield 19, 3) := by decide +kernel
theorem dX3_depth_4 : decode cX3_depth 4 = .ok (.getfield 88, 3) := by decide +kernel
theorem dX3_depth_7 : decode cX3_depth 7 = .ok (.ireturn, 1) := by decide +kernel
set_option maxRecDepth 20000 in
theorem ggX3_restart_X2_clear : GoodIn wsX3_restart wsX2_clear := goodIn_r _ [6, 7, 8, 11, 12, 13, 14] (by decide +kernel) (by decide +kernel)
set_option maxRecDepth 20000 in
theorem gX3_restart_X2_clear : GoodIn wsX3_restart (wsV RX3 91 RX2 yX2_clear wsX2_clear) := goodIn_app (goodIn_of _ (by decide +kernel)) ggX3_restart_X2_clear
theorem dX3_restart_0 : decode cX3_restart 0 = .ok (.aload_n 0, 1) := by decide +kernel
theorem dX3_restart_1 : decode cX3_restart 1 = .ok (.getfield 19, 3) := by decide +kernel
theorem dX3_restart_4 : decode cX3_restart 4 = .ok (.invokevirtual 91, 3) := by decide +kernel
theorem dX3_restart_7 : decode cX3_restart 7 = .ok (.return_, 1) := by decide +kernel
end
section
theorem dX4_init_0 : decode cX4_init 0 = .ok (.aload_n 0, 1) := by decide +kernel
theorem dX4_init_1 : decode cX4_init 1 = .ok (.invokespecial 1, 3) := by decide +kernel
theorem dX4_init_4 : decode cX4_init 4 = .ok (.aload_n 0, 1) := by decide +kernel
theorem dX4_init_5 : decode cX4_init 5 = .ok (.sipush 300, 3) := by decide +kernel
theorem dX4_init_8 : decode cX4_init 8 = .ok (.newarray .int, 2) := by decide +kernel
theorem dX4_init_10 : decode cX4_init 10 = .ok (.putfield 7, 3) := by decide +kernel
theorem dX4_init_13 : decode cX4_init 13 = .ok (.aload_n 0, 1) := by decide +kernel
theorem dX4_init_14 : decode cX4_init 14 = .ok (.bipush 64, 2) := by decide +kernel
theorem dX4_init_16 : decode cX4_init 16 = .ok (.newarray .int, 2) := by decide +kernel
theorem dX4_init_18 : decode cX4_init 18 = .ok (.putfield 13, 3) := by decide +kernel
theorem dX4_init_21 : decode cX4_init 21 = .ok (.aload_n 0, 1) := by decide +kernel
theorem dX4_init_22 : decode cX4_init 22 = .ok (.bipush 64, 2) := by decide +kernel
theorem dX4_init_24 : decode cX4_init 24 = .ok (.newarray .int, 2) := by decide +kernel
theorem dX4_init_26 : decode cX4_init 26 = .ok (.putfield 16, 3) := by decide +kernel
theorem dX4_init_29 : decode cX4_init 29 = .ok (.aload_n 0, 1) := by decide +kernel
theorem dX4_init_30 : decode cX4_init 30 = .ok (.bipush 64, 2) := by decide +kernel
theorem dX4_init_32 : decode cX4_init 32 = .ok (.newarray .int, 2) := by decide +kernel
theorem dX4_init_34 : decode cX4_init 34 = .ok (.putfield 19, 3) := by decide +kernel
theorem dX4_init_37 : decode cX4_init 37 = .ok (.aload_n 0, 1) := by decide +kernel
theorem dX4_init_38 : decode cX4_init 38 = .ok (.bipush 64, 2) := by decide +kernel
theorem dX4_init_40 : decode cX4_init 40 = .ok (.newarray .int, 2) := by decide +kernel
theorem dX4_init_42 : decode cX4_init 42 = .ok (.putfield 22, 3) := by decide +kernel
theorem dX4_init_45 : decode cX4_init 45 = .ok (.aload_n 0, 1) := by decide +kernel
theorem dX4_init_46 : decode cX4_init 46 = .ok (.iconst (-1), 1) := by decide +kernel
theorem dX4_init_47 : decode cX4_init 47 = .ok (.putfield 25, 3) := by decide +kernel
theorem dX4_init_50 : decode cX4_init 50 = .ok (.aload_n 0, 1) := by decide +kernel
theorem dX4_init_51 : decode cX4_init 51 = .ok (.bipush 17, 2) := by decide +kernel
theorem dX4_init_53 : decode cX4_init 53 = .ok (.newarray .int, 2) := by decide +kernel
theorem dX4_init_55 : decode cX4_init 55 = .ok (.putfield 29, 3) := by decide +kernel
theorem dX4_init_58 : decode cX4_init 58 = .ok (.aload_n 0, 1) := by decide +kernel
theorem dX4_init_59 : decode cX4_init 59 = .ok (.sipush 300, 3) := by decide +kernel
theorem dX4_init_62 : decode cX4_init 62 = .ok (.newarray .int, 2) := by decide +kernel
theorem dX4_init_64 : decode cX4_init 64 = .ok (.putfield 32, 3) := by decide +kernel
theorem dX4_init_67 : decode cX4_init 67 = .ok (.aload_n 0, 1) := by decide +kernel
theorem dX4_init_68 : decode cX4_init 68 = .ok (.sipush 300, 3) := by decide +kernel
theorem dX4_init_71 : decode cX4_init 71 = .ok (.newarray .int, 2) := by decide +kernel
theorem dX4_init_73 : decode cX4_init 73 = .ok (.putfield 35, 3) := by decide +kernel
theorem dX4_init_76 : decode cX4_init 76 = .ok (.aload_n 0, 1) := by decide +kernel
theorem dX4_init_77 : decode cX4_init 77 = .ok (.bipush 16, 2) := by decide +kernel
theorem dX4_init_79 : decode cX4_init 79 = .ok (.newarray .int, 2) := by decide +kernel
theorem dX4_init_81 : decode cX4_init 81 = .ok (.putfield 38, 3) := by decide +kernel
theorem dX4_init_84 : decode cX4_init 84 = .ok (.return_, 1) := by decide +kernel
theorem dX4_isByte_0 : decode cX4_isByte 0 = .ok (.iload_n 0, 1) := by decide +kernel
theorem dX4_isByte_1 : decode cX4_isByte 1 = .ok (.ifCond .lt 14, 3) := by decide +kernel
theorem dX4_isByte_4 : decode cX4_isByte 4 = .ok (.iload_n 0, 1) := by decide +kernel
theorem dX4_isByte_5 : decode cX4_isByte 5 = .ok (.sipush 256, 3) := by decide +kernel
theorem dX4_isByte_8 : decode cX4_isByte 8 = .ok (.if_icmp .ge 7, 3) := by decide +kernel
theorem dX4_isByte_11 : decode cX4_isByte 11 = .ok (.iconst 1, 1) := by decide +kernel
theorem dX4_isByte_12 : decode cX4_isByte 12 = .ok (.goto 4, 3) := by decide +kernel
theorem dX4_isByte_15 : decode cX4_isByte 15 = .ok (.iconst 0, 1) := by decide +kernel
theorem dX4_isByte_16 : decode cX4_isByte 16 = .ok (.ireturn, 1) := by decide +kernel
theorem dX4_isTag_0 : decode cX4_isTag 0 = .ok (.iload_n 0, 1) := by decide +kernel
theorem dX4_isTag_1 : decode cX4_isTag 1 = .ok (.iconst 1, 1) := by decide +kernel
theorem dX4_isTag_2 : decode cX4_isTag 2 = .ok (.if_icmp .lt 9, 3) := by decide +kernel
theorem dX4_isTag_5 : decode cX4_isTag 5 = .ok (.iload_n 0, 1) := by decide +kernel
theorem dX4_isTag_6 : decode cX4_isTag 6 = .ok (.bipush 6, 2) := by decide +kernel
theorem dX4_isTag_8 : decode cX4_isTag 8 = .ok (.if_icmp .le 9, 3) := by decide +kernel
theorem dX4_isTag_11 : decode cX4_isTag 11 = .ok (.iload_n 0, 1) := by decide +kernel
theorem dX4_isTag_12 : decode cX4_isTag 12 = .ok (.bipush 48, 2) := by decide +kernel
theorem dX4_isTag_14 : decode cX4_isTag 14 = .ok (.if_icmp .ne 7, 3) := by decide +kernel
theorem dX4_isTag_17 : decode cX4_isTag 17 = .ok (.iconst 1, 1) := by decide +kernel
theorem dX4_isTag_18 : decode cX4_isTag 18 = .ok (.goto 4, 3) := by decide +kernel
theorem dX4_isTag_21 : decode cX4_isTag 21 = .ok (.iconst 0, 1) := by decide +kernel
theorem dX4_isTag_22 : decode cX4_isTag 22 = .ok (.ireturn, 1) := by decide +kernel
set_option maxRecDepth 20000 in
theorem ggX4_feed_X4_isByte : GoodIn wsX4_feed wsX4_isByte := goodIn_r _ [8] (by decide +kernel) (by decide +kernel)
set_option maxRecDepth 20000 in
theorem gX4_feed_X4_isByte : GoodIn wsX4_feed (va_wsS RX4 44 yX4_isByte wsX4_isByte) := goodIn_app (goodIn_of _ (by decide +kernel)) ggX4_feed_X4_isByte
theorem dX4_feed_0 : decode cX4_feed 0 = .ok (.aload_n 0, 1) := by decide +kernel
theorem dX4_feed_1 : decode cX4_feed 1 = .ok (.iconst 0, 1) := by decide +kernel
theorem dX4_feed_2 : decode cX4_feed 2 = .ok (.putfield 41, 3) := by decide +kernel
theorem dX4_feed_5 : decode cX4_feed 5 = .ok (.iload_n 1, 1) := by decide +kernel
theorem dX4_feed_6 : decode cX4_feed 6 = .ok (.invokestatic 44, 3) := by decide +kernel
theorem dX4_feed_9 : decode cX4_feed 9 = .ok (.ifCond .ne 5, 3) := by decide +kernel
theorem dX4_feed_12 : decode cX4_feed 12 = .ok (.iconst (-1), 1) := by decide +kernel
theorem dX4_feed_13 : decode cX4_feed 13 = .ok (.ireturn, 1) := by decide +kernel
theorem dX4_feed_14 : decode cX4_feed 14 = .ok (.aload_n 0, 1) := by decide +kernel
theorem dX4_feed_15 : decode cX4_feed 15 = .ok (.getfield 48, 3) := by decide +kernel
theorem dX4_feed_18 : decode cX4_feed 18 = .ok (.sipush 300, 3) := by decide +kernel
theorem dX4_feed_21 : decode cX4_feed 21 = .ok (.if_icmp .ne 6, 3) := by decide +kernel
theorem dX4_feed_24 : decode cX4_feed 24 = .ok (.bipush (-3), 2) := by decide +kernel
theorem dX4_feed_26 : decode cX4_feed 26 = .ok (.ireturn, 1) := by decide +kernel
theorem dX4_feed_27 : decode cX4_feed 27 = .ok (.aload_n 0, 1) := by decide +kernel
theorem dX4_feed_28 : decode cX4_feed 28 = .ok (.getfield 7, 3) := by decide +kernel
theorem dX4_feed_31 : decode cX4_feed 31 = .ok (.aload_n 0, 1) := by decide +kernel
theorem dX4_feed_32 : decode cX4_feed 32 = .ok (.getfield 48, 3) := by decide +kernel
theorem dX4_feed_35 : decode cX4_feed 35 = .ok (.iload_n 1, 1) := by decide +kernel
theorem dX4_feed_36 : decode cX4_feed 36 = .ok (.iastore, 1) := by decide +kernel
theorem dX4_feed_37 : decode cX4_feed 37 = .ok (.aload_n 0, 1) := by decide +kernel
theorem dX4_feed_38 : decode cX4_feed 38 = .ok (.dup, 1) := by decide +kernel
theorem dX4_feed_39 : decode cX4_feed 39 = .ok (.getfield 48, 3) := by decide +kernel
theorem dX4_feed_42 : decode cX4_feed 42 = .ok (.iconst 1, 1) := by decide +kernel
theorem dX4_feed_43 : decode cX4_feed 43 = .ok (.iadd, 1) := by decide +kernel
theorem dX4_feed_44 : decode cX4_feed 44 = .ok (.putfield 48, 3) := by decide +kernel
theorem dX4_feed_47 : decode cX4_feed 47 = .ok (.aload_n 0, 1) := by decide +kernel
theorem dX4_feed_48 : decode cX4_feed 48 = .ok (.iconst 0, 1) := by decide +kernel
theorem dX4_feed_49 : decode cX4_feed 49 = .ok (.putfield 51, 3) := by decide +kernel
theorem dX4_feed_52 : decode cX4_feed 52 = .ok (.iconst 0, 1) := by decide +kernel
theorem dX4_feed_53 : decode cX4_feed 53 = .ok (.ireturn, 1) := by decide +kernel
theorem dX4_wipe_0 : decode cX4_wipe 0 = .ok (.aload_n 0, 1) := by decide +kernel
theorem dX4_wipe_1 : decode cX4_wipe 1 = .ok (.iconst 0, 1) := by decide +kernel
theorem dX4_wipe_2 : decode cX4_wipe 2 = .ok (.putfield 41, 3) := by decide +kernel
theorem dX4_wipe_5 : decode cX4_wipe 5 = .ok (.aload_n 0, 1) := by decide +kernel
theorem dX4_wipe_6 : decode cX4_wipe 6 = .ok (.iconst 0, 1) := by decide +kernel
theorem dX4_wipe_7 : decode cX4_wipe 7 = .ok (.putfield 48, 3) := by decide +kernel
theorem dX4_wipe_10 : decode cX4_wipe 10 = .ok (.aload_n 0, 1) := by decide +kernel
theorem dX4_wipe_11 : decode cX4_wipe 11 = .ok (.iconst 0, 1) := by decide +kernel
theorem dX4_wipe_12 : decode cX4_wipe 12 = .ok (.putfield 51, 3) := by decide +kernel
theorem dX4_wipe_15 : decode cX4_wipe 15 = .ok (.return_, 1) := by decide +kernel
theorem dX4_isRight_0 : decode cX4_isRight 0 = .ok (.iload_n 1, 1) := by decide +kernel
theorem dX4_isRight_1 : decode cX4_isRight 1 = .ok (.iconst 1, 1) := by decide +kernel
theorem dX4_isRight_2 : decode cX4_isRight 2 = .ok (.if_icmp .ne 35, 3) := by decide +kernel
theorem dX4_isRight_5 : decode cX4_isRight 5 = .ok (.iload_n 2, 1) := by decide +kernel
theorem dX4_isRight_6 : decode cX4_isRight 6 = .ok (.iconst 1, 1) := by decide +kernel
theorem dX4_isRight_7 : decode cX4_isRight 7 = .ok (.if_icmp .ne 28, 3) := by decide +kernel
theorem dX4_isRight_10 : decode cX4_isRight 10 = .ok (.aload_n 0, 1) := by decide +kernel
theorem dX4_isRight_11 : decode cX4_isRight 11 = .ok (.getfield 32, 3) := by decide +kernel
theorem dX4_isRight_14 : decode cX4_isRight 14 = .ok (.iconst 0, 1) := by decide +kernel
theorem dX4_isRight_15 : decode cX4_isRight 15 = .ok (.iaload, 1) := by decide +kernel
theorem dX4_isRight_16 : decode cX4_isRight 16 = .ok (.ifCond .eq 15, 3) := by decide +kernel
theorem dX4_isRight_19 : decode cX4_isRight 19 = .ok (.aload_n 0, 1) := by decide +kernel
theorem dX4_isRight_20 : decode cX4_isRight 20 = .ok (.getfield 32, 3) := by decide +kernel
theorem dX4_isRight_23 : decode cX4_isRight 23 = .ok (.iconst 0, 1) := by decide +kernel
theorem dX4_isRight_24 : decode cX4_isRight 24 = .ok (.iaload, 1) := by decide +kernel
theorem dX4_isRight_25 : decode cX4_isRight 25 = .ok (.sipush 255, 3) := by decide +kernel
theorem dX4_isRight_28 : decode cX4_isRight 28 = .ok (.if_icmp .ne 7, 3) := by decide +kernel
theorem dX4_isRight_31 : decode cX4_isRight 31 = .ok (.iconst 1, 1) := by decide +kernel
theorem dX4_isRight_32 : decode cX4_isRight 32 = .ok (.goto 4, 3) := by decide +kernel
theorem dX4_isRight_35 : decode cX4_isRight 35 = .ok (.iconst 0, 1) := by decide +kernel
theorem dX4_isRight_36 : decode cX4_isRight 36 = .ok (.ireturn, 1) := by decide +kernel
theorem dX4_isRight_37 : decode cX4_isRight 37 = .ok (.iload_n 1, 1) := by decide +kernel
theorem dX4_isRight_38 : decode cX4_isRight 38 = .ok (.iconst 2, 1) := by decide +kernel
theorem dX4_isRight_39 : decode cX4_isRight 39 = .ok (.if_icmp .ne 72, 3) := by decide +kernel
theorem dX4_isRight_42 : decode cX4_isRight 42 = .ok (.iload_n 2, 1) := by decide +kernel
theorem dX4_isRight_43 : decode cX4_isRight 43 = .ok (.iconst 1, 1) := by decide +kernel
theorem dX4_isRight_44 : decode cX4_isRight 44 = .ok (.if_icmp .le 51, 3) := by decide +kernel
theorem dX4_isRight_47 : decode cX4_isRight 47 = .ok (.aload_n 0, 1) := by decide +kernel
theorem dX4_isRight_48 : decode cX4_isRight 48 = .ok (.getfield 32, 3) := by decide +kernel
theorem dX4_isRight_51 : decode cX4_isRight 51 = .ok (.iconst 0, 1) := by decide +kernel
theorem dX4_isRight_52 : decode cX4_isRight 52 = .ok (.iaload, 1) := by decide +kernel
theorem dX4_isRight_53 : decode cX4_isRight 53 = .ok (.ifCond .ne 15, 3) := by decide +kernel
theorem dX4_isRight_56 : decode cX4_isRight 56 = .ok (.aload_n 0, 1) := by decide +kernel
theorem dX4_isRight_57 : decode cX4_isRight 57 = .ok (.getfield 32, 3) := by decide +kernel
theorem dX4_isRight_60 : decode cX4_isRight 60 = .ok (.iconst 1, 1) := by decide +kernel
theorem dX4_isRight_61 : decode cX4_isRight 61 = .ok (.iaload, 1) := by decide +kernel
theorem dX4_isRight_62 : decode cX4_isRight 62 = .ok (.sipush 128, 3) := by decide +kernel
theorem dX4_isRight_65 : decode cX4_isRight 65 = .ok (.if_icmp .lt 26, 3) := by decide +kernel
theorem dX4_isRight_68 : decode cX4_isRight 68 = .ok (.aload_n 0, 1) := by decide +kernel
theorem dX4_isRight_69 : decode cX4_isRight 69 = .ok (.getfield 32, 3) := by decide +kernel
theorem dX4_isRight_72 : decode cX4_isRight 72 = .ok (.iconst 0, 1) := by decide +kernel
theorem dX4_isRight_73 : decode cX4_isRight 73 = .ok (.iaload, 1) := by decide +kernel
theorem dX4_isRight_74 : decode cX4_isRight 74 = .ok (.sipush 255, 3) := by decide +kernel
theorem dX4_isRight_77 : decode cX4_isRight 77 = .ok (.if_icmp .ne 18, 3) := by decide +kernel
theorem dX4_isRight_80 : decode cX4_isRight 80 = .ok (.aload_n 0, 1) := by decide +kernel
theorem dX4_isRight_81 : decode cX4_isRight 81 = .ok (.getfield 32, 3) := by decide +kernel
theorem dX4_isRight_84 : decode cX4_isRight 84 = .ok (.iconst 1, 1) := by decide +kernel
theorem dX4_isRight_85 : decode cX4_isRight 85 = .ok (.iaload, 1) := by decide +kernel
theorem dX4_isRight_86 : decode cX4_isRight 86 = .ok (.bipush 127, 2) := by decide +kernel
theorem dX4_isRight_88 : decode cX4_isRight 88 = .ok (.if_icmp .le 7, 3) := by decide +kernel
theorem dX4_isRight_91 : decode cX4_isRight 91 = .ok (.iconst 1, 1) := by decide +kernel
theorem dX4_isRight_92 : decode cX4_isRight 92 = .ok (.goto 4, 3) := by decide +kernel
theorem dX4_isRight_95 : decode cX4_isRight 95 = .ok (.iconst 0, 1) := by decide +kernel
theorem dX4_isRight_96 : decode cX4_isRight 96 = .ok (.istore_n 3, 1) := by decide +kernel
theorem dX4_isRight_97 : decode cX4_isRight 97 = .ok (.iload_n 2, 1) := by decide +kernel
theorem dX4_isRight_98 : decode cX4_isRight 98 = .ok (.ifCond .le 11, 3) := by decide +kernel
theorem dX4_isRight_101 : decode cX4_isRight 101 = .ok (.iload_n 3, 1) := by decide +kernel
theorem dX4_isRight_102 : decode cX4_isRight 102 = .ok (.ifCond .ne 7, 3) := by decide +kernel
theorem dX4_isRight_105 : decode cX4_isRight 105 = .ok (.iconst 1, 1) := by decide +kernel
theorem dX4_isRight_106 : decode cX4_isRight 106 = .ok (.goto 4, 3) := by decide +kernel
theorem dX4_isRight_109 : decode cX4_isRight 109 = .ok (.iconst 0, 1) := by decide +kernel
theorem dX4_isRight_110 : decode cX4_isRight 110 = .ok (.ireturn, 1) := by decide +kernel
theorem dX4_isRight_111 : decode cX4_isRight 111 = .ok (.iload_n 1, 1) := by decide +kernel
theorem dX4_isRight_112 : decode cX4_isRight 112 = .ok (.iconst 3, 1) := by decide +kernel
theorem dX4_isRight_113 : decode cX4_isRight 113 = .ok (.if_icmp .ne 65, 3) := by decide +kernel
theorem dX4_isRight_116 : decode cX4_isRight 116 = .ok (.iload_n 2, 1) := by decide +kernel
theorem dX4_isRight_117 : decode cX4_isRight 117 = .ok (.ifCond .eq 28, 3) := by decide +kernel
theorem dX4_isRight_120 : decode cX4_isRight 120 = .ok (.aload_n 0, 1) := by decide +kernel
theorem dX4_isRight_121 : decode cX4_isRight 121 = .ok (.getfield 32, 3) := by decide +kernel
theorem dX4_isRight_124 : decode cX4_isRight 124 = .ok (.iconst 0, 1) := by decide +kernel
theorem dX4_isRight_125 : decode cX4_isRight 125 = .ok (.iaload, 1) := by decide +kernel
theorem dX4_isRight_126 : decode cX4_isRight 126 = .ok (.bipush 7, 2) := by decide +kernel
theorem dX4_isRight_128 : decode cX4_isRight 128 = .ok (.if_icmp .gt 17, 3) := by decide +kernel
theorem dX4_isRight_131 : decode cX4_isRight 131 = .ok (.iload_n 2, 1) := by decide +kernel
theorem dX4_isRight_132 : decode cX4_isRight 132 = .ok (.iconst 1, 1) := by decide +kernel
theorem dX4_isRight_133 : decode cX4_isRight 133 = .ok (.if_icmp .ne 14, 3) := by decide +kernel
theorem dX4_isRight_136 : decode cX4_isRight 136 = .ok (.aload_n 0, 1) := by decide +kernel
theorem dX4_isRight_137 : decode cX4_isRight 137 = .ok (.getfield 32, 3) := by decide +kernel
theorem dX4_isRight_140 : decode cX4_isRight 140 = .ok (.iconst 0, 1) := by decide +kernel
theorem dX4_isRight_141 : decode cX4_isRight 141 = .ok (.iaload, 1) := by decide +kernel
theorem dX4_isRight_142 : decode cX4_isRight 142 = .ok (.ifCond .eq 5, 3) := by decide +kernel
theorem dX4_isRight_145 : decode cX4_isRight 145 = .ok (.iconst 0, 1) := by decide +kernel
theorem dX4_isRight_146 : decode cX4_isRight 146 = .ok (.ireturn, 1) := by decide +kernel
theorem dX4_isRight_147 : decode cX4_isRight 147 = .ok (.iload_n 2, 1) := by decide +kernel
theorem dX4_isRight_148 : decode cX4_isRight 148 = .ok (.iconst 1, 1) := by decide +kernel
theorem dX4_isRight_149 : decode cX4_isRight 149 = .ok (.if_icmp .eq 23, 3) := by decide +kernel
theorem dX4_isRight_152 : decode cX4_isRight 152 = .ok (.aload_n 0, 1) := by decide +kernel
theorem dX4_isRight_153 : decode cX4_isRight 153 = .ok (.getfield 32, 3) := by decide +kernel
theorem dX4_isRight_156 : decode cX4_isRight 156 = .ok (.iload_n 2, 1) := by decide +kernel
theorem dX4_isRight_157 : decode cX4_isRight 157 = .ok (.iconst 1, 1) := by decide +kernel
theorem dX4_isRight_158 : decode cX4_isRight 158 = .ok (.isub, 1) := by decide +kernel
theorem dX4_isRight_159 : decode cX4_isRight 159 = .ok (.iaload, 1) := by decide +kernel
theorem dX4_isRight_160 : decode cX4_isRight 160 = .ok (.iconst 1, 1) := by decide +kernel
theorem dX4_isRight_161 : decode cX4_isRight 161 = .ok (.aload_n 0, 1) := by decide +kernel
theorem dX4_isRight_162 : decode cX4_isRight 162 = .ok (.getfield 32, 3) := by decide +kernel
theorem dX4_isRight_165 : decode cX4_isRight 165 = .ok (.iconst 0, 1) := by decide +kernel
theorem dX4_isRight_166 : decode cX4_isRight 166 = .ok (.iaload, 1) := by decide +kernel
theorem dX4_isRight_167 : decode cX4_isRight 167 = .ok (.ishl, 1) := by decide +kernel
theorem dX4_isRight_168 : decode cX4_isRight 168 = .ok (.irem, 1) := by decide +kernel
theorem dX4_isRight_169 : decode cX4_isRight 169 = .ok (.ifCond .ne 7, 3) := by decide +kernel
theorem dX4_isRight_172 : decode cX4_isRight 172 = .ok (.iconst 1, 1) := by decide +kernel
theorem dX4_isRight_173 : decode cX4_isRight 173 = .ok (.goto 4, 3) := by decide +kernel
theorem dX4_isRight_176 : decode cX4_isRight 176 = .ok (.iconst 0, 1) := by decide +kernel
theorem dX4_isRight_177 : decode cX4_isRight 177 = .ok (.ireturn, 1) := by decide +kernel
theorem dX4_isRight_178 : decode cX4_isRight 178 = .ok (.iload_n 1, 1) := by decide +kernel
theorem dX4_isRight_179 : decode cX4_isRight 179 = .ok (.iconst 5, 1) := by decide +kernel
theorem dX4_isRight_180 : decode cX4_isRight 180 = .ok (.if_icmp .ne 13, 3) := by decide +kernel
theorem dX4_isRight_183 : decode cX4_isRight 183 = .ok (.iload_n 2, 1) := by decide +kernel
theorem dX4_isRight_184 : decode cX4_isRight 184 = .ok (.ifCond .ne 7, 3) := by decide +kernel
theorem dX4_isRight_187 : decode cX4_isRight 187 = .ok (.iconst 1, 1) := by decide +kernel
theorem dX4_isRight_188 : decode cX4_isRight 188 = .ok (.goto 4, 3) := by decide +kernel
theorem dX4_isRight_191 : decode cX4_isRight 191 = .ok (.iconst 0, 1) := by decide +kernel
theorem dX4_isRight_192 : decode cX4_isRight 192 = .ok (.ireturn, 1) := by decide +kernel
theorem dX4_isRight_193 : decode cX4_isRight 193 = .ok (.iload_n 1, 1) := by decide +kernel
theorem dX4_isRight_194 : decode cX4_isRight 194 = .ok (.bipush 6, 2) := by decide +kernel
theorem dX4_isRight_196 : decode cX4_isRight 196 = .ok (.if_icmp .eq 5, 3) := by decide +kernel
theorem dX4_isRight_199 : decode cX4_isRight 199 = .ok (.iconst 1, 1) := by decide +kernel
theorem dX4_isRight_200 : decode cX4_isRight 200 = .ok (.ireturn, 1) := by decide +kernel
theorem dX4_isRight_201 : decode cX4_isRight 201 = .ok (.iload_n 2, 1) := by decide +kernel
theorem dX4_isRight_202 : decode cX4_isRight 202 = .ok (.ifCond .le 7, 3) := by decide +kernel
theorem dX4_isRight_205 : decode cX4_isRight 205 = .ok (.iconst 1, 1) := by decide +kernel
theorem dX4_isRight_206 : decode cX4_isRight 206 = .ok (.goto 4, 3) := by decide +kernel
theorem dX4_isRight_209 : decode cX4_isRight 209 = .ok (.iconst 0, 1) := by decide +kernel
theorem dX4_isRight_210 : decode cX4_isRight 210 = .ok (.istore_n 3, 1) := by decide +kernel
theorem dX4_isRight_211 : decode cX4_isRight 211 = .ok (.iconst 0, 1) := by decide +kernel
theorem dX4_isRight_212 : decode cX4_isRight 212 = .ok (.istore 4, 2) := by decide +kernel
theorem dX4_isRight_214 : decode cX4_isRight 214 = .ok (.iload 4, 2) := by decide +kernel
theorem dX4_isRight_216 : decode cX4_isRight 216 = .ok (.iload_n 2, 1) := by decide +kernel
theorem dX4_isRight_217 : decode cX4_isRight 217 = .ok (.if_icmp .ge 85, 3) := by decide +kernel
theorem dX4_isRight_220 : decode cX4_isRight 220 = .ok (.iload 4, 2) := by decide +kernel
theorem dX4_isRight_222 : decode cX4_isRight 222 = .ok (.ifCond .eq 18, 3) := by decide +kernel
theorem dX4_isRight_225 : decode cX4_isRight 225 = .ok (.aload_n 0, 1) := by decide +kernel
theorem dX4_isRight_226 : decode cX4_isRight 226 = .ok (.getfield 32, 3) := by decide +kernel
theorem dX4_isRight_229 : decode cX4_isRight 229 = .ok (.iload 4, 2) := by decide +kernel
theorem dX4_isRight_231 : decode cX4_isRight 231 = .ok (.iconst 1, 1) := by decide +kernel
theorem dX4_isRight_232 : decode cX4_isRight 232 = .ok (.isub, 1) := by decide +kernel
theorem dX4_isRight_233 : decode cX4_isRight 233 = .ok (.iaload, 1) := by decide +kernel
theorem dX4_isRight_234 : decode cX4_isRight 234 = .ok (.sipush 128, 3) := by decide +kernel
theorem dX4_isRight_237 : decode cX4_isRight 237 = .ok (.if_icmp .ge 7, 3) := by decide +kernel
theorem dX4_isRight_240 : decode cX4_isRight 240 = .ok (.iconst 1, 1) := by decide +kernel
theorem dX4_isRight_241 : decode cX4_isRight 241 = .ok (.goto 4, 3) := by decide +kernel
theorem dX4_isRight_244 : decode cX4_isRight 244 = .ok (.iconst 0, 1) := by decide +kernel
theorem dX4_isRight_245 : decode cX4_isRight 245 = .ok (.istore 5, 2) := by decide +kernel
theorem dX4_isRight_247 : decode cX4_isRight 247 = .ok (.iload_n 3, 1) := by decide +kernel
theorem dX4_isRight_248 : decode cX4_isRight 248 = .ok (.ifCond .eq 46, 3) := by decide +kernel
theorem dX4_isRight_251 : decode cX4_isRight 251 = .ok (.iload 5, 2) := by decide +kernel
theorem dX4_isRight_253 : decode cX4_isRight 253 = .ok (.ifCond .eq 16, 3) := by decide +kernel
theorem dX4_isRight_256 : decode cX4_isRight 256 = .ok (.aload_n 0, 1) := by decide +kernel
theorem dX4_isRight_257 : decode cX4_isRight 257 = .ok (.getfield 32, 3) := by decide +kernel
theorem dX4_isRight_260 : decode cX4_isRight 260 = .ok (.iload 4, 2) := by decide +kernel
theorem dX4_isRight_262 : decode cX4_isRight 262 = .ok (.iaload, 1) := by decide +kernel
theorem dX4_isRight_263 : decode cX4_isRight 263 = .ok (.sipush 128, 3) := by decide +kernel
theorem dX4_isRight_266 : decode cX4_isRight 266 = .ok (.if_icmp .eq 28, 3) := by decide +kernel
theorem dX4_isRight_269 : decode cX4_isRight 269 = .ok (.iload 4, 2) := by decide +kernel
theorem dX4_isRight_271 : decode cX4_isRight 271 = .ok (.iload_n 2, 1) := by decide +kernel
theorem dX4_isRight_272 : decode cX4_isRight 272 = .ok (.iconst 1, 1) := by decide +kernel
theorem dX4_isRight_273 : decode cX4_isRight 273 = .ok (.isub, 1) := by decide +kernel
theorem dX4_isRight_274 : decode cX4_isRight 274 = .ok (.if_icmp .lt 16, 3) := by decide +kernel
theorem dX4_isRight_277 : decode cX4_isRight 277 = .ok (.aload_n 0, 1) := by decide +kernel
theorem dX4_isRight_278 : decode cX4_isRight 278 = .ok (.getfield 32, 3) := by decide +kernel
theorem dX4_isRight_281 : decode cX4_isRight 281 = .ok (.iload 4, 2) := by decide +kernel
theorem dX4_isRight_283 : decode cX4_isRight 283 = .ok (.iaload, 1) := by decide +kernel
theorem dX4_isRight_284 : decode cX4_isRight 284 = .ok (.sipush 128, 3) := by decide +kernel
theorem dX4_isRight_287 : decode cX4_isRight 287 = .ok (.if_icmp .ge 7, 3) := by decide +kernel
theorem dX4_isRight_290 : decode cX4_isRight 290 = .ok (.iconst 1, 1) := by decide +kernel
theorem dX4_isRight_291 : decode cX4_isRight 291 = .ok (.goto 4, 3) := by decide +kernel
theorem dX4_isRight_294 : decode cX4_isRight 294 = .ok (.iconst 0, 1) := by decide +kernel
theorem dX4_isRight_295 : decode cX4_isRight 295 = .ok (.istore_n 3, 1) := by decide +kernel
theorem dX4_isRight_296 : decode cX4_isRight 296 = .ok (.iinc 4 1, 3) := by decide +kernel
theorem dX4_isRight_299 : decode cX4_isRight 299 = .ok (.goto (-85), 3) := by decide +kernel
theorem dX4_isRight_302 : decode cX4_isRight 302 = .ok (.iload_n 3, 1) := by decide +kernel
theorem dX4_isRight_303 : decode cX4_isRight 303 = .ok (.ireturn, 1) := by decide +kernel
theorem dX4_fail_0 : decode cX4_fail 0 = .ok (.aload_n 0, 1) := by decide +kernel
theorem dX4_fail_1 : decode cX4_fail 1 = .ok (.iload_n 1, 1) := by decide +kernel
theorem dX4_fail_2 : decode cX4_fail 2 = .ok (.putfield 55, 3) := by decide +kernel
theorem dX4_fail_5 : decode cX4_fail 5 = .ok (.aload_n 0, 1) := by decide +kernel
theorem dX4_fail_6 : decode cX4_fail 6 = .ok (.iload_n 2, 1) := by decide +kernel
theorem dX4_fail_7 : decode cX4_fail 7 = .ok (.putfield 58, 3) := by decide +kernel
theorem dX4_fail_10 : decode cX4_fail 10 = .ok (.return_, 1) := by decide +kernel
set_option maxRecDepth 20000 in
theorem ggX4_isMissing_X4_fail : GoodIn wsX4_isMissing wsX4_fail := goodIn_r _ [10, 11, 12, 13, 14, 15, 16, 17, 18, 19, 20, 21, 22, 23, 24, 25, 26, 27, 28, 29, 30, 31, 32, 33, 34] (by decide +kernel) (by decide +kernel)
set_option maxRecDepth 20000 in
theorem gX4_isMissing_X4_fail : GoodIn wsX4_isMissing (wsV RX4 64 RX4 yX4_fail wsX4_fail) := goodIn_app (goodIn_of _ (by decide +kernel)) ggX4_isMissing_X4_fail
theorem dX4_isMissing_0 : decode cX4_isMissing 0 = .ok (.aload_n 0, 1) := by decide +kernel
theorem dX4_isMissing_1 : decode cX4_isMissing 1 = .ok (.getfield 61, 3) := by decide +kernel
theorem dX4_isMissing_4 : decode cX4_isMissing 4 = .ok (.ifCond .ne 10, 3) := by decide +kernel
theorem dX4_isMissing_7 : decode cX4_isMissing 7 = .ok (.aload_n 0, 1) := by decide +kernel
theorem dX4_isMissing_8 : decode cX4_isMissing 8 = .ok (.getfield 48, 3) := by decide +kernel
theorem dX4_isMissing_11 : decode cX4_isMissing 11 = .ok (.goto 36, 3) := by decide +kernel
theorem dX4_isMissing_14 : decode cX4_isMissing 14 = .ok (.aload_n 0, 1) := by decide +kernel
theorem dX4_isMissing_15 : decode cX4_isMissing 15 = .ok (.getfield 16, 3) := by decide +kernel
theorem dX4_isMissing_18 : decode cX4_isMissing 18 = .ok (.aload_n 0, 1) := by decide +kernel
theorem dX4_isMissing_19 : decode cX4_isMissing 19 = .ok (.getfield 29, 3) := by decide +kernel
theorem dX4_isMissing_22 : decode cX4_isMissing 22 = .ok (.aload_n 0, 1) := by decide +kernel
theorem dX4_isMissing_23 : decode cX4_isMissing 23 = .ok (.getfield 61, 3) := by decide +kernel
theorem dX4_isMissing_26 : decode cX4_isMissing 26 = .ok (.iconst 1, 1) := by decide +kernel
theorem dX4_isMissing_27 : decode cX4_isMissing 27 = .ok (.isub, 1) := by decide +kernel
theorem dX4_isMissing_28 : decode cX4_isMissing 28 = .ok (.iaload, 1) := by decide +kernel
theorem dX4_isMissing_29 : decode cX4_isMissing 29 = .ok (.iaload, 1) := by decide +kernel
theorem dX4_isMissing_30 : decode cX4_isMissing 30 = .ok (.aload_n 0, 1) := by decide +kernel
theorem dX4_isMissing_31 : decode cX4_isMissing 31 = .ok (.getfield 19, 3) := by decide +kernel
theorem dX4_isMissing_34 : decode cX4_isMissing 34 = .ok (.aload_n 0, 1) := by decide +kernel
theorem dX4_isMissing_35 : decode cX4_isMissing 35 = .ok (.getfield 29, 3) := by decide +kernel
theorem dX4_isMissing_38 : decode cX4_isMissing 38 = .ok (.aload_n 0, 1) := by decide +kernel
theorem dX4_isMissing_39 : decode cX4_isMissing 39 = .ok (.getfield 61, 3) := by decide +kernel
theorem dX4_isMissing_42 : decode cX4_isMissing 42 = .ok (.iconst 1, 1) := by decide +kernel
theorem dX4_isMissing_43 : decode cX4_isMissing 43 = .ok (.isub, 1) := by decide +kernel
theorem dX4_isMissing_44 : decode cX4_isMissing 44 = .ok (.iaload, 1) := by decide +kernel
theorem dX4_isMissing_45 : decode cX4_isMissing 45 = .ok (.iaload, 1) := by decide +kernel
theorem dX4_isMissing_46 : decode cX4_isMissing 46 = .ok (.iadd, 1) := by decide +kernel
theorem dX4_isMissing_47 : decode cX4_isMissing 47 = .ok (.istore_n 3, 1) := by decide +kernel
theorem dX4_isMissing_48 : decode cX4_isMissing 48 = .ok (.iload_n 1, 1) := by decide +kernel
theorem dX4_isMissing_49 : decode cX4_isMissing 49 = .ok (.iload_n 3, 1) := by decide +kernel
theorem dX4_isMissing_50 : decode cX4_isMissing 50 = .ok (.if_icmp .ge 5, 3) := by decide +kernel
theorem dX4_isMissing_53 : decode cX4_isMissing 53 = .ok (.iconst 0, 1) := by decide +kernel
theorem dX4_isMissing_54 : decode cX4_isMissing 54 = .ok (.ireturn, 1) := by decide +kernel
theorem dX4_isMissing_55 : decode cX4_isMissing 55 = .ok (.aload_n 0, 1) := by decide +kernel
theorem dX4_isMissing_56 : decode cX4_isMissing 56 = .ok (.getfield 61, 3) := by decide +kernel
theorem dX4_isMissing_59 : decode cX4_isMissing 59 = .ok (.ifCond .ne 15, 3) := by decide +kernel
theorem dX4_isMissing_62 : decode cX4_isMissing 62 = .ok (.aload_n 0, 1) := by decide +kernel
theorem dX4_isMissing_63 : decode cX4_isMissing 63 = .ok (.iconst (-1), 1) := by decide +kernel
theorem dX4_isMissing_64 : decode cX4_isMissing 64 = .ok (.aload_n 0, 1) := by decide +kernel
theorem dX4_isMissing_65 : decode cX4_isMissing 65 = .ok (.getfield 48, 3) := by decide +kernel
theorem dX4_isMissing_68 : decode cX4_isMissing 68 = .ok (.invokevirtual 64, 3) := by decide +kernel
theorem dX4_isMissing_71 : decode cX4_isMissing 71 = .ok (.goto 10, 3) := by decide +kernel
theorem dX4_isMissing_74 : decode cX4_isMissing 74 = .ok (.aload_n 0, 1) := by decide +kernel
theorem dX4_isMissing_75 : decode cX4_isMissing 75 = .ok (.bipush (-4), 2) := by decide +kernel
theorem dX4_isMissing_77 : decode cX4_isMissing 77 = .ok (.iload_n 2, 1) := by decide +kernel
theorem dX4_isMissing_78 : decode cX4_isMissing 78 = .ok (.invokevirtual 64, 3) := by decide +kernel
theorem dX4_isMissing_81 : decode cX4_isMissing 81 = .ok (.iconst 1, 1) := by decide +kernel
theorem dX4_isMissing_82 : decode cX4_isMissing 82 = .ok (.ireturn, 1) := by decide +kernel
set_option maxRecDepth 20000 in
theorem ggX4_length_X4_isMissing : GoodIn wsX4_length wsX4_isMissing := goodIn_r _ [7, 8, 9, 10, 11, 12, 13, 14, 15, 6, 16, 17, 18, 19, 20, 21, 22, 23, 24, 25, 26, 27, 28, 29, 30, 31, 32, 33, 34, 35, 36, 37, 38, 39, 40] (by decide +kernel) (by decide +kernel)
set_option maxRecDepth 20000 in
theorem gX4_length_X4_isMissing : GoodIn wsX4_length (wsV RX4 68 RX4 yX4_isMissing wsX4_isMissing) := goodIn_app (goodIn_of _ (by decide +kernel)) ggX4_length_X4_isMissing
set_option maxRecDepth 20000 in
theorem ggX4_length_X4_fail : GoodIn wsX4_length wsX4_fail := goodIn_r _ [16, 17, 18, 19, 20, 21, 22, 23, 24, 25, 26, 27, 28, 29, 30, 31, 32, 33, 34, 35, 36, 37, 38, 39, 40] (by decide +kernel) (by decide +kernel)
set_option maxRecDepth 20000 in
theorem gX4_length_X4_fail : GoodIn wsX4_length (wsV RX4 64 RX4 yX4_fail wsX4_fail) := goodIn_app (goodIn_of _ (by decide +kernel)) ggX4_length_X4_fail
theorem dX4_length_0 : decode cX4_length 0 = .ok (.iload_n 1, 1) := by decide +kernel
theorem dX4_length_1 : decode cX4_length 1 = .ok (.iconst 1, 1) := by decide +kernel
theorem dX4_length_2 : decode cX4_length 2 = .ok (.iadd, 1) := by decide +kernel
theorem dX4_length_3 : decode cX4_length 3 = .ok (.istore_n 2, 1) := by decide +kernel
theorem dX4_length_4 : decode cX4_length 4 = .ok (.aload_n 0, 1) := by decide +kernel
theorem dX4_length_5 : decode cX4_length 5 = .ok (.iload_n 2, 1) := by decide +kernel
theorem dX4_length_6 : decode cX4_length 6 = .ok (.iload_n 1, 1) := by decide +kernel
theorem dX4_length_7 : decode cX4_length 7 = .ok (.invokevirtual 68, 3) := by decide +kernel
theorem dX4_length_10 : decode cX4_length 10 = .ok (.ifCond .eq 5, 3) := by decide +kernel
theorem dX4_length_13 : decode cX4_length 13 = .ok (.iconst (-1), 1) := by decide +kernel
theorem dX4_length_14 : decode cX4_length 14 = .ok (.ireturn, 1) := by decide +kernel
theorem dX4_length_15 : decode cX4_length 15 = .ok (.aload_n 0, 1) := by decide +kernel
theorem dX4_length_16 : decode cX4_length 16 = .ok (.getfield 7, 3) := by decide +kernel
theorem dX4_length_19 : decode cX4_length 19 = .ok (.iload_n 2, 1) := by decide +kernel
theorem dX4_length_20 : decode cX4_length 20 = .ok (.iaload, 1) := by decide +kernel
theorem dX4_length_21 : decode cX4_length 21 = .ok (.istore_n 3, 1) := by decide +kernel
theorem dX4_length_22 : decode cX4_length 22 = .ok (.iload_n 3, 1) := by decide +kernel
theorem dX4_length_23 : decode cX4_length 23 = .ok (.sipush 128, 3) := by decide +kernel
theorem dX4_length_26 : decode cX4_length 26 = .ok (.if_icmp .ge 12, 3) := by decide +kernel
theorem dX4_length_29 : decode cX4_length 29 = .ok (.aload_n 0, 1) := by decide +kernel
theorem dX4_length_30 : decode cX4_length 30 = .ok (.iload_n 2, 1) := by decide +kernel
theorem dX4_length_31 : decode cX4_length 31 = .ok (.iconst 1, 1) := by decide +kernel
theorem dX4_length_32 : decode cX4_length 32 = .ok (.iadd, 1) := by decide +kernel
theorem dX4_length_33 : decode cX4_length 33 = .ok (.putfield 72, 3) := by decide +kernel
theorem dX4_length_36 : decode cX4_length 36 = .ok (.iload_n 3, 1) := by decide +kernel
theorem dX4_length_37 : decode cX4_length 37 = .ok (.ireturn, 1) := by decide +kernel
theorem dX4_length_38 : decode cX4_length 38 = .ok (.iload_n 3, 1) := by decide +kernel
theorem dX4_length_39 : decode cX4_length 39 = .ok (.sipush 129, 3) := by decide +kernel
theorem dX4_length_42 : decode cX4_length 42 = .ok (.if_icmp .eq 19, 3) := by decide +kernel
theorem dX4_length_45 : decode cX4_length 45 = .ok (.iload_n 3, 1) := by decide +kernel
theorem dX4_length_46 : decode cX4_length 46 = .ok (.sipush 130, 3) := by decide +kernel
theorem dX4_length_49 : decode cX4_length 49 = .ok (.if_icmp .eq 12, 3) := by decide +kernel
theorem dX4_length_52 : decode cX4_length 52 = .ok (.aload_n 0, 1) := by decide +kernel
theorem dX4_length_53 : decode cX4_length 53 = .ok (.bipush (-3), 2) := by decide +kernel
theorem dX4_length_55 : decode cX4_length 55 = .ok (.iload_n 2, 1) := by decide +kernel
theorem dX4_length_56 : decode cX4_length 56 = .ok (.invokevirtual 64, 3) := by decide +kernel
theorem dX4_length_59 : decode cX4_length 59 = .ok (.iconst (-1), 1) := by decide +kernel
theorem dX4_length_60 : decode cX4_length 60 = .ok (.ireturn, 1) := by decide +kernel
theorem dX4_length_61 : decode cX4_length 61 = .ok (.iload_n 3, 1) := by decide +kernel
theorem dX4_length_62 : decode cX4_length 62 = .ok (.sipush 128, 3) := by decide +kernel
theorem dX4_length_65 : decode cX4_length 65 = .ok (.isub, 1) := by decide +kernel
theorem dX4_length_66 : decode cX4_length 66 = .ok (.istore 4, 2) := by decide +kernel
theorem dX4_length_68 : decode cX4_length 68 = .ok (.iconst 0, 1) := by decide +kernel
theorem dX4_length_69 : decode cX4_length 69 = .ok (.istore 5, 2) := by decide +kernel
theorem dX4_length_71 : decode cX4_length 71 = .ok (.iconst 1, 1) := by decide +kernel
theorem dX4_length_72 : decode cX4_length 72 = .ok (.istore 6, 2) := by decide +kernel
theorem dX4_length_74 : decode cX4_length 74 = .ok (.iload 6, 2) := by decide +kernel
theorem dX4_length_76 : decode cX4_length 76 = .ok (.iload 4, 2) := by decide +kernel
theorem dX4_length_78 : decode cX4_length 78 = .ok (.if_icmp .gt 41, 3) := by decide +kernel
theorem dX4_length_81 : decode cX4_length 81 = .ok (.aload_n 0, 1) := by decide +kernel
theorem dX4_length_82 : decode cX4_length 82 = .ok (.iload_n 2, 1) := by decide +kernel
theorem dX4_length_83 : decode cX4_length 83 = .ok (.iload 6, 2) := by decide +kernel
theorem dX4_length_85 : decode cX4_length 85 = .ok (.iadd, 1) := by decide +kernel
theorem dX4_length_86 : decode cX4_length 86 = .ok (.iload_n 1, 1) := by decide +kernel
theorem dX4_length_87 : decode cX4_length 87 = .ok (.invokevirtual 68, 3) := by decide +kernel
theorem dX4_length_90 : decode cX4_length 90 = .ok (.ifCond .eq 5, 3) := by decide +kernel
theorem dX4_length_93 : decode cX4_length 93 = .ok (.iconst (-1), 1) := by decide +kernel
theorem dX4_length_94 : decode cX4_length 94 = .ok (.ireturn, 1) := by decide +kernel
theorem dX4_length_95 : decode cX4_length 95 = .ok (.sipush 256, 3) := by decide +kernel
theorem dX4_length_98 : decode cX4_length 98 = .ok (.iload 5, 2) := by decide +kernel
theorem dX4_length_100 : decode cX4_length 100 = .ok (.imul, 1) := by decide +kernel
theorem dX4_length_101 : decode cX4_length 101 = .ok (.aload_n 0, 1) := by decide +kernel
theorem dX4_length_102 : decode cX4_length 102 = .ok (.getfield 7, 3) := by decide +kernel
theorem dX4_length_105 : decode cX4_length 105 = .ok (.iload_n 2, 1) := by decide +kernel
theorem dX4_length_106 : decode cX4_length 106 = .ok (.iload 6, 2) := by decide +kernel
theorem dX4_length_108 : decode cX4_length 108 = .ok (.iadd, 1) := by decide +kernel
theorem dX4_length_109 : decode cX4_length 109 = .ok (.iaload, 1) := by decide +kernel
theorem dX4_length_110 : decode cX4_length 110 = .ok (.iadd, 1) := by decide +kernel
theorem dX4_length_111 : decode cX4_length 111 = .ok (.istore 5, 2) := by decide +kernel
theorem dX4_length_113 : decode cX4_length 113 = .ok (.iinc 6 1, 3) := by decide +kernel
theorem dX4_length_116 : decode cX4_length 116 = .ok (.goto (-42), 3) := by decide +kernel
theorem dX4_length_119 : decode cX4_length 119 = .ok (.iload 5, 2) := by decide +kernel
theorem dX4_length_121 : decode cX4_length 121 = .ok (.iload 4, 2) := by decide +kernel
theorem dX4_length_123 : decode cX4_length 123 = .ok (.iconst 1, 1) := by decide +kernel
theorem dX4_length_124 : decode cX4_length 124 = .ok (.if_icmp .ne 9, 3) := by decide +kernel
theorem dX4_length_127 : decode cX4_length 127 = .ok (.sipush 128, 3) := by decide +kernel
theorem dX4_length_130 : decode cX4_length 130 = .ok (.goto 6, 3) := by decide +kernel
theorem dX4_length_133 : decode cX4_length 133 = .ok (.sipush 256, 3) := by decide +kernel
theorem dX4_length_136 : decode cX4_length 136 = .ok (.if_icmp .ge 12, 3) := by decide +kernel
theorem dX4_length_139 : decode cX4_length 139 = .ok (.aload_n 0, 1) := by decide +kernel
theorem dX4_length_140 : decode cX4_length 140 = .ok (.bipush (-3), 2) := by decide +kernel
theorem dX4_length_142 : decode cX4_length 142 = .ok (.iload_n 2, 1) := by decide +kernel
theorem dX4_length_143 : decode cX4_length 143 = .ok (.invokevirtual 64, 3) := by decide +kernel
theorem dX4_length_146 : decode cX4_length 146 = .ok (.iconst (-1), 1) := by decide +kernel
theorem dX4_length_147 : decode cX4_length 147 = .ok (.ireturn, 1) := by decide +kernel
theorem dX4_length_148 : decode cX4_length 148 = .ok (.aload_n 0, 1) := by decide +kernel
theorem dX4_length_149 : decode cX4_length 149 = .ok (.iload_n 2, 1) := by decide +kernel
theorem dX4_length_150 : decode cX4_length 150 = .ok (.iconst 1, 1) := by decide +kernel
theorem dX4_length_151 : decode cX4_length 151 = .ok (.iadd, 1) := by decide +kernel
theorem dX4_length_152 : decode cX4_length 152 = .ok (.iload 4, 2) := by decide +kernel
theorem dX4_length_154 : decode cX4_length 154 = .ok (.iadd, 1) := by decide +kernel
theorem dX4_length_155 : decode cX4_length 155 = .ok (.putfield 72, 3) := by decide +kernel
theorem dX4_length_158 : decode cX4_length 158 = .ok (.iload 5, 2) := by decide +kernel
theorem dX4_length_160 : decode cX4_length 160 = .ok (.ireturn, 1) := by decide +kernel
set_option maxRecDepth 20000 in
theorem ggX4_value_X4_isMissing : GoodIn wsX4_value wsX4_isMissing := goodIn_r _ [16, 4, 5, 6, 7, 8, 17, 18, 19, 15, 20, 21, 22, 34, 35, 36, 37, 38, 39, 40, 41, 42, 43, 44, 45, 46, 47, 48, 49, 50, 51, 52, 53, 54, 55] (by decide +kernel) (by decide +kernel)
set_option maxRecDepth 20000 in
theorem gX4_value_X4_isMissing : GoodIn wsX4_value (wsV RX4 68 RX4 yX4_isMissing wsX4_isMissing) := goodIn_app (goodIn_of _ (by decide +kernel)) ggX4_value_X4_isMissing
set_option maxRecDepth 20000 in
theorem ggX4_value_X4_isTag : GoodIn wsX4_value wsX4_isTag := goodIn_r _ [25] (by decide +kernel) (by decide +kernel)
set_option maxRecDepth 20000 in
theorem gX4_value_X4_isTag : GoodIn wsX4_value (va_wsS RX4 75 yX4_isTag wsX4_isTag) := goodIn_app (goodIn_of _ (by decide +kernel)) ggX4_value_X4_isTag
set_option maxRecDepth 20000 in
theorem ggX4_value_X4_fail : GoodIn wsX4_value wsX4_fail := goodIn_r _ [20, 21, 22, 34, 35, 36, 37, 38, 39, 40, 41, 42, 43, 44, 45, 46, 47, 48, 49, 50, 51, 52, 53, 54, 55] (by decide +kernel) (by decide +kernel)
set_option maxRecDepth 20000 in
theorem gX4_value_X4_fail : GoodIn wsX4_value (wsV RX4 64 RX4 yX4_fail wsX4_fail) := goodIn_app (goodIn_of _ (by decide +kernel)) ggX4_value_X4_fail
set_option maxRecDepth 20000 in
theorem ggX4_value_X4_length : GoodIn wsX4_value wsX4_length := goodIn_r _ [29, 2, 1, 12, 13, 14, 15, 16, 4, 5, 6, 7, 8, 17, 18, 19, 20, 21, 22, 34, 35, 36, 37, 38, 39, 40, 41, 42, 43, 44, 45, 46, 47, 48, 49, 50, 51, 52, 53, 54, 55] (by decide +kernel) (by decide +kernel)
set_option maxRecDepth 20000 in
theorem gX4_value_X4_length : GoodIn wsX4_value (wsV RX4 81 RX4 yX4_length wsX4_length) := goodIn_app (goodIn_of _ (by decide +kernel)) ggX4_value_X4_length
set_option maxRecDepth 20000 in
theorem ggX4_value_X4_isRight : GoodIn wsX4_value wsX4_isRight := goodIn_r _ [33, 11, 34, 35, 36, 37, 38, 39, 40, 41, 42, 43, 44, 45, 46, 47, 48, 49, 50, 51, 52, 53, 54, 55] (by decide +kernel) (by decide +kernel)
set_option maxRecDepth 20000 in
theorem gX4_value_X4_isRight : GoodIn wsX4_value (wsV RX4 85 RX4 yX4_isRight wsX4_isRight) := goodIn_app (goodIn_of _ (by decide +kernel)) ggX4_value_X4_isRight
theorem dX4_value_0 : decode cX4_value 0 = .ok (.aload_n 0, 1) := by decide +kernel
theorem dX4_value_1 : decode cX4_value 1 = .ok (.getfield 72, 3) := by decide +kernel
theorem dX4_value_4 : decode cX4_value 4 = .ok (.istore_n 1, 1) := by decide +kernel
theorem dX4_value_5 : decode cX4_value 5 = .ok (.aload_n 0, 1) := by decide +kernel
theorem dX4_value_6 : decode cX4_value 6 = .ok (.iload_n 1, 1) := by decide +kernel
theorem dX4_value_7 : decode cX4_value 7 = .ok (.iload_n 1, 1) := by decide +kernel
theorem dX4_value_8 : decode cX4_value 8 = .ok (.invokevirtual 68, 3) := by decide +kernel
theorem dX4_value_11 : decode cX4_value 11 = .ok (.ifCond .eq 4, 3) := by decide +kernel
theorem dX4_value_14 : decode cX4_value 14 = .ok (.return_, 1) := by decide +kernel
theorem dX4_value_15 : decode cX4_value 15 = .ok (.aload_n 0, 1) := by decide +kernel
theorem dX4_value_16 : decode cX4_value 16 = .ok (.getfield 7, 3) := by decide +kernel
theorem dX4_value_19 : decode cX4_value 19 = .ok (.iload_n 1, 1) := by decide +kernel
theorem dX4_value_20 : decode cX4_value 20 = .ok (.iaload, 1) := by decide +kernel
theorem dX4_value_21 : decode cX4_value 21 = .ok (.invokestatic 75, 3) := by decide +kernel
theorem dX4_value_24 : decode cX4_value 24 = .ok (.ifCond .ne 11, 3) := by decide +kernel
theorem dX4_value_27 : decode cX4_value 27 = .ok (.aload_n 0, 1) := by decide +kernel
theorem dX4_value_28 : decode cX4_value 28 = .ok (.bipush (-2), 2) := by decide +kernel
theorem dX4_value_30 : decode cX4_value 30 = .ok (.iload_n 1, 1) := by decide +kernel
theorem dX4_value_31 : decode cX4_value 31 = .ok (.invokevirtual 64, 3) := by decide +kernel
theorem dX4_value_34 : decode cX4_value 34 = .ok (.return_, 1) := by decide +kernel
theorem dX4_value_35 : decode cX4_value 35 = .ok (.aload_n 0, 1) := by decide +kernel
theorem dX4_value_36 : decode cX4_value 36 = .ok (.getfield 78, 3) := by decide +kernel
theorem dX4_value_39 : decode cX4_value 39 = .ok (.bipush 64, 2) := by decide +kernel
theorem dX4_value_41 : decode cX4_value 41 = .ok (.if_icmp .eq 12, 3) := by decide +kernel
theorem dX4_value_44 : decode cX4_value 44 = .ok (.aload_n 0, 1) := by decide +kernel
theorem dX4_value_45 : decode cX4_value 45 = .ok (.getfield 61, 3) := by decide +kernel
theorem dX4_value_48 : decode cX4_value 48 = .ok (.bipush 16, 2) := by decide +kernel
theorem dX4_value_50 : decode cX4_value 50 = .ok (.if_icmp .ne 11, 3) := by decide +kernel
theorem dX4_value_53 : decode cX4_value 53 = .ok (.aload_n 0, 1) := by decide +kernel
theorem dX4_value_54 : decode cX4_value 54 = .ok (.bipush (-7), 2) := by decide +kernel
theorem dX4_value_56 : decode cX4_value 56 = .ok (.iload_n 1, 1) := by decide +kernel
theorem dX4_value_57 : decode cX4_value 57 = .ok (.invokevirtual 64, 3) := by decide +kernel
theorem dX4_value_60 : decode cX4_value 60 = .ok (.return_, 1) := by decide +kernel
theorem dX4_value_61 : decode cX4_value 61 = .ok (.aload_n 0, 1) := by decide +kernel
theorem dX4_value_62 : decode cX4_value 62 = .ok (.iload_n 1, 1) := by decide +kernel
theorem dX4_value_63 : decode cX4_value 63 = .ok (.invokevirtual 81, 3) := by decide +kernel
theorem dX4_value_66 : decode cX4_value 66 = .ok (.istore_n 2, 1) := by decide +kernel
theorem dX4_value_67 : decode cX4_value 67 = .ok (.iload_n 2, 1) := by decide +kernel
theorem dX4_value_68 : decode cX4_value 68 = .ok (.iconst (-1), 1) := by decide +kernel
theorem dX4_value_69 : decode cX4_value 69 = .ok (.if_icmp .ne 4, 3) := by decide +kernel
theorem dX4_value_72 : decode cX4_value 72 = .ok (.return_, 1) := by decide +kernel
theorem dX4_value_73 : decode cX4_value 73 = .ok (.aload_n 0, 1) := by decide +kernel
theorem dX4_value_74 : decode cX4_value 74 = .ok (.getfield 61, 3) := by decide +kernel
theorem dX4_value_77 : decode cX4_value 77 = .ok (.ifCond .ne 10, 3) := by decide +kernel
theorem dX4_value_80 : decode cX4_value 80 = .ok (.aload_n 0, 1) := by decide +kernel
theorem dX4_value_81 : decode cX4_value 81 = .ok (.getfield 48, 3) := by decide +kernel
theorem dX4_value_84 : decode cX4_value 84 = .ok (.goto 36, 3) := by decide +kernel
theorem dX4_value_87 : decode cX4_value 87 = .ok (.aload_n 0, 1) := by decide +kernel
theorem dX4_value_88 : decode cX4_value 88 = .ok (.getfield 16, 3) := by decide +kernel
theorem dX4_value_91 : decode cX4_value 91 = .ok (.aload_n 0, 1) := by decide +kernel
theorem dX4_value_92 : decode cX4_value 92 = .ok (.getfield 29, 3) := by decide +kernel
theorem dX4_value_95 : decode cX4_value 95 = .ok (.aload_n 0, 1) := by decide +kernel
theorem dX4_value_96 : decode cX4_value 96 = .ok (.getfield 61, 3) := by decide +kernel
theorem dX4_value_99 : decode cX4_value 99 = .ok (.iconst 1, 1) := by decide +kernel
theorem dX4_value_100 : decode cX4_value 100 = .ok (.isub, 1) := by decide +kernel
theorem dX4_value_101 : decode cX4_value 101 = .ok (.iaload, 1) := by decide +kernel
theorem dX4_value_102 : decode cX4_value 102 = .ok (.iaload, 1) := by decide +kernel
theorem dX4_value_103 : decode cX4_value 103 = .ok (.aload_n 0, 1) := by decide +kernel
theorem dX4_value_104 : decode cX4_value 104 = .ok (.getfield 19, 3) := by decide +kernel
theorem dX4_value_107 : decode cX4_value 107 = .ok (.aload_n 0, 1) := by decide +kernel
theorem dX4_value_108 : decode cX4_value 108 = .ok (.getfield 29, 3) := by decide +kernel
theorem dX4_value_111 : decode cX4_value 111 = .ok (.aload_n 0, 1) := by decide +kernel
theorem dX4_value_112 : decode cX4_value 112 = .ok (.getfield 61, 3) := by decide +kernel
theorem dX4_value_115 : decode cX4_value 115 = .ok (.iconst 1, 1) := by decide +kernel
theorem dX4_value_116 : decode cX4_value 116 = .ok (.isub, 1) := by decide +kernel
theorem dX4_value_117 : decode cX4_value 117 = .ok (.iaload, 1) := by decide +kernel
theorem dX4_value_118 : decode cX4_value 118 = .ok (.iaload, 1) := by decide +kernel
theorem dX4_value_119 : decode cX4_value 119 = .ok (.iadd, 1) := by decide +kernel
theorem dX4_value_120 : decode cX4_value 120 = .ok (.istore_n 3, 1) := by decide +kernel
theorem dX4_value_121 : decode cX4_value 121 = .ok (.aload_n 0, 1) := by decide +kernel
theorem dX4_value_122 : decode cX4_value 122 = .ok (.getfield 72, 3) := by decide +kernel
theorem dX4_value_125 : decode cX4_value 125 = .ok (.iload_n 2, 1) := by decide +kernel
theorem dX4_value_126 : decode cX4_value 126 = .ok (.iadd, 1) := by decide +kernel
theorem dX4_value_127 : decode cX4_value 127 = .ok (.iload_n 3, 1) := by decide +kernel
theorem dX4_value_128 : decode cX4_value 128 = .ok (.if_icmp .le 11, 3) := by decide +kernel
theorem dX4_value_131 : decode cX4_value 131 = .ok (.aload_n 0, 1) := by decide +kernel
theorem dX4_value_132 : decode cX4_value 132 = .ok (.bipush (-4), 2) := by decide +kernel
theorem dX4_value_134 : decode cX4_value 134 = .ok (.iload_n 1, 1) := by decide +kernel
theorem dX4_value_135 : decode cX4_value 135 = .ok (.invokevirtual 64, 3) := by decide +kernel
theorem dX4_value_138 : decode cX4_value 138 = .ok (.return_, 1) := by decide +kernel
theorem dX4_value_139 : decode cX4_value 139 = .ok (.aload_n 0, 1) := by decide +kernel
theorem dX4_value_140 : decode cX4_value 140 = .ok (.getfield 13, 3) := by decide +kernel
theorem dX4_value_143 : decode cX4_value 143 = .ok (.aload_n 0, 1) := by decide +kernel
theorem dX4_value_144 : decode cX4_value 144 = .ok (.getfield 78, 3) := by decide +kernel
theorem dX4_value_147 : decode cX4_value 147 = .ok (.aload_n 0, 1) := by decide +kernel
theorem dX4_value_148 : decode cX4_value 148 = .ok (.getfield 7, 3) := by decide +kernel
theorem dX4_value_151 : decode cX4_value 151 = .ok (.iload_n 1, 1) := by decide +kernel
theorem dX4_value_152 : decode cX4_value 152 = .ok (.iaload, 1) := by decide +kernel
theorem dX4_value_153 : decode cX4_value 153 = .ok (.iastore, 1) := by decide +kernel
theorem dX4_value_154 : decode cX4_value 154 = .ok (.aload_n 0, 1) := by decide +kernel
theorem dX4_value_155 : decode cX4_value 155 = .ok (.getfield 16, 3) := by decide +kernel
theorem dX4_value_158 : decode cX4_value 158 = .ok (.aload_n 0, 1) := by decide +kernel
theorem dX4_value_159 : decode cX4_value 159 = .ok (.getfield 78, 3) := by decide +kernel
theorem dX4_value_162 : decode cX4_value 162 = .ok (.aload_n 0, 1) := by decide +kernel
theorem dX4_value_163 : decode cX4_value 163 = .ok (.getfield 72, 3) := by decide +kernel
theorem dX4_value_166 : decode cX4_value 166 = .ok (.iastore, 1) := by decide +kernel
theorem dX4_value_167 : decode cX4_value 167 = .ok (.aload_n 0, 1) := by decide +kernel
theorem dX4_value_168 : decode cX4_value 168 = .ok (.getfield 19, 3) := by decide +kernel
theorem dX4_value_171 : decode cX4_value 171 = .ok (.aload_n 0, 1) := by decide +kernel
theorem dX4_value_172 : decode cX4_value 172 = .ok (.getfield 78, 3) := by decide +kernel
theorem dX4_value_175 : decode cX4_value 175 = .ok (.iload_n 2, 1) := by decide +kernel
theorem dX4_value_176 : decode cX4_value 176 = .ok (.iastore, 1) := by decide +kernel
theorem dX4_value_177 : decode cX4_value 177 = .ok (.aload_n 0, 1) := by decide +kernel
theorem dX4_value_178 : decode cX4_value 178 = .ok (.getfield 22, 3) := by decide +kernel
theorem dX4_value_181 : decode cX4_value 181 = .ok (.aload_n 0, 1) := by decide +kernel
theorem dX4_value_182 : decode cX4_value 182 = .ok (.getfield 78, 3) := by decide +kernel
theorem dX4_value_185 : decode cX4_value 185 = .ok (.aload_n 0, 1) := by decide +kernel
theorem dX4_value_186 : decode cX4_value 186 = .ok (.getfield 61, 3) := by decide +kernel
theorem dX4_value_189 : decode cX4_value 189 = .ok (.ifCond .ne 7, 3) := by decide +kernel
theorem dX4_value_192 : decode cX4_value 192 = .ok (.iconst (-1), 1) := by decide +kernel
theorem dX4_value_193 : decode cX4_value 193 = .ok (.goto 14, 3) := by decide +kernel
theorem dX4_value_196 : decode cX4_value 196 = .ok (.aload_n 0, 1) := by decide +kernel
theorem dX4_value_197 : decode cX4_value 197 = .ok (.getfield 29, 3) := by decide +kernel
theorem dX4_value_200 : decode cX4_value 200 = .ok (.aload_n 0, 1) := by decide +kernel
theorem dX4_value_201 : decode cX4_value 201 = .ok (.getfield 61, 3) := by decide +kernel
theorem dX4_value_204 : decode cX4_value 204 = .ok (.iconst 1, 1) := by decide +kernel
theorem dX4_value_205 : decode cX4_value 205 = .ok (.isub, 1) := by decide +kernel
theorem dX4_value_206 : decode cX4_value 206 = .ok (.iaload, 1) := by decide +kernel
theorem dX4_value_207 : decode cX4_value 207 = .ok (.iastore, 1) := by decide +kernel
theorem dX4_value_208 : decode cX4_value 208 = .ok (.aload_n 0, 1) := by decide +kernel
theorem dX4_value_209 : decode cX4_value 209 = .ok (.dup, 1) := by decide +kernel
theorem dX4_value_210 : decode cX4_value 210 = .ok (.getfield 78, 3) := by decide +kernel
theorem dX4_value_213 : decode cX4_value 213 = .ok (.iconst 1, 1) := by decide +kernel
theorem dX4_value_214 : decode cX4_value 214 = .ok (.iadd, 1) := by decide +kernel
theorem dX4_value_215 : decode cX4_value 215 = .ok (.putfield 78, 3) := by decide +kernel
theorem dX4_value_218 : decode cX4_value 218 = .ok (.aload_n 0, 1) := by decide +kernel
theorem dX4_value_219 : decode cX4_value 219 = .ok (.getfield 7, 3) := by decide +kernel
theorem dX4_value_222 : decode cX4_value 222 = .ok (.iload_n 1, 1) := by decide +kernel
theorem dX4_value_223 : decode cX4_value 223 = .ok (.iaload, 1) := by decide +kernel
theorem dX4_value_224 : decode cX4_value 224 = .ok (.bipush 48, 2) := by decide +kernel
theorem dX4_value_226 : decode cX4_value 226 = .ok (.if_icmp .ne 29, 3) := by decide +kernel
theorem dX4_value_229 : decode cX4_value 229 = .ok (.aload_n 0, 1) := by decide +kernel
theorem dX4_value_230 : decode cX4_value 230 = .ok (.getfield 29, 3) := by decide +kernel
theorem dX4_value_233 : decode cX4_value 233 = .ok (.aload_n 0, 1) := by decide +kernel
theorem dX4_value_234 : decode cX4_value 234 = .ok (.getfield 61, 3) := by decide +kernel
theorem dX4_value_237 : decode cX4_value 237 = .ok (.aload_n 0, 1) := by decide +kernel
theorem dX4_value_238 : decode cX4_value 238 = .ok (.getfield 78, 3) := by decide +kernel
theorem dX4_value_241 : decode cX4_value 241 = .ok (.iconst 1, 1) := by decide +kernel
theorem dX4_value_242 : decode cX4_value 242 = .ok (.isub, 1) := by decide +kernel
theorem dX4_value_243 : decode cX4_value 243 = .ok (.iastore, 1) := by decide +kernel
theorem dX4_value_244 : decode cX4_value 244 = .ok (.aload_n 0, 1) := by decide +kernel
theorem dX4_value_245 : decode cX4_value 245 = .ok (.dup, 1) := by decide +kernel
theorem dX4_value_246 : decode cX4_value 246 = .ok (.getfield 61, 3) := by decide +kernel
theorem dX4_value_249 : decode cX4_value 249 = .ok (.iconst 1, 1) := by decide +kernel
theorem dX4_value_250 : decode cX4_value 250 = .ok (.iadd, 1) := by decide +kernel
theorem dX4_value_251 : decode cX4_value 251 = .ok (.putfield 61, 3) := by decide +kernel
theorem dX4_value_254 : decode cX4_value 254 = .ok (.return_, 1) := by decide +kernel
theorem dX4_value_255 : decode cX4_value 255 = .ok (.iconst 0, 1) := by decide +kernel
theorem dX4_value_256 : decode cX4_value 256 = .ok (.istore 4, 2) := by decide +kernel
theorem dX4_value_258 : decode cX4_value 258 = .ok (.iload 4, 2) := by decide +kernel
theorem dX4_value_260 : decode cX4_value 260 = .ok (.iload_n 2, 1) := by decide +kernel
theorem dX4_value_261 : decode cX4_value 261 = .ok (.if_icmp .ge 28, 3) := by decide +kernel
theorem dX4_value_264 : decode cX4_value 264 = .ok (.aload_n 0, 1) := by decide +kernel
theorem dX4_value_265 : decode cX4_value 265 = .ok (.getfield 32, 3) := by decide +kernel
theorem dX4_value_268 : decode cX4_value 268 = .ok (.iload 4, 2) := by decide +kernel
theorem dX4_value_270 : decode cX4_value 270 = .ok (.aload_n 0, 1) := by decide +kernel
theorem dX4_value_271 : decode cX4_value 271 = .ok (.getfield 7, 3) := by decide +kernel
theorem dX4_value_274 : decode cX4_value 274 = .ok (.aload_n 0, 1) := by decide +kernel
theorem dX4_value_275 : decode cX4_value 275 = .ok (.getfield 72, 3) := by decide +kernel
theorem dX4_value_278 : decode cX4_value 278 = .ok (.iload 4, 2) := by decide +kernel
theorem dX4_value_280 : decode cX4_value 280 = .ok (.iadd, 1) := by decide +kernel
theorem dX4_value_281 : decode cX4_value 281 = .ok (.iaload, 1) := by decide +kernel
theorem dX4_value_282 : decode cX4_value 282 = .ok (.iastore, 1) := by decide +kernel
theorem dX4_value_283 : decode cX4_value 283 = .ok (.iinc 4 1, 3) := by decide +kernel
theorem dX4_value_286 : decode cX4_value 286 = .ok (.goto (-28), 3) := by decide +kernel
theorem dX4_value_289 : decode cX4_value 289 = .ok (.aload_n 0, 1) := by decide +kernel
theorem dX4_value_290 : decode cX4_value 290 = .ok (.aload_n 0, 1) := by decide +kernel
theorem dX4_value_291 : decode cX4_value 291 = .ok (.getfield 7, 3) := by decide +kernel
theorem dX4_value_294 : decode cX4_value 294 = .ok (.iload_n 1, 1) := by decide +kernel
theorem dX4_value_295 : decode cX4_value 295 = .ok (.iaload, 1) := by decide +kernel
theorem dX4_value_296 : decode cX4_value 296 = .ok (.iload_n 2, 1) := by decide +kernel
theorem dX4_value_297 : decode cX4_value 297 = .ok (.invokevirtual 85, 3) := by decide +kernel
theorem dX4_value_300 : decode cX4_value 300 = .ok (.ifCond .ne 10, 3) := by decide +kernel
theorem dX4_value_303 : decode cX4_value 303 = .ok (.aload_n 0, 1) := by decide +kernel
theorem dX4_value_304 : decode cX4_value 304 = .ok (.bipush (-5), 2) := by decide +kernel
theorem dX4_value_306 : decode cX4_value 306 = .ok (.iload_n 1, 1) := by decide +kernel
theorem dX4_value_307 : decode cX4_value 307 = .ok (.invokevirtual 64, 3) := by decide +kernel
theorem dX4_value_310 : decode cX4_value 310 = .ok (.aload_n 0, 1) := by decide +kernel
theorem dX4_value_311 : decode cX4_value 311 = .ok (.dup, 1) := by decide +kernel
theorem dX4_value_312 : decode cX4_value 312 = .ok (.getfield 72, 3) := by decide +kernel
theorem dX4_value_315 : decode cX4_value 315 = .ok (.iload_n 2, 1) := by decide +kernel
theorem dX4_value_316 : decode cX4_value 316 = .ok (.iadd, 1) := by decide +kernel
theorem dX4_value_317 : decode cX4_value 317 = .ok (.putfield 72, 3) := by decide +kernel
theorem dX4_value_320 : decode cX4_value 320 = .ok (.return_, 1) := by decide +kernel
set_option maxRecDepth 20000 in
theorem ggX4_parse_X4_value : GoodIn wsX4_parse wsX4_value := goodIn_r _ [18, 2, 19, 4, 3, 11, 8, 9, 10, 20, 21, 22, 23, 24, 25, 17, 26, 27, 28, 29, 30, 5, 6, 31, 32, 33, 34, 35, 36, 37, 38, 39, 40, 41, 42, 43, 44, 45, 46, 47, 48, 49, 50, 51, 52, 53, 54, 55, 56, 57, 58, 59, 60, 61, 62, 63] (by decide +kernel) (by decide +kernel)
set_option maxRecDepth 20000 in
theorem gX4_parse_X4_value : GoodIn wsX4_parse (wsV RX4 88 RX4 yX4_value wsX4_value) := goodIn_app (goodIn_of _ (by decide +kernel)) ggX4_parse_X4_value
set_option maxRecDepth 20000 in
theorem ggX4_parse_X4_fail : GoodIn wsX4_parse wsX4_fail := goodIn_r _ [30, 5, 6, 42, 43, 44, 45, 46, 47, 48, 49, 50, 51, 52, 53, 54, 55, 56, 57, 58, 59, 60, 61, 62, 63] (by decide +kernel) (by decide +kernel)
set_option maxRecDepth 20000 in
theorem gX4_parse_X4_fail : GoodIn wsX4_parse (wsV RX4 64 RX4 yX4_fail wsX4_fail) := goodIn_app (goodIn_of _ (by decide +kernel)) ggX4_parse_X4_fail
theorem dX4_parse_0 : decode cX4_parse 0 = .ok (.aload_n 0, 1) := by decide +kernel
theorem dX4_parse_1 : decode cX4_parse 1 = .ok (.iconst 0, 1) := by decide +kernel
theorem dX4_parse_2 : decode cX4_parse 2 = .ok (.putfield 41, 3) := by decide +kernel
theorem dX4_parse_5 : decode cX4_parse 5 = .ok (.aload_n 0, 1) := by decide +kernel
theorem dX4_parse_6 : decode cX4_parse 6 = .ok (.iconst 0, 1) := by decide +kernel
theorem dX4_parse_7 : decode cX4_parse 7 = .ok (.putfield 72, 3) := by decide +kernel
theorem dX4_parse_10 : decode cX4_parse 10 = .ok (.aload_n 0, 1) := by decide +kernel
theorem dX4_parse_11 : decode cX4_parse 11 = .ok (.iconst 0, 1) := by decide +kernel
theorem dX4_parse_12 : decode cX4_parse 12 = .ok (.putfield 61, 3) := by decide +kernel
theorem dX4_parse_15 : decode cX4_parse 15 = .ok (.aload_n 0, 1) := by decide +kernel
theorem dX4_parse_16 : decode cX4_parse 16 = .ok (.iconst 0, 1) := by decide +kernel
theorem dX4_parse_17 : decode cX4_parse 17 = .ok (.putfield 78, 3) := by decide +kernel
theorem dX4_parse_20 : decode cX4_parse 20 = .ok (.aload_n 0, 1) := by decide +kernel
theorem dX4_parse_21 : decode cX4_parse 21 = .ok (.iconst 0, 1) := by decide +kernel
theorem dX4_parse_22 : decode cX4_parse 22 = .ok (.putfield 55, 3) := by decide +kernel
theorem dX4_parse_25 : decode cX4_parse 25 = .ok (.aload_n 0, 1) := by decide +kernel
theorem dX4_parse_26 : decode cX4_parse 26 = .ok (.iconst (-1), 1) := by decide +kernel
theorem dX4_parse_27 : decode cX4_parse 27 = .ok (.putfield 58, 3) := by decide +kernel
theorem dX4_parse_30 : decode cX4_parse 30 = .ok (.aload_n 0, 1) := by decide +kernel
theorem dX4_parse_31 : decode cX4_parse 31 = .ok (.iconst 0, 1) := by decide +kernel
theorem dX4_parse_32 : decode cX4_parse 32 = .ok (.putfield 51, 3) := by decide +kernel
theorem dX4_parse_35 : decode cX4_parse 35 = .ok (.aload_n 0, 1) := by decide +kernel
theorem dX4_parse_36 : decode cX4_parse 36 = .ok (.invokevirtual 88, 3) := by decide +kernel
theorem dX4_parse_39 : decode cX4_parse 39 = .ok (.iconst 1, 1) := by decide +kernel
theorem dX4_parse_40 : decode cX4_parse 40 = .ok (.istore_n 1, 1) := by decide +kernel
theorem dX4_parse_41 : decode cX4_parse 41 = .ok (.iload_n 1, 1) := by decide +kernel
theorem dX4_parse_42 : decode cX4_parse 42 = .ok (.ifCond .eq 94, 3) := by decide +kernel
theorem dX4_parse_45 : decode cX4_parse 45 = .ok (.aload_n 0, 1) := by decide +kernel
theorem dX4_parse_46 : decode cX4_parse 46 = .ok (.getfield 55, 3) := by decide +kernel
theorem dX4_parse_49 : decode cX4_parse 49 = .ok (.ifCond .ne 87, 3) := by decide +kernel
theorem dX4_parse_52 : decode cX4_parse 52 = .ok (.aload_n 0, 1) := by decide +kernel
theorem dX4_parse_53 : decode cX4_parse 53 = .ok (.getfield 61, 3) := by decide +kernel
theorem dX4_parse_56 : decode cX4_parse 56 = .ok (.ifCond .le 56, 3) := by decide +kernel
theorem dX4_parse_59 : decode cX4_parse 59 = .ok (.aload_n 0, 1) := by decide +kernel
theorem dX4_parse_60 : decode cX4_parse 60 = .ok (.getfield 72, 3) := by decide +kernel
theorem dX4_parse_63 : decode cX4_parse 63 = .ok (.aload_n 0, 1) := by decide +kernel
theorem dX4_parse_64 : decode cX4_parse 64 = .ok (.getfield 16, 3) := by decide +kernel
theorem dX4_parse_67 : decode cX4_parse 67 = .ok (.aload_n 0, 1) := by decide +kernel
theorem dX4_parse_68 : decode cX4_parse 68 = .ok (.getfield 29, 3) := by decide +kernel
theorem dX4_parse_71 : decode cX4_parse 71 = .ok (.aload_n 0, 1) := by decide +kernel
theorem dX4_parse_72 : decode cX4_parse 72 = .ok (.getfield 61, 3) := by decide +kernel
theorem dX4_parse_75 : decode cX4_parse 75 = .ok (.iconst 1, 1) := by decide +kernel
theorem dX4_parse_76 : decode cX4_parse 76 = .ok (.isub, 1) := by decide +kernel
theorem dX4_parse_77 : decode cX4_parse 77 = .ok (.iaload, 1) := by decide +kernel
theorem dX4_parse_78 : decode cX4_parse 78 = .ok (.iaload, 1) := by decide +kernel
theorem dX4_parse_79 : decode cX4_parse 79 = .ok (.aload_n 0, 1) := by decide +kernel
theorem dX4_parse_80 : decode cX4_parse 80 = .ok (.getfield 19, 3) := by decide +kernel
theorem dX4_parse_83 : decode cX4_parse 83 = .ok (.aload_n 0, 1) := by decide +kernel
theorem dX4_parse_84 : decode cX4_parse 84 = .ok (.getfield 29, 3) := by decide +kernel
theorem dX4_parse_87 : decode cX4_parse 87 = .ok (.aload_n 0, 1) := by decide +kernel
theorem dX4_parse_88 : decode cX4_parse 88 = .ok (.getfield 61, 3) := by decide +kernel
theorem dX4_parse_91 : decode cX4_parse 91 = .ok (.iconst 1, 1) := by decide +kernel
theorem dX4_parse_92 : decode cX4_parse 92 = .ok (.isub, 1) := by decide +kernel
theorem dX4_parse_93 : decode cX4_parse 93 = .ok (.iaload, 1) := by decide +kernel
theorem dX4_parse_94 : decode cX4_parse 94 = .ok (.iaload, 1) := by decide +kernel
theorem dX4_parse_95 : decode cX4_parse 95 = .ok (.iadd, 1) := by decide +kernel
theorem dX4_parse_96 : decode cX4_parse 96 = .ok (.if_icmp .ne 16, 3) := by decide +kernel
theorem dX4_parse_99 : decode cX4_parse 99 = .ok (.aload_n 0, 1) := by decide +kernel
theorem dX4_parse_100 : decode cX4_parse 100 = .ok (.dup, 1) := by decide +kernel
theorem dX4_parse_101 : decode cX4_parse 101 = .ok (.getfield 61, 3) := by decide +kernel
theorem dX4_parse_104 : decode cX4_parse 104 = .ok (.iconst 1, 1) := by decide +kernel
theorem dX4_parse_105 : decode cX4_parse 105 = .ok (.isub, 1) := by decide +kernel
theorem dX4_parse_106 : decode cX4_parse 106 = .ok (.putfield 61, 3) := by decide +kernel
theorem dX4_parse_109 : decode cX4_parse 109 = .ok (.goto (-57), 3) := by decide +kernel
theorem dX4_parse_112 : decode cX4_parse 112 = .ok (.aload_n 0, 1) := by decide +kernel
theorem dX4_parse_113 : decode cX4_parse 113 = .ok (.getfield 61, 3) := by decide +kernel
theorem dX4_parse_116 : decode cX4_parse 116 = .ok (.ifCond .le 7, 3) := by decide +kernel
theorem dX4_parse_119 : decode cX4_parse 119 = .ok (.iconst 1, 1) := by decide +kernel
theorem dX4_parse_120 : decode cX4_parse 120 = .ok (.goto 4, 3) := by decide +kernel
theorem dX4_parse_123 : decode cX4_parse 123 = .ok (.iconst 0, 1) := by decide +kernel
theorem dX4_parse_124 : decode cX4_parse 124 = .ok (.istore_n 1, 1) := by decide +kernel
theorem dX4_parse_125 : decode cX4_parse 125 = .ok (.iload_n 1, 1) := by decide +kernel
theorem dX4_parse_126 : decode cX4_parse 126 = .ok (.ifCond .eq (-85), 3) := by decide +kernel
theorem dX4_parse_129 : decode cX4_parse 129 = .ok (.aload_n 0, 1) := by decide +kernel
theorem dX4_parse_130 : decode cX4_parse 130 = .ok (.invokevirtual 88, 3) := by decide +kernel
theorem dX4_parse_133 : decode cX4_parse 133 = .ok (.goto (-92), 3) := by decide +kernel
theorem dX4_parse_136 : decode cX4_parse 136 = .ok (.aload_n 0, 1) := by decide +kernel
theorem dX4_parse_137 : decode cX4_parse 137 = .ok (.getfield 55, 3) := by decide +kernel
theorem dX4_parse_140 : decode cX4_parse 140 = .ok (.ifCond .ne 24, 3) := by decide +kernel
theorem dX4_parse_143 : decode cX4_parse 143 = .ok (.aload_n 0, 1) := by decide +kernel
theorem dX4_parse_144 : decode cX4_parse 144 = .ok (.getfield 72, 3) := by decide +kernel
theorem dX4_parse_147 : decode cX4_parse 147 = .ok (.aload_n 0, 1) := by decide +kernel
theorem dX4_parse_148 : decode cX4_parse 148 = .ok (.getfield 48, 3) := by decide +kernel
theorem dX4_parse_151 : decode cX4_parse 151 = .ok (.if_icmp .ge 13, 3) := by decide +kernel
theorem dX4_parse_154 : decode cX4_parse 154 = .ok (.aload_n 0, 1) := by decide +kernel
theorem dX4_parse_155 : decode cX4_parse 155 = .ok (.bipush (-6), 2) := by decide +kernel
theorem dX4_parse_157 : decode cX4_parse 157 = .ok (.aload_n 0, 1) := by decide +kernel
theorem dX4_parse_158 : decode cX4_parse 158 = .ok (.getfield 72, 3) := by decide +kernel
theorem dX4_parse_161 : decode cX4_parse 161 = .ok (.invokevirtual 64, 3) := by decide +kernel
theorem dX4_parse_164 : decode cX4_parse 164 = .ok (.aload_n 0, 1) := by decide +kernel
theorem dX4_parse_165 : decode cX4_parse 165 = .ok (.aload_n 0, 1) := by decide +kernel
theorem dX4_parse_166 : decode cX4_parse 166 = .ok (.getfield 58, 3) := by decide +kernel
theorem dX4_parse_169 : decode cX4_parse 169 = .ok (.putfield 25, 3) := by decide +kernel
theorem dX4_parse_172 : decode cX4_parse 172 = .ok (.aload_n 0, 1) := by decide +kernel
theorem dX4_parse_173 : decode cX4_parse 173 = .ok (.aload_n 0, 1) := by decide +kernel
theorem dX4_parse_174 : decode cX4_parse 174 = .ok (.getfield 55, 3) := by decide +kernel
theorem dX4_parse_177 : decode cX4_parse 177 = .ok (.ifCond .ne 7, 3) := by decide +kernel
theorem dX4_parse_180 : decode cX4_parse 180 = .ok (.iconst 1, 1) := by decide +kernel
theorem dX4_parse_181 : decode cX4_parse 181 = .ok (.goto 4, 3) := by decide +kernel
theorem dX4_parse_184 : decode cX4_parse 184 = .ok (.iconst 0, 1) := by decide +kernel
theorem dX4_parse_185 : decode cX4_parse 185 = .ok (.putfield 51, 3) := by decide +kernel
theorem dX4_parse_188 : decode cX4_parse 188 = .ok (.aload_n 0, 1) := by decide +kernel
theorem dX4_parse_189 : decode cX4_parse 189 = .ok (.aload_n 0, 1) := by decide +kernel
theorem dX4_parse_190 : decode cX4_parse 190 = .ok (.getfield 78, 3) := by decide +kernel
theorem dX4_parse_193 : decode cX4_parse 193 = .ok (.putfield 91, 3) := by decide +kernel
theorem dX4_parse_196 : decode cX4_parse 196 = .ok (.aload_n 0, 1) := by decide +kernel
theorem dX4_parse_197 : decode cX4_parse 197 = .ok (.getfield 55, 3) := by decide +kernel
theorem dX4_parse_200 : decode cX4_parse 200 = .ok (.ireturn, 1) := by decide +kernel
end
section
theorem dX4_offence_0 : decode cX4_offence 0 = .ok (.aload_n 0, 1) := by decide +kernel
theorem dX4_offence_1 : decode cX4_offence 1 = .ok (.iconst 0, 1) := by decide +kernel
theorem dX4_offence_2 : decode cX4_offence 2 = .ok (.putfield 41, 3) := by decide +kernel
theorem dX4_offence_5 : decode cX4_offence 5 = .ok (.aload_n 0, 1) := by decide +kernel
theorem dX4_offence_6 : decode cX4_offence 6 = .ok (.getfield 25, 3) := by decide +kernel
theorem dX4_offence_9 : decode cX4_offence 9 = .ok (.ireturn, 1) := by decide +kernel
theorem dX4_nodeCount_0 : decode cX4_nodeCount 0 = .ok (.aload_n 0, 1) := by decide +kernel
theorem dX4_nodeCount_1 : decode cX4_nodeCount 1 = .ok (.iconst 0, 1) := by decide +kernel
theorem dX4_nodeCount_2 : decode cX4_nodeCount 2 = .ok (.putfield 41, 3) := by decide +kernel
theorem dX4_nodeCount_5 : decode cX4_nodeCount 5 = .ok (.aload_n 0, 1) := by decide +kernel
theorem dX4_nodeCount_6 : decode cX4_nodeCount 6 = .ok (.getfield 51, 3) := by decide +kernel
theorem dX4_nodeCount_9 : decode cX4_nodeCount 9 = .ok (.ifCond .eq 10, 3) := by decide +kernel
theorem dX4_nodeCount_12 : decode cX4_nodeCount 12 = .ok (.aload_n 0, 1) := by decide +kernel
theorem dX4_nodeCount_13 : decode cX4_nodeCount 13 = .ok (.getfield 91, 3) := by decide +kernel
theorem dX4_nodeCount_16 : decode cX4_nodeCount 16 = .ok (.goto 4, 3) := by decide +kernel
theorem dX4_nodeCount_19 : decode cX4_nodeCount 19 = .ok (.iconst 0, 1) := by decide +kernel
theorem dX4_nodeCount_20 : decode cX4_nodeCount 20 = .ok (.ireturn, 1) := by decide +kernel
theorem dX4_isNode_0 : decode cX4_isNode 0 = .ok (.aload_n 0, 1) := by decide +kernel
theorem dX4_isNode_1 : decode cX4_isNode 1 = .ok (.iconst 0, 1) := by decide +kernel
theorem dX4_isNode_2 : decode cX4_isNode 2 = .ok (.putfield 41, 3) := by decide +kernel
theorem dX4_isNode_5 : decode cX4_isNode 5 = .ok (.aload_n 0, 1) := by decide +kernel
theorem dX4_isNode_6 : decode cX4_isNode 6 = .ok (.getfield 51, 3) := by decide +kernel
theorem dX4_isNode_9 : decode cX4_isNode 9 = .ok (.ifCond .eq 19, 3) := by decide +kernel
theorem dX4_isNode_12 : decode cX4_isNode 12 = .ok (.iload_n 1, 1) := by decide +kernel
theorem dX4_isNode_13 : decode cX4_isNode 13 = .ok (.ifCond .lt 15, 3) := by decide +kernel
theorem dX4_isNode_16 : decode cX4_isNode 16 = .ok (.iload_n 1, 1) := by decide +kernel
theorem dX4_isNode_17 : decode cX4_isNode 17 = .ok (.aload_n 0, 1) := by decide +kernel
theorem dX4_isNode_18 : decode cX4_isNode 18 = .ok (.getfield 91, 3) := by decide +kernel
theorem dX4_isNode_21 : decode cX4_isNode 21 = .ok (.if_icmp .ge 7, 3) := by decide +kernel
theorem dX4_isNode_24 : decode cX4_isNode 24 = .ok (.iconst 1, 1) := by decide +kernel
theorem dX4_isNode_25 : decode cX4_isNode 25 = .ok (.goto 4, 3) := by decide +kernel
theorem dX4_isNode_28 : decode cX4_isNode 28 = .ok (.iconst 0, 1) := by decide +kernel
theorem dX4_isNode_29 : decode cX4_isNode 29 = .ok (.ireturn, 1) := by decide +kernel
set_option maxRecDepth 20000 in
theorem ggX4_tagOf_X4_isNode : GoodIn wsX4_tagOf wsX4_isNode := goodIn_r _ [6, 7, 8, 9, 10, 11, 12, 13, 14, 15, 16, 17, 18, 19, 20, 21, 22, 23, 24, 25, 26, 27, 28, 29, 30, 31] (by decide +kernel) (by decide +kernel)
set_option maxRecDepth 20000 in
theorem gX4_tagOf_X4_isNode : GoodIn wsX4_tagOf (wsV RX4 94 RX4 yX4_isNode wsX4_isNode) := goodIn_app (goodIn_of _ (by decide +kernel)) ggX4_tagOf_X4_isNode
theorem dX4_tagOf_0 : decode cX4_tagOf 0 = .ok (.aload_n 0, 1) := by decide +kernel
theorem dX4_tagOf_1 : decode cX4_tagOf 1 = .ok (.iload_n 1, 1) := by decide +kernel
theorem dX4_tagOf_2 : decode cX4_tagOf 2 = .ok (.invokevirtual 94, 3) := by decide +kernel
theorem dX4_tagOf_5 : decode cX4_tagOf 5 = .ok (.ifCond .eq 12, 3) := by decide +kernel
theorem dX4_tagOf_8 : decode cX4_tagOf 8 = .ok (.aload_n 0, 1) := by decide +kernel
theorem dX4_tagOf_9 : decode cX4_tagOf 9 = .ok (.getfield 13, 3) := by decide +kernel
theorem dX4_tagOf_12 : decode cX4_tagOf 12 = .ok (.iload_n 1, 1) := by decide +kernel
theorem dX4_tagOf_13 : decode cX4_tagOf 13 = .ok (.iaload, 1) := by decide +kernel
theorem dX4_tagOf_14 : decode cX4_tagOf 14 = .ok (.goto 4, 3) := by decide +kernel
theorem dX4_tagOf_17 : decode cX4_tagOf 17 = .ok (.iconst (-1), 1) := by decide +kernel
theorem dX4_tagOf_18 : decode cX4_tagOf 18 = .ok (.ireturn, 1) := by decide +kernel
set_option maxRecDepth 20000 in
theorem ggX4_contentAt_X4_isNode : GoodIn wsX4_contentAt wsX4_isNode := goodIn_r _ [6, 7, 8, 9, 10, 11, 12, 13, 14, 15, 16, 17, 18, 19, 20, 21, 22, 23, 24, 25, 26, 27, 28, 29, 30, 31] (by decide +kernel) (by decide +kernel)
set_option maxRecDepth 20000 in
theorem gX4_contentAt_X4_isNode : GoodIn wsX4_contentAt (wsV RX4 94 RX4 yX4_isNode wsX4_isNode) := goodIn_app (goodIn_of _ (by decide +kernel)) ggX4_contentAt_X4_isNode
theorem dX4_contentAt_0 : decode cX4_contentAt 0 = .ok (.aload_n 0, 1) := by decide +kernel
theorem dX4_contentAt_1 : decode cX4_contentAt 1 = .ok (.iload_n 1, 1) := by decide +kernel
theorem dX4_contentAt_2 : decode cX4_contentAt 2 = .ok (.invokevirtual 94, 3) := by decide +kernel
theorem dX4_contentAt_5 : decode cX4_contentAt 5 = .ok (.ifCond .eq 12, 3) := by decide +kernel
theorem dX4_contentAt_8 : decode cX4_contentAt 8 = .ok (.aload_n 0, 1) := by decide +kernel
theorem dX4_contentAt_9 : decode cX4_contentAt 9 = .ok (.getfield 16, 3) := by decide +kernel
theorem dX4_contentAt_12 : decode cX4_contentAt 12 = .ok (.iload_n 1, 1) := by decide +kernel
theorem dX4_contentAt_13 : decode cX4_contentAt 13 = .ok (.iaload, 1) := by decide +kernel
theorem dX4_contentAt_14 : decode cX4_contentAt 14 = .ok (.goto 4, 3) := by decide +kernel
theorem dX4_contentAt_17 : decode cX4_contentAt 17 = .ok (.iconst (-1), 1) := by decide +kernel
theorem dX4_contentAt_18 : decode cX4_contentAt 18 = .ok (.ireturn, 1) := by decide +kernel
set_option maxRecDepth 20000 in
theorem ggX4_contentLen_X4_isNode : GoodIn wsX4_contentLen wsX4_isNode := goodIn_r _ [6, 7, 8, 9, 10, 11, 12, 13, 14, 15, 16, 17, 18, 19, 20, 21, 22, 23, 24, 25, 26, 27, 28, 29, 30, 31] (by decide +kernel) (by decide +kernel)
set_option maxRecDepth 20000 in
theorem gX4_contentLen_X4_isNode : GoodIn wsX4_contentLen (wsV RX4 94 RX4 yX4_isNode wsX4_isNode) := goodIn_app (goodIn_of _ (by decide +kernel)) ggX4_contentLen_X4_isNode
theorem dX4_contentLen_0 : decode cX4_contentLen 0 = .ok (.aload_n 0, 1) := by decide +kernel
theorem dX4_contentLen_1 : decode cX4_contentLen 1 = .ok (.iload_n 1, 1) := by decide +kernel
theorem dX4_contentLen_2 : decode cX4_contentLen 2 = .ok (.invokevirtual 94, 3) := by decide +kernel
theorem dX4_contentLen_5 : decode cX4_contentLen 5 = .ok (.ifCond .eq 12, 3) := by decide +kernel
theorem dX4_contentLen_8 : decode cX4_contentLen 8 = .ok (.aload_n 0, 1) := by decide +kernel
theorem dX4_contentLen_9 : decode cX4_contentLen 9 = .ok (.getfield 19, 3) := by decide +kernel
theorem dX4_contentLen_12 : decode cX4_contentLen 12 = .ok (.iload_n 1, 1) := by decide +kernel
theorem dX4_contentLen_13 : decode cX4_contentLen 13 = .ok (.iaload, 1) := by decide +kernel
theorem dX4_contentLen_14 : decode cX4_contentLen 14 = .ok (.goto 4, 3) := by decide +kernel
theorem dX4_contentLen_17 : decode cX4_contentLen 17 = .ok (.iconst (-1), 1) := by decide +kernel
theorem dX4_contentLen_18 : decode cX4_contentLen 18 = .ok (.ireturn, 1) := by decide +kernel
set_option maxRecDepth 20000 in
theorem ggX4_parent_X4_isNode : GoodIn wsX4_parent wsX4_isNode := goodIn_r _ [6, 7, 8, 9, 10, 11, 12, 13, 14, 15, 16, 17, 18, 19, 20, 21, 22, 23, 24, 25, 26, 27, 28, 29, 30, 31] (by decide +kernel) (by decide +kernel)
set_option maxRecDepth 20000 in
theorem gX4_parent_X4_isNode : GoodIn wsX4_parent (wsV RX4 94 RX4 yX4_isNode wsX4_isNode) := goodIn_app (goodIn_of _ (by decide +kernel)) ggX4_parent_X4_isNode
theorem dX4_parent_0 : decode cX4_parent 0 = .ok (.aload_n 0, 1) := by decide +kernel
theorem dX4_parent_1 : decode cX4_parent 1 = .ok (.iload_n 1, 1) := by decide +kernel
theorem dX4_parent_2 : decode cX4_parent 2 = .ok (.invokevirtual 94, 3) := by decide +kernel
theorem dX4_parent_5 : decode cX4_parent 5 = .ok (.ifCond .eq 12, 3) := by decide +kernel
theorem dX4_parent_8 : decode cX4_parent 8 = .ok (.aload_n 0, 1) := by decide +kernel
theorem dX4_parent_9 : decode cX4_parent 9 = .ok (.getfield 22, 3) := by decide +kernel
theorem dX4_parent_12 : decode cX4_parent 12 = .ok (.iload_n 1, 1) := by decide +kernel
theorem dX4_parent_13 : decode cX4_parent 13 = .ok (.iaload, 1) := by decide +kernel
theorem dX4_parent_14 : decode cX4_parent 14 = .ok (.goto 4, 3) := by decide +kernel
theorem dX4_parent_17 : decode cX4_parent 17 = .ok (.iconst (-1), 1) := by decide +kernel
theorem dX4_parent_18 : decode cX4_parent 18 = .ok (.ireturn, 1) := by decide +kernel
set_option maxRecDepth 20000 in
theorem ggX4_oidArc_X4_isNode : GoodIn wsX4_oidArc wsX4_isNode := goodIn_r _ [15, 16, 17, 18, 19, 20, 21, 22, 23, 24, 25, 26, 27, 28, 29, 30, 31, 32, 33, 34, 35, 36, 37, 38, 39, 40] (by decide +kernel) (by decide +kernel)
set_option maxRecDepth 20000 in
theorem gX4_oidArc_X4_isNode : GoodIn wsX4_oidArc (wsV RX4 94 RX4 yX4_isNode wsX4_isNode) := goodIn_app (goodIn_of _ (by decide +kernel)) ggX4_oidArc_X4_isNode
theorem dX4_oidArc_0 : decode cX4_oidArc 0 = .ok (.aload_n 0, 1) := by decide +kernel
theorem dX4_oidArc_1 : decode cX4_oidArc 1 = .ok (.iload_n 1, 1) := by decide +kernel
theorem dX4_oidArc_2 : decode cX4_oidArc 2 = .ok (.invokevirtual 94, 3) := by decide +kernel
theorem dX4_oidArc_5 : decode cX4_oidArc 5 = .ok (.ifCond .eq 18, 3) := by decide +kernel
theorem dX4_oidArc_8 : decode cX4_oidArc 8 = .ok (.aload_n 0, 1) := by decide +kernel
theorem dX4_oidArc_9 : decode cX4_oidArc 9 = .ok (.getfield 13, 3) := by decide +kernel
theorem dX4_oidArc_12 : decode cX4_oidArc 12 = .ok (.iload_n 1, 1) := by decide +kernel
theorem dX4_oidArc_13 : decode cX4_oidArc 13 = .ok (.iaload, 1) := by decide +kernel
theorem dX4_oidArc_14 : decode cX4_oidArc 14 = .ok (.bipush 6, 2) := by decide +kernel
theorem dX4_oidArc_16 : decode cX4_oidArc 16 = .ok (.if_icmp .ne 7, 3) := by decide +kernel
theorem dX4_oidArc_19 : decode cX4_oidArc 19 = .ok (.iload_n 2, 1) := by decide +kernel
theorem dX4_oidArc_20 : decode cX4_oidArc 20 = .ok (.ifCond .ge 5, 3) := by decide +kernel
theorem dX4_oidArc_23 : decode cX4_oidArc 23 = .ok (.iconst (-1), 1) := by decide +kernel
theorem dX4_oidArc_24 : decode cX4_oidArc 24 = .ok (.ireturn, 1) := by decide +kernel
theorem dX4_oidArc_25 : decode cX4_oidArc 25 = .ok (.iconst 0, 1) := by decide +kernel
theorem dX4_oidArc_26 : decode cX4_oidArc 26 = .ok (.istore_n 3, 1) := by decide +kernel
theorem dX4_oidArc_27 : decode cX4_oidArc 27 = .ok (.lconst 0, 1) := by decide +kernel
theorem dX4_oidArc_28 : decode cX4_oidArc 28 = .ok (.lstore 4, 2) := by decide +kernel
theorem dX4_oidArc_30 : decode cX4_oidArc 30 = .ok (.iconst 0, 1) := by decide +kernel
theorem dX4_oidArc_31 : decode cX4_oidArc 31 = .ok (.istore 6, 2) := by decide +kernel
theorem dX4_oidArc_33 : decode cX4_oidArc 33 = .ok (.iload 6, 2) := by decide +kernel
theorem dX4_oidArc_35 : decode cX4_oidArc 35 = .ok (.aload_n 0, 1) := by decide +kernel
theorem dX4_oidArc_36 : decode cX4_oidArc 36 = .ok (.getfield 19, 3) := by decide +kernel
theorem dX4_oidArc_39 : decode cX4_oidArc 39 = .ok (.iload_n 1, 1) := by decide +kernel
theorem dX4_oidArc_40 : decode cX4_oidArc 40 = .ok (.iaload, 1) := by decide +kernel
theorem dX4_oidArc_41 : decode cX4_oidArc 41 = .ok (.if_icmp .ge 150, 3) := by decide +kernel
theorem dX4_oidArc_44 : decode cX4_oidArc 44 = .ok (.aload_n 0, 1) := by decide +kernel
theorem dX4_oidArc_45 : decode cX4_oidArc 45 = .ok (.getfield 7, 3) := by decide +kernel
theorem dX4_oidArc_48 : decode cX4_oidArc 48 = .ok (.aload_n 0, 1) := by decide +kernel
theorem dX4_oidArc_49 : decode cX4_oidArc 49 = .ok (.getfield 16, 3) := by decide +kernel
theorem dX4_oidArc_52 : decode cX4_oidArc 52 = .ok (.iload_n 1, 1) := by decide +kernel
theorem dX4_oidArc_53 : decode cX4_oidArc 53 = .ok (.iaload, 1) := by decide +kernel
theorem dX4_oidArc_54 : decode cX4_oidArc 54 = .ok (.iload 6, 2) := by decide +kernel
theorem dX4_oidArc_56 : decode cX4_oidArc 56 = .ok (.iadd, 1) := by decide +kernel
theorem dX4_oidArc_57 : decode cX4_oidArc 57 = .ok (.iaload, 1) := by decide +kernel
theorem dX4_oidArc_58 : decode cX4_oidArc 58 = .ok (.istore 7, 2) := by decide +kernel
theorem dX4_oidArc_60 : decode cX4_oidArc 60 = .ok (.lload 4, 2) := by decide +kernel
theorem dX4_oidArc_62 : decode cX4_oidArc 62 = .ok (.ldc2_w 97, 3) := by decide +kernel
theorem dX4_oidArc_65 : decode cX4_oidArc 65 = .ok (.lcmp, 1) := by decide +kernel
theorem dX4_oidArc_66 : decode cX4_oidArc 66 = .ok (.ifCond .le 8, 3) := by decide +kernel
theorem dX4_oidArc_69 : decode cX4_oidArc 69 = .ok (.lload 4, 2) := by decide +kernel
theorem dX4_oidArc_71 : decode cX4_oidArc 71 = .ok (.goto 17, 3) := by decide +kernel
theorem dX4_oidArc_74 : decode cX4_oidArc 74 = .ok (.ldc2_w 99, 3) := by decide +kernel
theorem dX4_oidArc_77 : decode cX4_oidArc 77 = .ok (.lload 4, 2) := by decide +kernel
theorem dX4_oidArc_79 : decode cX4_oidArc 79 = .ok (.lmul, 1) := by decide +kernel
theorem dX4_oidArc_80 : decode cX4_oidArc 80 = .ok (.iload 7, 2) := by decide +kernel
theorem dX4_oidArc_82 : decode cX4_oidArc 82 = .ok (.sipush 128, 3) := by decide +kernel
theorem dX4_oidArc_85 : decode cX4_oidArc 85 = .ok (.irem, 1) := by decide +kernel
theorem dX4_oidArc_86 : decode cX4_oidArc 86 = .ok (.i2l, 1) := by decide +kernel
theorem dX4_oidArc_87 : decode cX4_oidArc 87 = .ok (.ladd, 1) := by decide +kernel
theorem dX4_oidArc_88 : decode cX4_oidArc 88 = .ok (.lstore 4, 2) := by decide +kernel
theorem dX4_oidArc_90 : decode cX4_oidArc 90 = .ok (.iload 7, 2) := by decide +kernel
theorem dX4_oidArc_92 : decode cX4_oidArc 92 = .ok (.bipush 127, 2) := by decide +kernel
theorem dX4_oidArc_94 : decode cX4_oidArc 94 = .ok (.if_icmp .le 6, 3) := by decide +kernel
theorem dX4_oidArc_97 : decode cX4_oidArc 97 = .ok (.goto 88, 3) := by decide +kernel
theorem dX4_oidArc_100 : decode cX4_oidArc 100 = .ok (.iload_n 3, 1) := by decide +kernel
theorem dX4_oidArc_101 : decode cX4_oidArc 101 = .ok (.ifCond .ne 55, 3) := by decide +kernel
theorem dX4_oidArc_104 : decode cX4_oidArc 104 = .ok (.lload 4, 2) := by decide +kernel
theorem dX4_oidArc_106 : decode cX4_oidArc 106 = .ok (.ldc2_w 101, 3) := by decide +kernel
theorem dX4_oidArc_109 : decode cX4_oidArc 109 = .ok (.lcmp, 1) := by decide +kernel
theorem dX4_oidArc_110 : decode cX4_oidArc 110 = .ok (.ifCond .ge 7, 3) := by decide +kernel
theorem dX4_oidArc_113 : decode cX4_oidArc 113 = .ok (.lconst 0, 1) := by decide +kernel
theorem dX4_oidArc_114 : decode cX4_oidArc 114 = .ok (.goto 19, 3) := by decide +kernel
theorem dX4_oidArc_117 : decode cX4_oidArc 117 = .ok (.lload 4, 2) := by decide +kernel
theorem dX4_oidArc_119 : decode cX4_oidArc 119 = .ok (.ldc2_w 103, 3) := by decide +kernel
theorem dX4_oidArc_122 : decode cX4_oidArc 122 = .ok (.lcmp, 1) := by decide +kernel
theorem dX4_oidArc_123 : decode cX4_oidArc 123 = .ok (.ifCond .ge 7, 3) := by decide +kernel
theorem dX4_oidArc_126 : decode cX4_oidArc 126 = .ok (.lconst 1, 1) := by decide +kernel
theorem dX4_oidArc_127 : decode cX4_oidArc 127 = .ok (.goto 6, 3) := by decide +kernel
theorem dX4_oidArc_130 : decode cX4_oidArc 130 = .ok (.ldc2_w 105, 3) := by decide +kernel
theorem dX4_oidArc_133 : decode cX4_oidArc 133 = .ok (.lstore 8, 2) := by decide +kernel
theorem dX4_oidArc_135 : decode cX4_oidArc 135 = .ok (.iload_n 2, 1) := by decide +kernel
theorem dX4_oidArc_136 : decode cX4_oidArc 136 = .ok (.ifCond .ne 7, 3) := by decide +kernel
theorem dX4_oidArc_139 : decode cX4_oidArc 139 = .ok (.lload 8, 2) := by decide +kernel
theorem dX4_oidArc_141 : decode cX4_oidArc 141 = .ok (.l2i, 1) := by decide +kernel
theorem dX4_oidArc_142 : decode cX4_oidArc 142 = .ok (.ireturn, 1) := by decide +kernel
theorem dX4_oidArc_143 : decode cX4_oidArc 143 = .ok (.lload 4, 2) := by decide +kernel
theorem dX4_oidArc_145 : decode cX4_oidArc 145 = .ok (.ldc2_w 101, 3) := by decide +kernel
theorem dX4_oidArc_148 : decode cX4_oidArc 148 = .ok (.lload 8, 2) := by decide +kernel
theorem dX4_oidArc_150 : decode cX4_oidArc 150 = .ok (.lmul, 1) := by decide +kernel
theorem dX4_oidArc_151 : decode cX4_oidArc 151 = .ok (.lsub, 1) := by decide +kernel
theorem dX4_oidArc_152 : decode cX4_oidArc 152 = .ok (.lstore 4, 2) := by decide +kernel
theorem dX4_oidArc_154 : decode cX4_oidArc 154 = .ok (.iconst 1, 1) := by decide +kernel
theorem dX4_oidArc_155 : decode cX4_oidArc 155 = .ok (.istore_n 3, 1) := by decide +kernel
theorem dX4_oidArc_156 : decode cX4_oidArc 156 = .ok (.iload_n 3, 1) := by decide +kernel
theorem dX4_oidArc_157 : decode cX4_oidArc 157 = .ok (.iload_n 2, 1) := by decide +kernel
theorem dX4_oidArc_158 : decode cX4_oidArc 158 = .ok (.if_icmp .ne 21, 3) := by decide +kernel
theorem dX4_oidArc_161 : decode cX4_oidArc 161 = .ok (.lload 4, 2) := by decide +kernel
theorem dX4_oidArc_163 : decode cX4_oidArc 163 = .ok (.ldc2_w 107, 3) := by decide +kernel
theorem dX4_oidArc_166 : decode cX4_oidArc 166 = .ok (.lcmp, 1) := by decide +kernel
theorem dX4_oidArc_167 : decode cX4_oidArc 167 = .ok (.ifCond .le 8, 3) := by decide +kernel
theorem dX4_oidArc_170 : decode cX4_oidArc 170 = .ok (.bipush (-2), 2) := by decide +kernel
theorem dX4_oidArc_172 : decode cX4_oidArc 172 = .ok (.goto 6, 3) := by decide +kernel
theorem dX4_oidArc_175 : decode cX4_oidArc 175 = .ok (.lload 4, 2) := by decide +kernel
theorem dX4_oidArc_177 : decode cX4_oidArc 177 = .ok (.l2i, 1) := by decide +kernel
theorem dX4_oidArc_178 : decode cX4_oidArc 178 = .ok (.ireturn, 1) := by decide +kernel
theorem dX4_oidArc_179 : decode cX4_oidArc 179 = .ok (.iinc 3 1, 3) := by decide +kernel
theorem dX4_oidArc_182 : decode cX4_oidArc 182 = .ok (.lconst 0, 1) := by decide +kernel
theorem dX4_oidArc_183 : decode cX4_oidArc 183 = .ok (.lstore 4, 2) := by decide +kernel
theorem dX4_oidArc_185 : decode cX4_oidArc 185 = .ok (.iinc 6 1, 3) := by decide +kernel
theorem dX4_oidArc_188 : decode cX4_oidArc 188 = .ok (.goto (-155), 3) := by decide +kernel
theorem dX4_oidArc_191 : decode cX4_oidArc 191 = .ok (.iconst (-1), 1) := by decide +kernel
theorem dX4_oidArc_192 : decode cX4_oidArc 192 = .ok (.ireturn, 1) := by decide +kernel
set_option maxRecDepth 20000 in
theorem ggX4_intFits_X4_isNode : GoodIn wsX4_intFits wsX4_isNode := goodIn_r _ [7, 8, 9, 10, 11, 12, 13, 14, 15, 16, 17, 18, 19, 20, 21, 22, 23, 24, 25, 26, 27, 28, 29, 30, 31, 32] (by decide +kernel) (by decide +kernel)
set_option maxRecDepth 20000 in
theorem gX4_intFits_X4_isNode : GoodIn wsX4_intFits (wsV RX4 94 RX4 yX4_isNode wsX4_isNode) := goodIn_app (goodIn_of _ (by decide +kernel)) ggX4_intFits_X4_isNode
theorem dX4_intFits_0 : decode cX4_intFits 0 = .ok (.aload_n 0, 1) := by decide +kernel
theorem dX4_intFits_1 : decode cX4_intFits 1 = .ok (.iload_n 1, 1) := by decide +kernel
theorem dX4_intFits_2 : decode cX4_intFits 2 = .ok (.invokevirtual 94, 3) := by decide +kernel
theorem dX4_intFits_5 : decode cX4_intFits 5 = .ok (.ifCond .eq 27, 3) := by decide +kernel
theorem dX4_intFits_8 : decode cX4_intFits 8 = .ok (.aload_n 0, 1) := by decide +kernel
theorem dX4_intFits_9 : decode cX4_intFits 9 = .ok (.getfield 13, 3) := by decide +kernel
theorem dX4_intFits_12 : decode cX4_intFits 12 = .ok (.iload_n 1, 1) := by decide +kernel
theorem dX4_intFits_13 : decode cX4_intFits 13 = .ok (.iaload, 1) := by decide +kernel
theorem dX4_intFits_14 : decode cX4_intFits 14 = .ok (.iconst 2, 1) := by decide +kernel
theorem dX4_intFits_15 : decode cX4_intFits 15 = .ok (.if_icmp .ne 17, 3) := by decide +kernel
theorem dX4_intFits_18 : decode cX4_intFits 18 = .ok (.aload_n 0, 1) := by decide +kernel
theorem dX4_intFits_19 : decode cX4_intFits 19 = .ok (.getfield 19, 3) := by decide +kernel
theorem dX4_intFits_22 : decode cX4_intFits 22 = .ok (.iload_n 1, 1) := by decide +kernel
theorem dX4_intFits_23 : decode cX4_intFits 23 = .ok (.iaload, 1) := by decide +kernel
theorem dX4_intFits_24 : decode cX4_intFits 24 = .ok (.iconst 4, 1) := by decide +kernel
theorem dX4_intFits_25 : decode cX4_intFits 25 = .ok (.if_icmp .gt 7, 3) := by decide +kernel
theorem dX4_intFits_28 : decode cX4_intFits 28 = .ok (.iconst 1, 1) := by decide +kernel
theorem dX4_intFits_29 : decode cX4_intFits 29 = .ok (.goto 4, 3) := by decide +kernel
theorem dX4_intFits_32 : decode cX4_intFits 32 = .ok (.iconst 0, 1) := by decide +kernel
theorem dX4_intFits_33 : decode cX4_intFits 33 = .ok (.ireturn, 1) := by decide +kernel
set_option maxRecDepth 20000 in
theorem ggX4_intValue_X4_intFits : GoodIn wsX4_intValue wsX4_intFits := goodIn_r _ [8, 9, 3, 10, 11, 12, 7, 13, 14, 15, 16, 17, 18, 19, 20, 21, 22, 23, 24, 25, 26, 27, 28, 29, 30, 31, 32, 33, 34, 35, 36, 37, 38] (by decide +kernel) (by decide +kernel)
set_option maxRecDepth 20000 in
theorem gX4_intValue_X4_intFits : GoodIn wsX4_intValue (wsV RX4 109 RX4 yX4_intFits wsX4_intFits) := goodIn_app (goodIn_of _ (by decide +kernel)) ggX4_intValue_X4_intFits
theorem dX4_intValue_0 : decode cX4_intValue 0 = .ok (.aload_n 0, 1) := by decide +kernel
theorem dX4_intValue_1 : decode cX4_intValue 1 = .ok (.iload_n 1, 1) := by decide +kernel
theorem dX4_intValue_2 : decode cX4_intValue 2 = .ok (.invokevirtual 109, 3) := by decide +kernel
theorem dX4_intValue_5 : decode cX4_intValue 5 = .ok (.ifCond .ne 5, 3) := by decide +kernel
theorem dX4_intValue_8 : decode cX4_intValue 8 = .ok (.iconst 0, 1) := by decide +kernel
theorem dX4_intValue_9 : decode cX4_intValue 9 = .ok (.ireturn, 1) := by decide +kernel
theorem dX4_intValue_10 : decode cX4_intValue 10 = .ok (.aload_n 0, 1) := by decide +kernel
theorem dX4_intValue_11 : decode cX4_intValue 11 = .ok (.getfield 7, 3) := by decide +kernel
theorem dX4_intValue_14 : decode cX4_intValue 14 = .ok (.aload_n 0, 1) := by decide +kernel
theorem dX4_intValue_15 : decode cX4_intValue 15 = .ok (.getfield 16, 3) := by decide +kernel
theorem dX4_intValue_18 : decode cX4_intValue 18 = .ok (.iload_n 1, 1) := by decide +kernel
theorem dX4_intValue_19 : decode cX4_intValue 19 = .ok (.iaload, 1) := by decide +kernel
theorem dX4_intValue_20 : decode cX4_intValue 20 = .ok (.iaload, 1) := by decide +kernel
theorem dX4_intValue_21 : decode cX4_intValue 21 = .ok (.bipush 127, 2) := by decide +kernel
theorem dX4_intValue_23 : decode cX4_intValue 23 = .ok (.if_icmp .le 7, 3) := by decide +kernel
theorem dX4_intValue_26 : decode cX4_intValue 26 = .ok (.iconst (-1), 1) := by decide +kernel
theorem dX4_intValue_27 : decode cX4_intValue 27 = .ok (.goto 4, 3) := by decide +kernel
theorem dX4_intValue_30 : decode cX4_intValue 30 = .ok (.iconst 0, 1) := by decide +kernel
theorem dX4_intValue_31 : decode cX4_intValue 31 = .ok (.istore_n 2, 1) := by decide +kernel
theorem dX4_intValue_32 : decode cX4_intValue 32 = .ok (.iconst 0, 1) := by decide +kernel
theorem dX4_intValue_33 : decode cX4_intValue 33 = .ok (.istore_n 3, 1) := by decide +kernel
theorem dX4_intValue_34 : decode cX4_intValue 34 = .ok (.iload_n 3, 1) := by decide +kernel
theorem dX4_intValue_35 : decode cX4_intValue 35 = .ok (.aload_n 0, 1) := by decide +kernel
theorem dX4_intValue_36 : decode cX4_intValue 36 = .ok (.getfield 19, 3) := by decide +kernel
theorem dX4_intValue_39 : decode cX4_intValue 39 = .ok (.iload_n 1, 1) := by decide +kernel
theorem dX4_intValue_40 : decode cX4_intValue 40 = .ok (.iaload, 1) := by decide +kernel
theorem dX4_intValue_41 : decode cX4_intValue 41 = .ok (.if_icmp .ge 28, 3) := by decide +kernel
theorem dX4_intValue_44 : decode cX4_intValue 44 = .ok (.iload_n 2, 1) := by decide +kernel
theorem dX4_intValue_45 : decode cX4_intValue 45 = .ok (.bipush 8, 2) := by decide +kernel
theorem dX4_intValue_47 : decode cX4_intValue 47 = .ok (.ishl, 1) := by decide +kernel
theorem dX4_intValue_48 : decode cX4_intValue 48 = .ok (.aload_n 0, 1) := by decide +kernel
theorem dX4_intValue_49 : decode cX4_intValue 49 = .ok (.getfield 7, 3) := by decide +kernel
theorem dX4_intValue_52 : decode cX4_intValue 52 = .ok (.aload_n 0, 1) := by decide +kernel
theorem dX4_intValue_53 : decode cX4_intValue 53 = .ok (.getfield 16, 3) := by decide +kernel
theorem dX4_intValue_56 : decode cX4_intValue 56 = .ok (.iload_n 1, 1) := by decide +kernel
theorem dX4_intValue_57 : decode cX4_intValue 57 = .ok (.iaload, 1) := by decide +kernel
theorem dX4_intValue_58 : decode cX4_intValue 58 = .ok (.iload_n 3, 1) := by decide +kernel
theorem dX4_intValue_59 : decode cX4_intValue 59 = .ok (.iadd, 1) := by decide +kernel
theorem dX4_intValue_60 : decode cX4_intValue 60 = .ok (.iaload, 1) := by decide +kernel
theorem dX4_intValue_61 : decode cX4_intValue 61 = .ok (.ior, 1) := by decide +kernel
theorem dX4_intValue_62 : decode cX4_intValue 62 = .ok (.istore_n 2, 1) := by decide +kernel
theorem dX4_intValue_63 : decode cX4_intValue 63 = .ok (.iinc 3 1, 3) := by decide +kernel
theorem dX4_intValue_66 : decode cX4_intValue 66 = .ok (.goto (-32), 3) := by decide +kernel
theorem dX4_intValue_69 : decode cX4_intValue 69 = .ok (.iload_n 2, 1) := by decide +kernel
theorem dX4_intValue_70 : decode cX4_intValue 70 = .ok (.ireturn, 1) := by decide +kernel
theorem dX4_restart_0 : decode cX4_restart 0 = .ok (.aload_n 0, 1) := by decide +kernel
theorem dX4_restart_1 : decode cX4_restart 1 = .ok (.iconst 0, 1) := by decide +kernel
theorem dX4_restart_2 : decode cX4_restart 2 = .ok (.putfield 41, 3) := by decide +kernel
theorem dX4_restart_5 : decode cX4_restart 5 = .ok (.aload_n 0, 1) := by decide +kernel
theorem dX4_restart_6 : decode cX4_restart 6 = .ok (.iconst 0, 1) := by decide +kernel
theorem dX4_restart_7 : decode cX4_restart 7 = .ok (.putfield 112, 3) := by decide +kernel
theorem dX4_restart_10 : decode cX4_restart 10 = .ok (.aload_n 0, 1) := by decide +kernel
theorem dX4_restart_11 : decode cX4_restart 11 = .ok (.iconst 0, 1) := by decide +kernel
theorem dX4_restart_12 : decode cX4_restart 12 = .ok (.putfield 115, 3) := by decide +kernel
theorem dX4_restart_15 : decode cX4_restart 15 = .ok (.aload_n 0, 1) := by decide +kernel
theorem dX4_restart_16 : decode cX4_restart 16 = .ok (.iconst 0, 1) := by decide +kernel
theorem dX4_restart_17 : decode cX4_restart 17 = .ok (.putfield 118, 3) := by decide +kernel
theorem dX4_restart_20 : decode cX4_restart 20 = .ok (.return_, 1) := by decide +kernel
theorem dX4_openTag_0 : decode cX4_openTag 0 = .ok (.aload_n 0, 1) := by decide +kernel
theorem dX4_openTag_1 : decode cX4_openTag 1 = .ok (.getfield 115, 3) := by decide +kernel
theorem dX4_openTag_4 : decode cX4_openTag 4 = .ok (.ifCond .ne 7, 3) := by decide +kernel
theorem dX4_openTag_7 : decode cX4_openTag 7 = .ok (.iconst (-1), 1) := by decide +kernel
theorem dX4_openTag_8 : decode cX4_openTag 8 = .ok (.goto 19, 3) := by decide +kernel
theorem dX4_openTag_11 : decode cX4_openTag 11 = .ok (.aload_n 0, 1) := by decide +kernel
theorem dX4_openTag_12 : decode cX4_openTag 12 = .ok (.getfield 35, 3) := by decide +kernel
theorem dX4_openTag_15 : decode cX4_openTag 15 = .ok (.aload_n 0, 1) := by decide +kernel
theorem dX4_openTag_16 : decode cX4_openTag 16 = .ok (.getfield 38, 3) := by decide +kernel
theorem dX4_openTag_19 : decode cX4_openTag 19 = .ok (.aload_n 0, 1) := by decide +kernel
theorem dX4_openTag_20 : decode cX4_openTag 20 = .ok (.getfield 115, 3) := by decide +kernel
theorem dX4_openTag_23 : decode cX4_openTag 23 = .ok (.iconst 1, 1) := by decide +kernel
theorem dX4_openTag_24 : decode cX4_openTag 24 = .ok (.isub, 1) := by decide +kernel
theorem dX4_openTag_25 : decode cX4_openTag 25 = .ok (.iaload, 1) := by decide +kernel
theorem dX4_openTag_26 : decode cX4_openTag 26 = .ok (.iaload, 1) := by decide +kernel
theorem dX4_openTag_27 : decode cX4_openTag 27 = .ok (.ireturn, 1) := by decide +kernel
set_option maxRecDepth 20000 in
theorem ggX4_begin_X4_isTag : GoodIn wsX4_begin wsX4_isTag := goodIn_r _ [10] (by decide +kernel) (by decide +kernel)
set_option maxRecDepth 20000 in
theorem gX4_begin_X4_isTag : GoodIn wsX4_begin (va_wsS RX4 75 yX4_isTag wsX4_isTag) := goodIn_app (goodIn_of _ (by decide +kernel)) ggX4_begin_X4_isTag
set_option maxRecDepth 20000 in
theorem ggX4_begin_X4_openTag : GoodIn wsX4_begin wsX4_openTag := goodIn_r _ [14, 2, 6, 5, 15, 16, 17, 18, 19, 20, 21, 22, 23, 24, 25, 26, 27, 28, 29, 30, 31, 32, 33, 34, 35, 36] (by decide +kernel) (by decide +kernel)
set_option maxRecDepth 20000 in
theorem gX4_begin_X4_openTag : GoodIn wsX4_begin (wsV RX4 121 RX4 yX4_openTag wsX4_openTag) := goodIn_app (goodIn_of _ (by decide +kernel)) ggX4_begin_X4_openTag
theorem dX4_begin_0 : decode cX4_begin 0 = .ok (.aload_n 0, 1) := by decide +kernel
theorem dX4_begin_1 : decode cX4_begin 1 = .ok (.iconst 0, 1) := by decide +kernel
theorem dX4_begin_2 : decode cX4_begin 2 = .ok (.putfield 41, 3) := by decide +kernel
theorem dX4_begin_5 : decode cX4_begin 5 = .ok (.iload_n 1, 1) := by decide +kernel
theorem dX4_begin_6 : decode cX4_begin 6 = .ok (.invokestatic 75, 3) := by decide +kernel
theorem dX4_begin_9 : decode cX4_begin 9 = .ok (.ifCond .ne 5, 3) := by decide +kernel
theorem dX4_begin_12 : decode cX4_begin 12 = .ok (.iconst (-1), 1) := by decide +kernel
theorem dX4_begin_13 : decode cX4_begin 13 = .ok (.ireturn, 1) := by decide +kernel
theorem dX4_begin_14 : decode cX4_begin 14 = .ok (.aload_n 0, 1) := by decide +kernel
theorem dX4_begin_15 : decode cX4_begin 15 = .ok (.getfield 115, 3) := by decide +kernel
theorem dX4_begin_18 : decode cX4_begin 18 = .ok (.ifCond .le 12, 3) := by decide +kernel
theorem dX4_begin_21 : decode cX4_begin 21 = .ok (.aload_n 0, 1) := by decide +kernel
theorem dX4_begin_22 : decode cX4_begin 22 = .ok (.invokevirtual 121, 3) := by decide +kernel
theorem dX4_begin_25 : decode cX4_begin 25 = .ok (.bipush 48, 2) := by decide +kernel
theorem dX4_begin_27 : decode cX4_begin 27 = .ok (.if_icmp .ne 10, 3) := by decide +kernel
theorem dX4_begin_30 : decode cX4_begin 30 = .ok (.aload_n 0, 1) := by decide +kernel
theorem dX4_begin_31 : decode cX4_begin 31 = .ok (.getfield 118, 3) := by decide +kernel
theorem dX4_begin_34 : decode cX4_begin 34 = .ok (.ifCond .eq 6, 3) := by decide +kernel
theorem dX4_begin_37 : decode cX4_begin 37 = .ok (.bipush (-2), 2) := by decide +kernel
theorem dX4_begin_39 : decode cX4_begin 39 = .ok (.ireturn, 1) := by decide +kernel
theorem dX4_begin_40 : decode cX4_begin 40 = .ok (.aload_n 0, 1) := by decide +kernel
theorem dX4_begin_41 : decode cX4_begin 41 = .ok (.getfield 115, 3) := by decide +kernel
theorem dX4_begin_44 : decode cX4_begin 44 = .ok (.bipush 16, 2) := by decide +kernel
theorem dX4_begin_46 : decode cX4_begin 46 = .ok (.if_icmp .eq 13, 3) := by decide +kernel
theorem dX4_begin_49 : decode cX4_begin 49 = .ok (.aload_n 0, 1) := by decide +kernel
theorem dX4_begin_50 : decode cX4_begin 50 = .ok (.getfield 112, 3) := by decide +kernel
theorem dX4_begin_53 : decode cX4_begin 53 = .ok (.sipush 300, 3) := by decide +kernel
theorem dX4_begin_56 : decode cX4_begin 56 = .ok (.if_icmp .ne 6, 3) := by decide +kernel
theorem dX4_begin_59 : decode cX4_begin 59 = .ok (.bipush (-3), 2) := by decide +kernel
theorem dX4_begin_61 : decode cX4_begin 61 = .ok (.ireturn, 1) := by decide +kernel
theorem dX4_begin_62 : decode cX4_begin 62 = .ok (.aload_n 0, 1) := by decide +kernel
theorem dX4_begin_63 : decode cX4_begin 63 = .ok (.getfield 38, 3) := by decide +kernel
theorem dX4_begin_66 : decode cX4_begin 66 = .ok (.aload_n 0, 1) := by decide +kernel
theorem dX4_begin_67 : decode cX4_begin 67 = .ok (.getfield 115, 3) := by decide +kernel
theorem dX4_begin_70 : decode cX4_begin 70 = .ok (.aload_n 0, 1) := by decide +kernel
theorem dX4_begin_71 : decode cX4_begin 71 = .ok (.getfield 112, 3) := by decide +kernel
theorem dX4_begin_74 : decode cX4_begin 74 = .ok (.iastore, 1) := by decide +kernel
theorem dX4_begin_75 : decode cX4_begin 75 = .ok (.aload_n 0, 1) := by decide +kernel
theorem dX4_begin_76 : decode cX4_begin 76 = .ok (.dup, 1) := by decide +kernel
theorem dX4_begin_77 : decode cX4_begin 77 = .ok (.getfield 115, 3) := by decide +kernel
theorem dX4_begin_80 : decode cX4_begin 80 = .ok (.iconst 1, 1) := by decide +kernel
theorem dX4_begin_81 : decode cX4_begin 81 = .ok (.iadd, 1) := by decide +kernel
theorem dX4_begin_82 : decode cX4_begin 82 = .ok (.putfield 115, 3) := by decide +kernel
theorem dX4_begin_85 : decode cX4_begin 85 = .ok (.aload_n 0, 1) := by decide +kernel
theorem dX4_begin_86 : decode cX4_begin 86 = .ok (.getfield 35, 3) := by decide +kernel
theorem dX4_begin_89 : decode cX4_begin 89 = .ok (.aload_n 0, 1) := by decide +kernel
theorem dX4_begin_90 : decode cX4_begin 90 = .ok (.getfield 112, 3) := by decide +kernel
theorem dX4_begin_93 : decode cX4_begin 93 = .ok (.iload_n 1, 1) := by decide +kernel
theorem dX4_begin_94 : decode cX4_begin 94 = .ok (.iastore, 1) := by decide +kernel
theorem dX4_begin_95 : decode cX4_begin 95 = .ok (.aload_n 0, 1) := by decide +kernel
theorem dX4_begin_96 : decode cX4_begin 96 = .ok (.dup, 1) := by decide +kernel
theorem dX4_begin_97 : decode cX4_begin 97 = .ok (.getfield 112, 3) := by decide +kernel
theorem dX4_begin_100 : decode cX4_begin 100 = .ok (.iconst 1, 1) := by decide +kernel
theorem dX4_begin_101 : decode cX4_begin 101 = .ok (.iadd, 1) := by decide +kernel
theorem dX4_begin_102 : decode cX4_begin 102 = .ok (.putfield 112, 3) := by decide +kernel
theorem dX4_begin_105 : decode cX4_begin 105 = .ok (.iconst 0, 1) := by decide +kernel
theorem dX4_begin_106 : decode cX4_begin 106 = .ok (.ireturn, 1) := by decide +kernel
set_option maxRecDepth 20000 in
theorem ggX4_putByte_X4_isByte : GoodIn wsX4_putByte wsX4_isByte := goodIn_r _ [8] (by decide +kernel) (by decide +kernel)
set_option maxRecDepth 20000 in
theorem gX4_putByte_X4_isByte : GoodIn wsX4_putByte (va_wsS RX4 44 yX4_isByte wsX4_isByte) := goodIn_app (goodIn_of _ (by decide +kernel)) ggX4_putByte_X4_isByte
set_option maxRecDepth 20000 in
theorem ggX4_putByte_X4_openTag : GoodIn wsX4_putByte wsX4_openTag := goodIn_r _ [12, 2, 4, 13, 14, 15, 16, 17, 18, 19, 20, 21, 22, 23, 24, 25, 26, 27, 28, 29, 30, 31, 32, 33, 34, 35] (by decide +kernel) (by decide +kernel)
set_option maxRecDepth 20000 in
theorem gX4_putByte_X4_openTag : GoodIn wsX4_putByte (wsV RX4 121 RX4 yX4_openTag wsX4_openTag) := goodIn_app (goodIn_of _ (by decide +kernel)) ggX4_putByte_X4_openTag
theorem dX4_putByte_0 : decode cX4_putByte 0 = .ok (.aload_n 0, 1) := by decide +kernel
theorem dX4_putByte_1 : decode cX4_putByte 1 = .ok (.iconst 0, 1) := by decide +kernel
theorem dX4_putByte_2 : decode cX4_putByte 2 = .ok (.putfield 41, 3) := by decide +kernel
theorem dX4_putByte_5 : decode cX4_putByte 5 = .ok (.iload_n 1, 1) := by decide +kernel
theorem dX4_putByte_6 : decode cX4_putByte 6 = .ok (.invokestatic 44, 3) := by decide +kernel
theorem dX4_putByte_9 : decode cX4_putByte 9 = .ok (.ifCond .ne 5, 3) := by decide +kernel
theorem dX4_putByte_12 : decode cX4_putByte 12 = .ok (.iconst (-1), 1) := by decide +kernel
theorem dX4_putByte_13 : decode cX4_putByte 13 = .ok (.ireturn, 1) := by decide +kernel
theorem dX4_putByte_14 : decode cX4_putByte 14 = .ok (.aload_n 0, 1) := by decide +kernel
theorem dX4_putByte_15 : decode cX4_putByte 15 = .ok (.getfield 115, 3) := by decide +kernel
theorem dX4_putByte_18 : decode cX4_putByte 18 = .ok (.ifCond .eq 12, 3) := by decide +kernel
theorem dX4_putByte_21 : decode cX4_putByte 21 = .ok (.aload_n 0, 1) := by decide +kernel
theorem dX4_putByte_22 : decode cX4_putByte 22 = .ok (.invokevirtual 121, 3) := by decide +kernel
theorem dX4_putByte_25 : decode cX4_putByte 25 = .ok (.bipush 48, 2) := by decide +kernel
theorem dX4_putByte_27 : decode cX4_putByte 27 = .ok (.if_icmp .ne 6, 3) := by decide +kernel
theorem dX4_putByte_30 : decode cX4_putByte 30 = .ok (.bipush (-2), 2) := by decide +kernel
theorem dX4_putByte_32 : decode cX4_putByte 32 = .ok (.ireturn, 1) := by decide +kernel
theorem dX4_putByte_33 : decode cX4_putByte 33 = .ok (.aload_n 0, 1) := by decide +kernel
theorem dX4_putByte_34 : decode cX4_putByte 34 = .ok (.getfield 112, 3) := by decide +kernel
theorem dX4_putByte_37 : decode cX4_putByte 37 = .ok (.sipush 300, 3) := by decide +kernel
theorem dX4_putByte_40 : decode cX4_putByte 40 = .ok (.if_icmp .ne 6, 3) := by decide +kernel
theorem dX4_putByte_43 : decode cX4_putByte 43 = .ok (.bipush (-3), 2) := by decide +kernel
theorem dX4_putByte_45 : decode cX4_putByte 45 = .ok (.ireturn, 1) := by decide +kernel
theorem dX4_putByte_46 : decode cX4_putByte 46 = .ok (.aload_n 0, 1) := by decide +kernel
theorem dX4_putByte_47 : decode cX4_putByte 47 = .ok (.getfield 35, 3) := by decide +kernel
theorem dX4_putByte_50 : decode cX4_putByte 50 = .ok (.aload_n 0, 1) := by decide +kernel
theorem dX4_putByte_51 : decode cX4_putByte 51 = .ok (.getfield 112, 3) := by decide +kernel
theorem dX4_putByte_54 : decode cX4_putByte 54 = .ok (.iload_n 1, 1) := by decide +kernel
theorem dX4_putByte_55 : decode cX4_putByte 55 = .ok (.iastore, 1) := by decide +kernel
theorem dX4_putByte_56 : decode cX4_putByte 56 = .ok (.aload_n 0, 1) := by decide +kernel
theorem dX4_putByte_57 : decode cX4_putByte 57 = .ok (.dup, 1) := by decide +kernel
theorem dX4_putByte_58 : decode cX4_putByte 58 = .ok (.getfield 112, 3) := by decide +kernel
theorem dX4_putByte_61 : decode cX4_putByte 61 = .ok (.iconst 1, 1) := by decide +kernel
theorem dX4_putByte_62 : decode cX4_putByte 62 = .ok (.iadd, 1) := by decide +kernel
theorem dX4_putByte_63 : decode cX4_putByte 63 = .ok (.putfield 112, 3) := by decide +kernel
theorem dX4_putByte_66 : decode cX4_putByte 66 = .ok (.iconst 0, 1) := by decide +kernel
theorem dX4_putByte_67 : decode cX4_putByte 67 = .ok (.ireturn, 1) := by decide +kernel
set_option maxRecDepth 20000 in
theorem ggX4_putInt_X4_openTag : GoodIn wsX4_putInt wsX4_openTag := goodIn_r _ [10, 2, 5, 4, 11, 12, 13, 14, 15, 16, 17, 18, 19, 20, 21, 22, 23, 24, 25, 26, 27, 28, 29, 30, 31, 32] (by decide +kernel) (by decide +kernel)
set_option maxRecDepth 20000 in
theorem gX4_putInt_X4_openTag : GoodIn wsX4_putInt (wsV RX4 121 RX4 yX4_openTag wsX4_openTag) := goodIn_app (goodIn_of _ (by decide +kernel)) ggX4_putInt_X4_openTag
theorem dX4_putInt_0 : decode cX4_putInt 0 = .ok (.aload_n 0, 1) := by decide +kernel
theorem dX4_putInt_1 : decode cX4_putInt 1 = .ok (.iconst 0, 1) := by decide +kernel
theorem dX4_putInt_2 : decode cX4_putInt 2 = .ok (.putfield 41, 3) := by decide +kernel
theorem dX4_putInt_5 : decode cX4_putInt 5 = .ok (.aload_n 0, 1) := by decide +kernel
theorem dX4_putInt_6 : decode cX4_putInt 6 = .ok (.getfield 115, 3) := by decide +kernel
theorem dX4_putInt_9 : decode cX4_putInt 9 = .ok (.ifCond .eq 31, 3) := by decide +kernel
theorem dX4_putInt_12 : decode cX4_putInt 12 = .ok (.aload_n 0, 1) := by decide +kernel
theorem dX4_putInt_13 : decode cX4_putInt 13 = .ok (.invokevirtual 121, 3) := by decide +kernel
theorem dX4_putInt_16 : decode cX4_putInt 16 = .ok (.iconst 2, 1) := by decide +kernel
theorem dX4_putInt_17 : decode cX4_putInt 17 = .ok (.if_icmp .ne 23, 3) := by decide +kernel
theorem dX4_putInt_20 : decode cX4_putInt 20 = .ok (.aload_n 0, 1) := by decide +kernel
theorem dX4_putInt_21 : decode cX4_putInt 21 = .ok (.getfield 112, 3) := by decide +kernel
theorem dX4_putInt_24 : decode cX4_putInt 24 = .ok (.aload_n 0, 1) := by decide +kernel
theorem dX4_putInt_25 : decode cX4_putInt 25 = .ok (.getfield 38, 3) := by decide +kernel
theorem dX4_putInt_28 : decode cX4_putInt 28 = .ok (.aload_n 0, 1) := by decide +kernel
theorem dX4_putInt_29 : decode cX4_putInt 29 = .ok (.getfield 115, 3) := by decide +kernel
theorem dX4_putInt_32 : decode cX4_putInt 32 = .ok (.iconst 1, 1) := by decide +kernel
theorem dX4_putInt_33 : decode cX4_putInt 33 = .ok (.isub, 1) := by decide +kernel
theorem dX4_putInt_34 : decode cX4_putInt 34 = .ok (.iaload, 1) := by decide +kernel
theorem dX4_putInt_35 : decode cX4_putInt 35 = .ok (.iconst 1, 1) := by decide +kernel
theorem dX4_putInt_36 : decode cX4_putInt 36 = .ok (.iadd, 1) := by decide +kernel
theorem dX4_putInt_37 : decode cX4_putInt 37 = .ok (.if_icmp .eq 6, 3) := by decide +kernel
theorem dX4_putInt_40 : decode cX4_putInt 40 = .ok (.bipush (-2), 2) := by decide +kernel
theorem dX4_putInt_42 : decode cX4_putInt 42 = .ok (.ireturn, 1) := by decide +kernel
theorem dX4_putInt_43 : decode cX4_putInt 43 = .ok (.iconst 4, 1) := by decide +kernel
theorem dX4_putInt_44 : decode cX4_putInt 44 = .ok (.istore_n 2, 1) := by decide +kernel
theorem dX4_putInt_45 : decode cX4_putInt 45 = .ok (.iload_n 2, 1) := by decide +kernel
theorem dX4_putInt_46 : decode cX4_putInt 46 = .ok (.iconst 1, 1) := by decide +kernel
theorem dX4_putInt_47 : decode cX4_putInt 47 = .ok (.if_icmp .le 34, 3) := by decide +kernel
theorem dX4_putInt_50 : decode cX4_putInt 50 = .ok (.iload_n 1, 1) := by decide +kernel
theorem dX4_putInt_51 : decode cX4_putInt 51 = .ok (.bipush 32, 2) := by decide +kernel
theorem dX4_putInt_53 : decode cX4_putInt 53 = .ok (.bipush 8, 2) := by decide +kernel
theorem dX4_putInt_55 : decode cX4_putInt 55 = .ok (.iload_n 2, 1) := by decide +kernel
theorem dX4_putInt_56 : decode cX4_putInt 56 = .ok (.iconst 1, 1) := by decide +kernel
theorem dX4_putInt_57 : decode cX4_putInt 57 = .ok (.isub, 1) := by decide +kernel
theorem dX4_putInt_58 : decode cX4_putInt 58 = .ok (.imul, 1) := by decide +kernel
theorem dX4_putInt_59 : decode cX4_putInt 59 = .ok (.isub, 1) := by decide +kernel
theorem dX4_putInt_60 : decode cX4_putInt 60 = .ok (.ishl, 1) := by decide +kernel
theorem dX4_putInt_61 : decode cX4_putInt 61 = .ok (.bipush 32, 2) := by decide +kernel
theorem dX4_putInt_63 : decode cX4_putInt 63 = .ok (.bipush 8, 2) := by decide +kernel
theorem dX4_putInt_65 : decode cX4_putInt 65 = .ok (.iload_n 2, 1) := by decide +kernel
theorem dX4_putInt_66 : decode cX4_putInt 66 = .ok (.iconst 1, 1) := by decide +kernel
theorem dX4_putInt_67 : decode cX4_putInt 67 = .ok (.isub, 1) := by decide +kernel
theorem dX4_putInt_68 : decode cX4_putInt 68 = .ok (.imul, 1) := by decide +kernel
theorem dX4_putInt_69 : decode cX4_putInt 69 = .ok (.isub, 1) := by decide +kernel
theorem dX4_putInt_70 : decode cX4_putInt 70 = .ok (.ishr, 1) := by decide +kernel
theorem dX4_putInt_71 : decode cX4_putInt 71 = .ok (.iload_n 1, 1) := by decide +kernel
theorem dX4_putInt_72 : decode cX4_putInt 72 = .ok (.if_icmp .ne 9, 3) := by decide +kernel
theorem dX4_putInt_75 : decode cX4_putInt 75 = .ok (.iinc 2 (-1), 3) := by decide +kernel
theorem dX4_putInt_78 : decode cX4_putInt 78 = .ok (.goto (-33), 3) := by decide +kernel
theorem dX4_putInt_81 : decode cX4_putInt 81 = .ok (.aload_n 0, 1) := by decide +kernel
theorem dX4_putInt_82 : decode cX4_putInt 82 = .ok (.getfield 112, 3) := by decide +kernel
theorem dX4_putInt_85 : decode cX4_putInt 85 = .ok (.iload_n 2, 1) := by decide +kernel
theorem dX4_putInt_86 : decode cX4_putInt 86 = .ok (.iadd, 1) := by decide +kernel
theorem dX4_putInt_87 : decode cX4_putInt 87 = .ok (.sipush 300, 3) := by decide +kernel
theorem dX4_putInt_90 : decode cX4_putInt 90 = .ok (.if_icmp .le 6, 3) := by decide +kernel
theorem dX4_putInt_93 : decode cX4_putInt 93 = .ok (.bipush (-3), 2) := by decide +kernel
theorem dX4_putInt_95 : decode cX4_putInt 95 = .ok (.ireturn, 1) := by decide +kernel
theorem dX4_putInt_96 : decode cX4_putInt 96 = .ok (.iload_n 2, 1) := by decide +kernel
theorem dX4_putInt_97 : decode cX4_putInt 97 = .ok (.iconst 1, 1) := by decide +kernel
theorem dX4_putInt_98 : decode cX4_putInt 98 = .ok (.isub, 1) := by decide +kernel
theorem dX4_putInt_99 : decode cX4_putInt 99 = .ok (.istore_n 3, 1) := by decide +kernel
theorem dX4_putInt_100 : decode cX4_putInt 100 = .ok (.iload_n 3, 1) := by decide +kernel
theorem dX4_putInt_101 : decode cX4_putInt 101 = .ok (.ifCond .lt 38, 3) := by decide +kernel
theorem dX4_putInt_104 : decode cX4_putInt 104 = .ok (.aload_n 0, 1) := by decide +kernel
theorem dX4_putInt_105 : decode cX4_putInt 105 = .ok (.getfield 35, 3) := by decide +kernel
theorem dX4_putInt_108 : decode cX4_putInt 108 = .ok (.aload_n 0, 1) := by decide +kernel
theorem dX4_putInt_109 : decode cX4_putInt 109 = .ok (.getfield 112, 3) := by decide +kernel
theorem dX4_putInt_112 : decode cX4_putInt 112 = .ok (.iload_n 1, 1) := by decide +kernel
theorem dX4_putInt_113 : decode cX4_putInt 113 = .ok (.bipush 8, 2) := by decide +kernel
theorem dX4_putInt_115 : decode cX4_putInt 115 = .ok (.iload_n 3, 1) := by decide +kernel
theorem dX4_putInt_116 : decode cX4_putInt 116 = .ok (.imul, 1) := by decide +kernel
theorem dX4_putInt_117 : decode cX4_putInt 117 = .ok (.ishr, 1) := by decide +kernel
theorem dX4_putInt_118 : decode cX4_putInt 118 = .ok (.sipush 255, 3) := by decide +kernel
theorem dX4_putInt_121 : decode cX4_putInt 121 = .ok (.iand, 1) := by decide +kernel
theorem dX4_putInt_122 : decode cX4_putInt 122 = .ok (.iastore, 1) := by decide +kernel
theorem dX4_putInt_123 : decode cX4_putInt 123 = .ok (.aload_n 0, 1) := by decide +kernel
theorem dX4_putInt_124 : decode cX4_putInt 124 = .ok (.dup, 1) := by decide +kernel
theorem dX4_putInt_125 : decode cX4_putInt 125 = .ok (.getfield 112, 3) := by decide +kernel
theorem dX4_putInt_128 : decode cX4_putInt 128 = .ok (.iconst 1, 1) := by decide +kernel
theorem dX4_putInt_129 : decode cX4_putInt 129 = .ok (.iadd, 1) := by decide +kernel
theorem dX4_putInt_130 : decode cX4_putInt 130 = .ok (.putfield 112, 3) := by decide +kernel
theorem dX4_putInt_133 : decode cX4_putInt 133 = .ok (.iinc 3 (-1), 3) := by decide +kernel
theorem dX4_putInt_136 : decode cX4_putInt 136 = .ok (.goto (-36), 3) := by decide +kernel
theorem dX4_putInt_139 : decode cX4_putInt 139 = .ok (.iconst 0, 1) := by decide +kernel
theorem dX4_putInt_140 : decode cX4_putInt 140 = .ok (.ireturn, 1) := by decide +kernel
set_option maxRecDepth 20000 in
theorem ggX4_putPart_X4_openTag : GoodIn wsX4_putPart wsX4_openTag := goodIn_r _ [9, 2, 4, 10, 11, 12, 13, 14, 15, 16, 17, 18, 19, 20, 21, 22, 23, 24, 25, 26, 27, 28, 29, 30, 31, 32] (by decide +kernel) (by decide +kernel)
set_option maxRecDepth 20000 in
theorem gX4_putPart_X4_openTag : GoodIn wsX4_putPart (wsV RX4 121 RX4 yX4_openTag wsX4_openTag) := goodIn_app (goodIn_of _ (by decide +kernel)) ggX4_putPart_X4_openTag
theorem dX4_putPart_0 : decode cX4_putPart 0 = .ok (.aload_n 0, 1) := by decide +kernel
theorem dX4_putPart_1 : decode cX4_putPart 1 = .ok (.iconst 0, 1) := by decide +kernel
theorem dX4_putPart_2 : decode cX4_putPart 2 = .ok (.putfield 41, 3) := by decide +kernel
theorem dX4_putPart_5 : decode cX4_putPart 5 = .ok (.iload_n 1, 1) := by decide +kernel
theorem dX4_putPart_6 : decode cX4_putPart 6 = .ok (.ifCond .ge 5, 3) := by decide +kernel
theorem dX4_putPart_9 : decode cX4_putPart 9 = .ok (.iconst (-1), 1) := by decide +kernel
theorem dX4_putPart_10 : decode cX4_putPart 10 = .ok (.ireturn, 1) := by decide +kernel
theorem dX4_putPart_11 : decode cX4_putPart 11 = .ok (.aload_n 0, 1) := by decide +kernel
theorem dX4_putPart_12 : decode cX4_putPart 12 = .ok (.getfield 115, 3) := by decide +kernel
theorem dX4_putPart_15 : decode cX4_putPart 15 = .ok (.ifCond .eq 12, 3) := by decide +kernel
theorem dX4_putPart_18 : decode cX4_putPart 18 = .ok (.aload_n 0, 1) := by decide +kernel
theorem dX4_putPart_19 : decode cX4_putPart 19 = .ok (.invokevirtual 121, 3) := by decide +kernel
theorem dX4_putPart_22 : decode cX4_putPart 22 = .ok (.bipush 6, 2) := by decide +kernel
theorem dX4_putPart_24 : decode cX4_putPart 24 = .ok (.if_icmp .eq 6, 3) := by decide +kernel
theorem dX4_putPart_27 : decode cX4_putPart 27 = .ok (.bipush (-2), 2) := by decide +kernel
theorem dX4_putPart_29 : decode cX4_putPart 29 = .ok (.ireturn, 1) := by decide +kernel
theorem dX4_putPart_30 : decode cX4_putPart 30 = .ok (.iconst 1, 1) := by decide +kernel
theorem dX4_putPart_31 : decode cX4_putPart 31 = .ok (.istore_n 2, 1) := by decide +kernel
theorem dX4_putPart_32 : decode cX4_putPart 32 = .ok (.iload_n 2, 1) := by decide +kernel
theorem dX4_putPart_33 : decode cX4_putPart 33 = .ok (.iconst 5, 1) := by decide +kernel
theorem dX4_putPart_34 : decode cX4_putPart 34 = .ok (.if_icmp .ge 18, 3) := by decide +kernel
theorem dX4_putPart_37 : decode cX4_putPart 37 = .ok (.iload_n 1, 1) := by decide +kernel
theorem dX4_putPart_38 : decode cX4_putPart 38 = .ok (.bipush 7, 2) := by decide +kernel
theorem dX4_putPart_40 : decode cX4_putPart 40 = .ok (.iload_n 2, 1) := by decide +kernel
theorem dX4_putPart_41 : decode cX4_putPart 41 = .ok (.imul, 1) := by decide +kernel
theorem dX4_putPart_42 : decode cX4_putPart 42 = .ok (.ishr, 1) := by decide +kernel
theorem dX4_putPart_43 : decode cX4_putPart 43 = .ok (.ifCond .le 9, 3) := by decide +kernel
theorem dX4_putPart_46 : decode cX4_putPart 46 = .ok (.iinc 2 1, 3) := by decide +kernel
theorem dX4_putPart_49 : decode cX4_putPart 49 = .ok (.goto (-17), 3) := by decide +kernel
theorem dX4_putPart_52 : decode cX4_putPart 52 = .ok (.aload_n 0, 1) := by decide +kernel
theorem dX4_putPart_53 : decode cX4_putPart 53 = .ok (.getfield 112, 3) := by decide +kernel
theorem dX4_putPart_56 : decode cX4_putPart 56 = .ok (.iload_n 2, 1) := by decide +kernel
theorem dX4_putPart_57 : decode cX4_putPart 57 = .ok (.iadd, 1) := by decide +kernel
theorem dX4_putPart_58 : decode cX4_putPart 58 = .ok (.sipush 300, 3) := by decide +kernel
theorem dX4_putPart_61 : decode cX4_putPart 61 = .ok (.if_icmp .le 6, 3) := by decide +kernel
theorem dX4_putPart_64 : decode cX4_putPart 64 = .ok (.bipush (-3), 2) := by decide +kernel
theorem dX4_putPart_66 : decode cX4_putPart 66 = .ok (.ireturn, 1) := by decide +kernel
theorem dX4_putPart_67 : decode cX4_putPart 67 = .ok (.iload_n 2, 1) := by decide +kernel
theorem dX4_putPart_68 : decode cX4_putPart 68 = .ok (.iconst 1, 1) := by decide +kernel
theorem dX4_putPart_69 : decode cX4_putPart 69 = .ok (.isub, 1) := by decide +kernel
theorem dX4_putPart_70 : decode cX4_putPart 70 = .ok (.istore_n 3, 1) := by decide +kernel
theorem dX4_putPart_71 : decode cX4_putPart 71 = .ok (.iload_n 3, 1) := by decide +kernel
theorem dX4_putPart_72 : decode cX4_putPart 72 = .ok (.ifCond .lt 49, 3) := by decide +kernel
theorem dX4_putPart_75 : decode cX4_putPart 75 = .ok (.aload_n 0, 1) := by decide +kernel
theorem dX4_putPart_76 : decode cX4_putPart 76 = .ok (.getfield 35, 3) := by decide +kernel
theorem dX4_putPart_79 : decode cX4_putPart 79 = .ok (.aload_n 0, 1) := by decide +kernel
theorem dX4_putPart_80 : decode cX4_putPart 80 = .ok (.getfield 112, 3) := by decide +kernel
theorem dX4_putPart_83 : decode cX4_putPart 83 = .ok (.iload_n 1, 1) := by decide +kernel
theorem dX4_putPart_84 : decode cX4_putPart 84 = .ok (.bipush 7, 2) := by decide +kernel
theorem dX4_putPart_86 : decode cX4_putPart 86 = .ok (.iload_n 3, 1) := by decide +kernel
theorem dX4_putPart_87 : decode cX4_putPart 87 = .ok (.imul, 1) := by decide +kernel
theorem dX4_putPart_88 : decode cX4_putPart 88 = .ok (.ishr, 1) := by decide +kernel
theorem dX4_putPart_89 : decode cX4_putPart 89 = .ok (.bipush 127, 2) := by decide +kernel
theorem dX4_putPart_91 : decode cX4_putPart 91 = .ok (.iand, 1) := by decide +kernel
theorem dX4_putPart_92 : decode cX4_putPart 92 = .ok (.iload_n 3, 1) := by decide +kernel
theorem dX4_putPart_93 : decode cX4_putPart 93 = .ok (.ifCond .le 9, 3) := by decide +kernel
theorem dX4_putPart_96 : decode cX4_putPart 96 = .ok (.sipush 128, 3) := by decide +kernel
theorem dX4_putPart_99 : decode cX4_putPart 99 = .ok (.goto 4, 3) := by decide +kernel
theorem dX4_putPart_102 : decode cX4_putPart 102 = .ok (.iconst 0, 1) := by decide +kernel
theorem dX4_putPart_103 : decode cX4_putPart 103 = .ok (.iadd, 1) := by decide +kernel
theorem dX4_putPart_104 : decode cX4_putPart 104 = .ok (.iastore, 1) := by decide +kernel
theorem dX4_putPart_105 : decode cX4_putPart 105 = .ok (.aload_n 0, 1) := by decide +kernel
theorem dX4_putPart_106 : decode cX4_putPart 106 = .ok (.dup, 1) := by decide +kernel
theorem dX4_putPart_107 : decode cX4_putPart 107 = .ok (.getfield 112, 3) := by decide +kernel
theorem dX4_putPart_110 : decode cX4_putPart 110 = .ok (.iconst 1, 1) := by decide +kernel
theorem dX4_putPart_111 : decode cX4_putPart 111 = .ok (.iadd, 1) := by decide +kernel
theorem dX4_putPart_112 : decode cX4_putPart 112 = .ok (.putfield 112, 3) := by decide +kernel
theorem dX4_putPart_115 : decode cX4_putPart 115 = .ok (.iinc 3 (-1), 3) := by decide +kernel
theorem dX4_putPart_118 : decode cX4_putPart 118 = .ok (.goto (-47), 3) := by decide +kernel
theorem dX4_putPart_121 : decode cX4_putPart 121 = .ok (.iconst 0, 1) := by decide +kernel
theorem dX4_putPart_122 : decode cX4_putPart 122 = .ok (.ireturn, 1) := by decide +kernel
set_option maxRecDepth 20000 in
theorem ggX4_end_X4_isRight : GoodIn wsX4_end wsX4_isRight := goodIn_r _ [12, 5, 13, 14, 15, 16, 17, 18, 19, 20, 21, 22, 23, 24, 25, 26, 27, 28, 29, 30, 31, 32, 33, 34] (by decide +kernel) (by decide +kernel)
set_option maxRecDepth 20000 in
theorem gX4_end_X4_isRight : GoodIn wsX4_end (wsV RX4 85 RX4 yX4_isRight wsX4_isRight) := goodIn_app (goodIn_of _ (by decide +kernel)) ggX4_end_X4_isRight
theorem dX4_end_0 : decode cX4_end 0 = .ok (.aload_n 0, 1) := by decide +kernel
theorem dX4_end_1 : decode cX4_end 1 = .ok (.iconst 0, 1) := by decide +kernel
theorem dX4_end_2 : decode cX4_end 2 = .ok (.putfield 41, 3) := by decide +kernel
theorem dX4_end_5 : decode cX4_end 5 = .ok (.aload_n 0, 1) := by decide +kernel
theorem dX4_end_6 : decode cX4_end 6 = .ok (.getfield 115, 3) := by decide +kernel
theorem dX4_end_9 : decode cX4_end 9 = .ok (.ifCond .ne 6, 3) := by decide +kernel
theorem dX4_end_12 : decode cX4_end 12 = .ok (.bipush (-2), 2) := by decide +kernel
theorem dX4_end_14 : decode cX4_end 14 = .ok (.ireturn, 1) := by decide +kernel
theorem dX4_end_15 : decode cX4_end 15 = .ok (.aload_n 0, 1) := by decide +kernel
theorem dX4_end_16 : decode cX4_end 16 = .ok (.getfield 38, 3) := by decide +kernel
theorem dX4_end_19 : decode cX4_end 19 = .ok (.aload_n 0, 1) := by decide +kernel
theorem dX4_end_20 : decode cX4_end 20 = .ok (.getfield 115, 3) := by decide +kernel
theorem dX4_end_23 : decode cX4_end 23 = .ok (.iconst 1, 1) := by decide +kernel
theorem dX4_end_24 : decode cX4_end 24 = .ok (.isub, 1) := by decide +kernel
theorem dX4_end_25 : decode cX4_end 25 = .ok (.iaload, 1) := by decide +kernel
theorem dX4_end_26 : decode cX4_end 26 = .ok (.istore_n 1, 1) := by decide +kernel
theorem dX4_end_27 : decode cX4_end 27 = .ok (.aload_n 0, 1) := by decide +kernel
theorem dX4_end_28 : decode cX4_end 28 = .ok (.getfield 112, 3) := by decide +kernel
theorem dX4_end_31 : decode cX4_end 31 = .ok (.iload_n 1, 1) := by decide +kernel
theorem dX4_end_32 : decode cX4_end 32 = .ok (.isub, 1) := by decide +kernel
theorem dX4_end_33 : decode cX4_end 33 = .ok (.iconst 1, 1) := by decide +kernel
theorem dX4_end_34 : decode cX4_end 34 = .ok (.isub, 1) := by decide +kernel
theorem dX4_end_35 : decode cX4_end 35 = .ok (.istore_n 2, 1) := by decide +kernel
theorem dX4_end_36 : decode cX4_end 36 = .ok (.iconst 0, 1) := by decide +kernel
theorem dX4_end_37 : decode cX4_end 37 = .ok (.istore_n 3, 1) := by decide +kernel
theorem dX4_end_38 : decode cX4_end 38 = .ok (.iload_n 3, 1) := by decide +kernel
theorem dX4_end_39 : decode cX4_end 39 = .ok (.iload_n 2, 1) := by decide +kernel
theorem dX4_end_40 : decode cX4_end 40 = .ok (.if_icmp .ge 25, 3) := by decide +kernel
theorem dX4_end_43 : decode cX4_end 43 = .ok (.aload_n 0, 1) := by decide +kernel
theorem dX4_end_44 : decode cX4_end 44 = .ok (.getfield 32, 3) := by decide +kernel
theorem dX4_end_47 : decode cX4_end 47 = .ok (.iload_n 3, 1) := by decide +kernel
theorem dX4_end_48 : decode cX4_end 48 = .ok (.aload_n 0, 1) := by decide +kernel
theorem dX4_end_49 : decode cX4_end 49 = .ok (.getfield 35, 3) := by decide +kernel
theorem dX4_end_52 : decode cX4_end 52 = .ok (.iload_n 1, 1) := by decide +kernel
theorem dX4_end_53 : decode cX4_end 53 = .ok (.iconst 1, 1) := by decide +kernel
theorem dX4_end_54 : decode cX4_end 54 = .ok (.iadd, 1) := by decide +kernel
theorem dX4_end_55 : decode cX4_end 55 = .ok (.iload_n 3, 1) := by decide +kernel
theorem dX4_end_56 : decode cX4_end 56 = .ok (.iadd, 1) := by decide +kernel
theorem dX4_end_57 : decode cX4_end 57 = .ok (.iaload, 1) := by decide +kernel
theorem dX4_end_58 : decode cX4_end 58 = .ok (.iastore, 1) := by decide +kernel
theorem dX4_end_59 : decode cX4_end 59 = .ok (.iinc 3 1, 3) := by decide +kernel
theorem dX4_end_62 : decode cX4_end 62 = .ok (.goto (-24), 3) := by decide +kernel
theorem dX4_end_65 : decode cX4_end 65 = .ok (.aload_n 0, 1) := by decide +kernel
theorem dX4_end_66 : decode cX4_end 66 = .ok (.aload_n 0, 1) := by decide +kernel
theorem dX4_end_67 : decode cX4_end 67 = .ok (.getfield 35, 3) := by decide +kernel
theorem dX4_end_70 : decode cX4_end 70 = .ok (.iload_n 1, 1) := by decide +kernel
theorem dX4_end_71 : decode cX4_end 71 = .ok (.iaload, 1) := by decide +kernel
theorem dX4_end_72 : decode cX4_end 72 = .ok (.iload_n 2, 1) := by decide +kernel
theorem dX4_end_73 : decode cX4_end 73 = .ok (.invokevirtual 85, 3) := by decide +kernel
theorem dX4_end_76 : decode cX4_end 76 = .ok (.ifCond .ne 21, 3) := by decide +kernel
theorem dX4_end_79 : decode cX4_end 79 = .ok (.aload_n 0, 1) := by decide +kernel
theorem dX4_end_80 : decode cX4_end 80 = .ok (.iload_n 1, 1) := by decide +kernel
theorem dX4_end_81 : decode cX4_end 81 = .ok (.putfield 112, 3) := by decide +kernel
theorem dX4_end_84 : decode cX4_end 84 = .ok (.aload_n 0, 1) := by decide +kernel
theorem dX4_end_85 : decode cX4_end 85 = .ok (.dup, 1) := by decide +kernel
theorem dX4_end_86 : decode cX4_end 86 = .ok (.getfield 115, 3) := by decide +kernel
theorem dX4_end_89 : decode cX4_end 89 = .ok (.iconst 1, 1) := by decide +kernel
theorem dX4_end_90 : decode cX4_end 90 = .ok (.isub, 1) := by decide +kernel
theorem dX4_end_91 : decode cX4_end 91 = .ok (.putfield 115, 3) := by decide +kernel
theorem dX4_end_94 : decode cX4_end 94 = .ok (.bipush (-4), 2) := by decide +kernel
theorem dX4_end_96 : decode cX4_end 96 = .ok (.ireturn, 1) := by decide +kernel
theorem dX4_end_97 : decode cX4_end 97 = .ok (.iload_n 2, 1) := by decide +kernel
theorem dX4_end_98 : decode cX4_end 98 = .ok (.sipush 128, 3) := by decide +kernel
theorem dX4_end_101 : decode cX4_end 101 = .ok (.if_icmp .ge 7, 3) := by decide +kernel
theorem dX4_end_104 : decode cX4_end 104 = .ok (.iconst 1, 1) := by decide +kernel
theorem dX4_end_105 : decode cX4_end 105 = .ok (.goto 15, 3) := by decide +kernel
theorem dX4_end_108 : decode cX4_end 108 = .ok (.iload_n 2, 1) := by decide +kernel
theorem dX4_end_109 : decode cX4_end 109 = .ok (.sipush 256, 3) := by decide +kernel
theorem dX4_end_112 : decode cX4_end 112 = .ok (.if_icmp .ge 7, 3) := by decide +kernel
theorem dX4_end_115 : decode cX4_end 115 = .ok (.iconst 2, 1) := by decide +kernel
theorem dX4_end_116 : decode cX4_end 116 = .ok (.goto 4, 3) := by decide +kernel
theorem dX4_end_119 : decode cX4_end 119 = .ok (.iconst 3, 1) := by decide +kernel
theorem dX4_end_120 : decode cX4_end 120 = .ok (.istore_n 3, 1) := by decide +kernel
theorem dX4_end_121 : decode cX4_end 121 = .ok (.aload_n 0, 1) := by decide +kernel
theorem dX4_end_122 : decode cX4_end 122 = .ok (.getfield 112, 3) := by decide +kernel
theorem dX4_end_125 : decode cX4_end 125 = .ok (.iload_n 3, 1) := by decide +kernel
theorem dX4_end_126 : decode cX4_end 126 = .ok (.iadd, 1) := by decide +kernel
theorem dX4_end_127 : decode cX4_end 127 = .ok (.sipush 300, 3) := by decide +kernel
theorem dX4_end_130 : decode cX4_end 130 = .ok (.if_icmp .le 6, 3) := by decide +kernel
theorem dX4_end_133 : decode cX4_end 133 = .ok (.bipush (-3), 2) := by decide +kernel
theorem dX4_end_135 : decode cX4_end 135 = .ok (.ireturn, 1) := by decide +kernel
theorem dX4_end_136 : decode cX4_end 136 = .ok (.iload_n 2, 1) := by decide +kernel
theorem dX4_end_137 : decode cX4_end 137 = .ok (.iconst 1, 1) := by decide +kernel
theorem dX4_end_138 : decode cX4_end 138 = .ok (.isub, 1) := by decide +kernel
theorem dX4_end_139 : decode cX4_end 139 = .ok (.istore 4, 2) := by decide +kernel
theorem dX4_end_141 : decode cX4_end 141 = .ok (.iload 4, 2) := by decide +kernel
theorem dX4_end_143 : decode cX4_end 143 = .ok (.ifCond .lt 29, 3) := by decide +kernel
theorem dX4_end_146 : decode cX4_end 146 = .ok (.aload_n 0, 1) := by decide +kernel
theorem dX4_end_147 : decode cX4_end 147 = .ok (.getfield 35, 3) := by decide +kernel
theorem dX4_end_150 : decode cX4_end 150 = .ok (.iload_n 1, 1) := by decide +kernel
theorem dX4_end_151 : decode cX4_end 151 = .ok (.iconst 1, 1) := by decide +kernel
theorem dX4_end_152 : decode cX4_end 152 = .ok (.iadd, 1) := by decide +kernel
theorem dX4_end_153 : decode cX4_end 153 = .ok (.iload_n 3, 1) := by decide +kernel
theorem dX4_end_154 : decode cX4_end 154 = .ok (.iadd, 1) := by decide +kernel
theorem dX4_end_155 : decode cX4_end 155 = .ok (.iload 4, 2) := by decide +kernel
theorem dX4_end_157 : decode cX4_end 157 = .ok (.iadd, 1) := by decide +kernel
theorem dX4_end_158 : decode cX4_end 158 = .ok (.aload_n 0, 1) := by decide +kernel
theorem dX4_end_159 : decode cX4_end 159 = .ok (.getfield 32, 3) := by decide +kernel
theorem dX4_end_162 : decode cX4_end 162 = .ok (.iload 4, 2) := by decide +kernel
theorem dX4_end_164 : decode cX4_end 164 = .ok (.iaload, 1) := by decide +kernel
theorem dX4_end_165 : decode cX4_end 165 = .ok (.iastore, 1) := by decide +kernel
theorem dX4_end_166 : decode cX4_end 166 = .ok (.iinc 4 (-1), 3) := by decide +kernel
theorem dX4_end_169 : decode cX4_end 169 = .ok (.goto (-28), 3) := by decide +kernel
theorem dX4_end_172 : decode cX4_end 172 = .ok (.aload_n 0, 1) := by decide +kernel
theorem dX4_end_173 : decode cX4_end 173 = .ok (.getfield 35, 3) := by decide +kernel
theorem dX4_end_176 : decode cX4_end 176 = .ok (.iload_n 1, 1) := by decide +kernel
theorem dX4_end_177 : decode cX4_end 177 = .ok (.iconst 1, 1) := by decide +kernel
theorem dX4_end_178 : decode cX4_end 178 = .ok (.iadd, 1) := by decide +kernel
theorem dX4_end_179 : decode cX4_end 179 = .ok (.iload_n 3, 1) := by decide +kernel
theorem dX4_end_180 : decode cX4_end 180 = .ok (.iconst 1, 1) := by decide +kernel
theorem dX4_end_181 : decode cX4_end 181 = .ok (.if_icmp .ne 7, 3) := by decide +kernel
theorem dX4_end_184 : decode cX4_end 184 = .ok (.iload_n 2, 1) := by decide +kernel
theorem dX4_end_185 : decode cX4_end 185 = .ok (.goto 7, 3) := by decide +kernel
theorem dX4_end_188 : decode cX4_end 188 = .ok (.bipush 127, 2) := by decide +kernel
theorem dX4_end_190 : decode cX4_end 190 = .ok (.iload_n 3, 1) := by decide +kernel
theorem dX4_end_191 : decode cX4_end 191 = .ok (.iadd, 1) := by decide +kernel
theorem dX4_end_192 : decode cX4_end 192 = .ok (.iastore, 1) := by decide +kernel
theorem dX4_end_193 : decode cX4_end 193 = .ok (.iconst 1, 1) := by decide +kernel
theorem dX4_end_194 : decode cX4_end 194 = .ok (.istore 4, 2) := by decide +kernel
theorem dX4_end_196 : decode cX4_end 196 = .ok (.iload 4, 2) := by decide +kernel
theorem dX4_end_198 : decode cX4_end 198 = .ok (.iload_n 3, 1) := by decide +kernel
theorem dX4_end_199 : decode cX4_end 199 = .ok (.if_icmp .ge 35, 3) := by decide +kernel
theorem dX4_end_202 : decode cX4_end 202 = .ok (.aload_n 0, 1) := by decide +kernel
theorem dX4_end_203 : decode cX4_end 203 = .ok (.getfield 35, 3) := by decide +kernel
theorem dX4_end_206 : decode cX4_end 206 = .ok (.iload_n 1, 1) := by decide +kernel
theorem dX4_end_207 : decode cX4_end 207 = .ok (.iconst 1, 1) := by decide +kernel
theorem dX4_end_208 : decode cX4_end 208 = .ok (.iadd, 1) := by decide +kernel
theorem dX4_end_209 : decode cX4_end 209 = .ok (.iload 4, 2) := by decide +kernel
theorem dX4_end_211 : decode cX4_end 211 = .ok (.iadd, 1) := by decide +kernel
theorem dX4_end_212 : decode cX4_end 212 = .ok (.iload_n 2, 1) := by decide +kernel
theorem dX4_end_213 : decode cX4_end 213 = .ok (.bipush 8, 2) := by decide +kernel
theorem dX4_end_215 : decode cX4_end 215 = .ok (.iload_n 3, 1) := by decide +kernel
theorem dX4_end_216 : decode cX4_end 216 = .ok (.iconst 1, 1) := by decide +kernel
theorem dX4_end_217 : decode cX4_end 217 = .ok (.isub, 1) := by decide +kernel
theorem dX4_end_218 : decode cX4_end 218 = .ok (.iload 4, 2) := by decide +kernel
theorem dX4_end_220 : decode cX4_end 220 = .ok (.isub, 1) := by decide +kernel
theorem dX4_end_221 : decode cX4_end 221 = .ok (.imul, 1) := by decide +kernel
theorem dX4_end_222 : decode cX4_end 222 = .ok (.ishr, 1) := by decide +kernel
theorem dX4_end_223 : decode cX4_end 223 = .ok (.sipush 255, 3) := by decide +kernel
theorem dX4_end_226 : decode cX4_end 226 = .ok (.iand, 1) := by decide +kernel
theorem dX4_end_227 : decode cX4_end 227 = .ok (.iastore, 1) := by decide +kernel
theorem dX4_end_228 : decode cX4_end 228 = .ok (.iinc 4 1, 3) := by decide +kernel
theorem dX4_end_231 : decode cX4_end 231 = .ok (.goto (-35), 3) := by decide +kernel
theorem dX4_end_234 : decode cX4_end 234 = .ok (.aload_n 0, 1) := by decide +kernel
theorem dX4_end_235 : decode cX4_end 235 = .ok (.dup, 1) := by decide +kernel
theorem dX4_end_236 : decode cX4_end 236 = .ok (.getfield 112, 3) := by decide +kernel
theorem dX4_end_239 : decode cX4_end 239 = .ok (.iload_n 3, 1) := by decide +kernel
theorem dX4_end_240 : decode cX4_end 240 = .ok (.iadd, 1) := by decide +kernel
theorem dX4_end_241 : decode cX4_end 241 = .ok (.putfield 112, 3) := by decide +kernel
theorem dX4_end_244 : decode cX4_end 244 = .ok (.aload_n 0, 1) := by decide +kernel
theorem dX4_end_245 : decode cX4_end 245 = .ok (.dup, 1) := by decide +kernel
theorem dX4_end_246 : decode cX4_end 246 = .ok (.getfield 115, 3) := by decide +kernel
theorem dX4_end_249 : decode cX4_end 249 = .ok (.iconst 1, 1) := by decide +kernel
theorem dX4_end_250 : decode cX4_end 250 = .ok (.isub, 1) := by decide +kernel
theorem dX4_end_251 : decode cX4_end 251 = .ok (.putfield 115, 3) := by decide +kernel
theorem dX4_end_254 : decode cX4_end 254 = .ok (.aload_n 0, 1) := by decide +kernel
theorem dX4_end_255 : decode cX4_end 255 = .ok (.aload_n 0, 1) := by decide +kernel
theorem dX4_end_256 : decode cX4_end 256 = .ok (.getfield 115, 3) := by decide +kernel
theorem dX4_end_259 : decode cX4_end 259 = .ok (.ifCond .ne 7, 3) := by decide +kernel
theorem dX4_end_262 : decode cX4_end 262 = .ok (.iconst 1, 1) := by decide +kernel
theorem dX4_end_263 : decode cX4_end 263 = .ok (.goto 4, 3) := by decide +kernel
theorem dX4_end_266 : decode cX4_end 266 = .ok (.iconst 0, 1) := by decide +kernel
theorem dX4_end_267 : decode cX4_end 267 = .ok (.putfield 118, 3) := by decide +kernel
theorem dX4_end_270 : decode cX4_end 270 = .ok (.iconst 0, 1) := by decide +kernel
theorem dX4_end_271 : decode cX4_end 271 = .ok (.ireturn, 1) := by decide +kernel
theorem dX4_out_0 : decode cX4_out 0 = .ok (.aload_n 0, 1) := by decide +kernel
theorem dX4_out_1 : decode cX4_out 1 = .ok (.iconst 0, 1) := by decide +kernel
theorem dX4_out_2 : decode cX4_out 2 = .ok (.putfield 41, 3) := by decide +kernel
theorem dX4_out_5 : decode cX4_out 5 = .ok (.iload_n 1, 1) := by decide +kernel
theorem dX4_out_6 : decode cX4_out 6 = .ok (.ifCond .lt 20, 3) := by decide +kernel
theorem dX4_out_9 : decode cX4_out 9 = .ok (.iload_n 1, 1) := by decide +kernel
theorem dX4_out_10 : decode cX4_out 10 = .ok (.aload_n 0, 1) := by decide +kernel
theorem dX4_out_11 : decode cX4_out 11 = .ok (.getfield 112, 3) := by decide +kernel
theorem dX4_out_14 : decode cX4_out 14 = .ok (.if_icmp .ge 12, 3) := by decide +kernel
theorem dX4_out_17 : decode cX4_out 17 = .ok (.aload_n 0, 1) := by decide +kernel
theorem dX4_out_18 : decode cX4_out 18 = .ok (.getfield 35, 3) := by decide +kernel
theorem dX4_out_21 : decode cX4_out 21 = .ok (.iload_n 1, 1) := by decide +kernel
theorem dX4_out_22 : decode cX4_out 22 = .ok (.iaload, 1) := by decide +kernel
theorem dX4_out_23 : decode cX4_out 23 = .ok (.goto 4, 3) := by decide +kernel
theorem dX4_out_26 : decode cX4_out 26 = .ok (.iconst (-1), 1) := by decide +kernel
theorem dX4_out_27 : decode cX4_out 27 = .ok (.ireturn, 1) := by decide +kernel
theorem dX4_outSize_0 : decode cX4_outSize 0 = .ok (.aload_n 0, 1) := by decide +kernel
theorem dX4_outSize_1 : decode cX4_outSize 1 = .ok (.iconst 0, 1) := by decide +kernel
theorem dX4_outSize_2 : decode cX4_outSize 2 = .ok (.putfield 41, 3) := by decide +kernel
theorem dX4_outSize_5 : decode cX4_outSize 5 = .ok (.aload_n 0, 1) := by decide +kernel
theorem dX4_outSize_6 : decode cX4_outSize 6 = .ok (.getfield 112, 3) := by decide +kernel
theorem dX4_outSize_9 : decode cX4_outSize 9 = .ok (.ireturn, 1) := by decide +kernel
theorem dX4_depth_0 : decode cX4_depth 0 = .ok (.aload_n 0, 1) := by decide +kernel
theorem dX4_depth_1 : decode cX4_depth 1 = .ok (.iconst 0, 1) := by decide +kernel
theorem dX4_depth_2 : decode cX4_depth 2 = .ok (.putfield 41, 3) := by decide +kernel
theorem dX4_depth_5 : decode cX4_depth 5 = .ok (.aload_n 0, 1) := by decide +kernel
theorem dX4_depth_6 : decode cX4_depth 6 = .ok (.getfield 115, 3) := by decide +kernel
theorem dX4_depth_9 : decode cX4_depth 9 = .ok (.ireturn, 1) := by decide +kernel
theorem dJ9_min_f86c9_0 : decode cJ9_min_f86c9 0 = .ok (.lload_n 0, 1) := by decide +kernel
theorem dJ9_min_f86c9_1 : decode cJ9_min_f86c9 1 = .ok (.lload_n 2, 1) := by decide +kernel
theorem dJ9_min_f86c9_2 : decode cJ9_min_f86c9 2 = .ok (.lcmp, 1) := by decide +kernel
theorem dJ9_min_f86c9_3 : decode cJ9_min_f86c9 3 = .ok (.ifCond .gt 7, 3) := by decide +kernel
theorem dJ9_min_f86c9_6 : decode cJ9_min_f86c9 6 = .ok (.lload_n 0, 1) := by decide +kernel
theorem dJ9_min_f86c9_7 : decode cJ9_min_f86c9 7 = .ok (.goto 4, 3) := by decide +kernel
theorem dJ9_min_f86c9_10 : decode cJ9_min_f86c9 10 = .ok (.lload_n 2, 1) := by decide +kernel
theorem dJ9_min_f86c9_11 : decode cJ9_min_f86c9 11 = .ok (.lreturn, 1) := by decide +kernel
end
section
/-- arrays of natural numbers -/
def nA (g : Nat → Nat) : Nat → Int32 := fun j => nI (g j)
theorem nA_up (g : Nat → Nat) (k x : Nat) : upd (nA g) k (nI x) = nA (va_up g k x) := by
  funext j
  by_cases h : j = k <;> simp [upd, nA, va_up, h]
theorem nA_at (g : Nat → Nat) {j : Nat} (h : j < 2 ^ 31) : nA g (nI j).toNatClampNeg = nI (g j) := by
  rw [nI_clamp h]; rfl
theorem up_eq {α : Type} (g : Nat → α) (k : Nat) (x : α) : va_up g k x k = x := by simp [va_up]
theorem up_ne {α : Type} (g : Nat → α) {k j : Nat} (x : α) (h : j ≠ k) : va_up g k x j = g j := by simp [va_up, h]
theorem up_lt {g : Nat → Nat} {N : Nat} (h : ∀ j, g j < N) {k x : Nat} (hx : x < N) : ∀ j, va_up g k x j < N := fun j => by
  by_cases e : j = k
  · rw [e, up_eq]; exact hx
  · rw [up_ne g x e]; exact h j
theorem cl_of {b : Int32} (h : ¬ b < 0) : b = nI b.toNatClampNeg := by
  obtain ⟨j, hj, rfl⟩ := nI_of h
  rw [nI_clamp hj]
theorem cl_le {b : Int32} {n : Nat} (h : ¬ b < 0) (hn : n < 2 ^ 31) (h2 : ¬ nI n < b) : b.toNatClampNeg ≤ n := by
  obtain ⟨j, hj, rfl⟩ := nI_of h
  rw [nI_clamp hj]
  exact Nat.not_lt.mp (fun q => h2 ((nI_ltI hn hj).mpr q))
theorem cl_lt {b : Int32} {n : Nat} (h : ¬ b < 0) (hn : n < 2 ^ 31) (h2 : b < nI n) : b.toNatClampNeg < n := by
  obtain ⟨j, hj, rfl⟩ := nI_of h
  rw [nI_clamp hj]
  exact (nI_ltI hj hn).mp h2
theorem nI_or (a b : Nat) : nI a ||| nI b = nI (a ||| b) := by
  apply Int32.toBitVec_inj.mp
  apply BitVec.eq_of_getLsbD_eq
  intro i hi
  simp [nI, BitVec.getLsbD_ofNat, hi]
theorem num_step {a b : Nat} (ha : a * 256 < 2 ^ 32) (hb : b < 256) : nI a <<< (nI 8 &&& 31) ||| nI b = nI (a * 256 + b) := by
  rw [pk_shlN (n := a) (nI 8 &&& 31) 8 (by decide) (by omega), nI_or]
  congr 1
  have := Nat.two_pow_add_eq_or_of_lt (i := 8) (b := b) hb a
  rw [Nat.mul_comm a (2 ^ 8), ← this]
abbrev isB (b : Int32) : Prop := ¬ b < 0 ∧ ¬ nI 255 < b
theorem isB_iff {x : Int32} : (¬ x < 0 ∧ ¬ nI 256 ≤ x) ↔ isB x := by
  simp only [isB, Int32.lt_iff_toInt_lt, Int32.le_iff_toInt_le, show (nI 256).toInt = 256 from rfl, show (nI 255).toInt = 255 from rfl, show (0 : Int32).toInt = 0 from rfl]
  omega
abbrev isNd (nd : Nat) (node : Int32) : Prop := ¬ node < 0 ∧ node < nI nd
abbrev isSm (nd : Nat) (tg ln : Nat → Nat) (node : Int32) : Prop := ¬ node < 0 ∧ node < nI nd ∧ tg node.toNatClampNeg = 2 ∧ ln node.toNatClampNeg ≤ 4
abbrev isId (x : Int32) : Prop := (¬ x < nI 1 ∧ x ≤ nI 6) ∨ x = nI 48
def numN (f : Nat → Nat) (p : Nat) : Nat → Nat
  | 0 => 0
  | k + 1 => numN f p k * 256 + f (p + k)
theorem numN_lt {f : Nat → Nat} (hf : ∀ j, f j < 256) (p : Nat) : ∀ k, numN f p k < 256 ^ k
  | 0 => Nat.one_pos
  | k + 1 => by
    have h1 := numN_lt hf p k
    have h2 := hf (p + k)
    show numN f p k * 256 + f (p + k) < 256 ^ (k + 1)
    rw [Nat.pow_succ]
    omega
theorem num24 {f : Nat → Nat} (hf : ∀ j, f j < 256) {p k : Nat} (hk : k ≤ 3) : numN f p k < 16777216 := by
  refine Nat.lt_of_lt_of_le (numN_lt hf p k) ?_
  rcases (show k = 0 ∨ k = 1 ∨ k = 2 ∨ k = 3 by omega) with rfl | rfl | rfl | rfl <;> decide
def siVal (f : Nat → Nat) (a n : Nat) : Int32 := (nI (numN f a n) <<< (nI (32 - 8 * n) &&& 31)) >>> (nI (32 - 8 * n) &&& 31)
/-- the offence of a length that is cut off -/
def cutE (lv rs pl : Nat) : Int32 × Int32 := if lv = 0 then (-1, nI rs) else (-4, nI pl)
/-- a count that is one below a natural number: -1 at its end -/
def mI : Nat → Int32
  | 0 => -1
  | k + 1 => nI k
theorem mI_sub (k : Nat) : nI k - 1 = mI k := by
  cases k with
  | zero => decide
  | succ k => exact nI_pred k
theorem mI_dec (k : Nat) : nI k + Int32.ofInt (-1) = mI k := by
  cases k with
  | zero => decide
  | succ k => exact pk_m1 k
theorem nI_inc (a k : Nat) : nI a + Int32.ofInt (k : Int) = nI (a + k) := by
  rw [← nI_add]; congr 1
theorem z_narrow {P : Prop} (h : Decidable P) : narrow .boolean (.int (if P then 1 else 0)) = .int (if P then 1 else 0) := by
  by_cases q : P <;> simp [q] <;> rfl
section HP
variable {p : Program} {l : Launch} {e : Env} {R : Room} {s : State} {m : MethodId} {args : Array Value} {below : List Frame} {meth : Method} {c : Code} {H : Heap} {locs : List Loc} {cells slots : Nat} {Q : State → Prop}
variable {cc : ByteArray} {pc : Nat} {ls : Array Slot} {rest : List Value} {D : va_G} {cl : List vw_C} {A : Nat → Prop} {a : Nat} {tys : List (ClassId × FieldType)} {ws : va_W} {H0 : Heap}
theorem hl_top {x y : Int32} (h : x = y) (k : W p l e R s m args below meth c H locs cells slots Q (F0 m pc ls (.int y :: rest))) : W p l e R s m args below meth c H locs cells slots Q (F0 m pc ls (.int x :: rest)) := h ▸ k
theorem hl_topl {x y : Int64} (h : x = y) (k : W p l e R s m args below meth c H locs cells slots Q (F0 m pc ls (.long y :: rest))) : W p l e R s m args below meth c H locs cells slots Q (F0 m pc ls (.long x :: rest)) := h ▸ k
theorem hl_iadd (hexec : p.tables.exec = Jvm.exec) (hb : c.code = cc) {a b : Nat} (hdg : decode cc pc = .ok (.iadd, 1))
    (k : W p l e R s m args below meth c H locs cells slots Q (F0 m (pc + 1) ls (.int (nI (a + b)) :: rest))) : W p l e R s m args below meth c H locs cells slots Q (F0 m pc ls (.int (nI b) :: .int (nI a) :: rest)) := lv_iadd hexec hb hdg (by rw [nI_add]; exact k)
theorem hl_isub (hexec : p.tables.exec = Jvm.exec) (hb : c.code = cc) {a b : Nat} (h : b ≤ a) (hdg : decode cc pc = .ok (.isub, 1))
    (k : W p l e R s m args below meth c H locs cells slots Q (F0 m (pc + 1) ls (.int (nI (a - b)) :: rest))) : W p l e R s m args below meth c H locs cells slots Q (F0 m pc ls (.int (nI b) :: .int (nI a) :: rest)) := lv_isub hexec hb hdg (by rw [pk_sub h]; exact k)
theorem hl_imul (hexec : p.tables.exec = Jvm.exec) (hb : c.code = cc) {a b : Nat} (hdg : decode cc pc = .ok (.imul, 1))
    (k : W p l e R s m args below meth c H locs cells slots Q (F0 m (pc + 1) ls (.int (nI (a * b)) :: rest))) : W p l e R s m args below meth c H locs cells slots Q (F0 m pc ls (.int (nI b) :: .int (nI a) :: rest)) := lv_imul hexec hb hdg (by rw [pk_mul]; exact k)
theorem hl_icmp_lt (hexec : p.tables.exec = Jvm.exec) (hb : c.code = cc) {a b : Nat} {off : Int} {tgt : Nat} (hdg : decode cc pc = .ok (.if_icmp .lt off, 3)) (ht : (pc : Int) + off = (tgt : Int)) (ha : a < 2 ^ 31) (hb2 : b < 2 ^ 31)
    (kt : a < b → W p l e R s m args below meth c H locs cells slots Q (F0 m tgt ls rest)) (kf : ¬ a < b → W p l e R s m args below meth c H locs cells slots Q (F0 m (pc + 3) ls rest)) : W p l e R s m args below meth c H locs cells slots Q (F0 m pc ls (.int (nI b) :: .int (nI a) :: rest)) := lv_icmp_lt hexec hb hdg ht (fun h => kt ((nI_ltI ha hb2).mp h)) (fun h => kf (fun q => h ((nI_ltI ha hb2).mpr q)))
theorem hl_icmp_ge (hexec : p.tables.exec = Jvm.exec) (hb : c.code = cc) {a b : Nat} {off : Int} {tgt : Nat} (hdg : decode cc pc = .ok (.if_icmp .ge off, 3)) (ht : (pc : Int) + off = (tgt : Int)) (ha : a < 2 ^ 31) (hb2 : b < 2 ^ 31)
    (kt : b ≤ a → W p l e R s m args below meth c H locs cells slots Q (F0 m tgt ls rest)) (kf : ¬ b ≤ a → W p l e R s m args below meth c H locs cells slots Q (F0 m (pc + 3) ls rest)) : W p l e R s m args below meth c H locs cells slots Q (F0 m pc ls (.int (nI b) :: .int (nI a) :: rest)) := lv_icmp_ge hexec hb hdg ht (fun h => kt ((nI_leI hb2 ha).mp h)) (fun h => kf (fun q => h ((nI_leI hb2 ha).mpr q)))
theorem hl_icmp_gt (hexec : p.tables.exec = Jvm.exec) (hb : c.code = cc) {a b : Nat} {off : Int} {tgt : Nat} (hdg : decode cc pc = .ok (.if_icmp .gt off, 3)) (ht : (pc : Int) + off = (tgt : Int)) (ha : a < 2 ^ 31) (hb2 : b < 2 ^ 31)
    (kt : b < a → W p l e R s m args below meth c H locs cells slots Q (F0 m tgt ls rest)) (kf : ¬ b < a → W p l e R s m args below meth c H locs cells slots Q (F0 m (pc + 3) ls rest)) : W p l e R s m args below meth c H locs cells slots Q (F0 m pc ls (.int (nI b) :: .int (nI a) :: rest)) := lv_icmp_gt hexec hb hdg ht (fun h => kt ((nI_ltI hb2 ha).mp h)) (fun h => kf (fun q => h ((nI_ltI hb2 ha).mpr q)))
theorem hl_icmp_le (hexec : p.tables.exec = Jvm.exec) (hb : c.code = cc) {a b : Nat} {off : Int} {tgt : Nat} (hdg : decode cc pc = .ok (.if_icmp .le off, 3)) (ht : (pc : Int) + off = (tgt : Int)) (ha : a < 2 ^ 31) (hb2 : b < 2 ^ 31)
    (kt : a ≤ b → W p l e R s m args below meth c H locs cells slots Q (F0 m tgt ls rest)) (kf : ¬ a ≤ b → W p l e R s m args below meth c H locs cells slots Q (F0 m (pc + 3) ls rest)) : W p l e R s m args below meth c H locs cells slots Q (F0 m pc ls (.int (nI b) :: .int (nI a) :: rest)) := lv_icmp_le hexec hb hdg ht (fun h => kt ((nI_leI ha hb2).mp h)) (fun h => kf (fun q => h ((nI_leI ha hb2).mpr q)))
theorem hl_icmp_eq (hexec : p.tables.exec = Jvm.exec) (hb : c.code = cc) {a b : Nat} {off : Int} {tgt : Nat} (hdg : decode cc pc = .ok (.if_icmp .eq off, 3)) (ht : (pc : Int) + off = (tgt : Int)) (ha : a < 2 ^ 31) (hb2 : b < 2 ^ 31)
    (kt : a = b → W p l e R s m args below meth c H locs cells slots Q (F0 m tgt ls rest)) (kf : ¬ a = b → W p l e R s m args below meth c H locs cells slots Q (F0 m (pc + 3) ls rest)) : W p l e R s m args below meth c H locs cells slots Q (F0 m pc ls (.int (nI b) :: .int (nI a) :: rest)) := lv_icmp_eq hexec hb hdg ht (fun h => kt ((nI_eq ha hb2).mp h)) (fun h => kf (fun q => h ((nI_eq ha hb2).mpr q)))
theorem hl_icmp_ne (hexec : p.tables.exec = Jvm.exec) (hb : c.code = cc) {a b : Nat} {off : Int} {tgt : Nat} (hdg : decode cc pc = .ok (.if_icmp .ne off, 3)) (ht : (pc : Int) + off = (tgt : Int)) (ha : a < 2 ^ 31) (hb2 : b < 2 ^ 31)
    (kt : ¬ a = b → W p l e R s m args below meth c H locs cells slots Q (F0 m tgt ls rest)) (kf : a = b → W p l e R s m args below meth c H locs cells slots Q (F0 m (pc + 3) ls rest)) : W p l e R s m args below meth c H locs cells slots Q (F0 m pc ls (.int (nI b) :: .int (nI a) :: rest)) := lv_icmp_ne hexec hb hdg ht (fun h => kt (fun q => h ((nI_eq ha hb2).mpr q))) (fun h => kf ((nI_eq ha hb2).mp h))
theorem hl_if_eq (hexec : p.tables.exec = Jvm.exec) (hb : c.code = cc) {a : Nat} {off : Int} {tgt : Nat} (hdg : decode cc pc = .ok (.ifCond .eq off, 3)) (ht : (pc : Int) + off = (tgt : Int)) (ha : a < 2 ^ 31)
    (kt : a = 0 → W p l e R s m args below meth c H locs cells slots Q (F0 m tgt ls rest)) (kf : ¬ a = 0 → W p l e R s m args below meth c H locs cells slots Q (F0 m (pc + 3) ls rest)) : W p l e R s m args below meth c H locs cells slots Q (F0 m pc ls (.int (nI a) :: rest)) := lv_if_eq hexec hb hdg ht (fun h => kt ((nI_eq (b := 0) ha (by decide)).mp h)) (fun h => kf (fun q => h ((nI_eq (b := 0) ha (by decide)).mpr q)))
theorem hl_if_ne (hexec : p.tables.exec = Jvm.exec) (hb : c.code = cc) {a : Nat} {off : Int} {tgt : Nat} (hdg : decode cc pc = .ok (.ifCond .ne off, 3)) (ht : (pc : Int) + off = (tgt : Int)) (ha : a < 2 ^ 31)
    (kt : ¬ a = 0 → W p l e R s m args below meth c H locs cells slots Q (F0 m tgt ls rest)) (kf : a = 0 → W p l e R s m args below meth c H locs cells slots Q (F0 m (pc + 3) ls rest)) : W p l e R s m args below meth c H locs cells slots Q (F0 m pc ls (.int (nI a) :: rest)) := lv_if_ne hexec hb hdg ht (fun h => kt (fun q => h ((nI_eq (b := 0) ha (by decide)).mpr q))) (fun h => kf ((nI_eq (b := 0) ha (by decide)).mp h))
theorem hl_if_gt (hexec : p.tables.exec = Jvm.exec) (hb : c.code = cc) {a : Nat} {off : Int} {tgt : Nat} (hdg : decode cc pc = .ok (.ifCond .gt off, 3)) (ht : (pc : Int) + off = (tgt : Int)) (ha : a < 2 ^ 31)
    (kt : 0 < a → W p l e R s m args below meth c H locs cells slots Q (F0 m tgt ls rest)) (kf : ¬ 0 < a → W p l e R s m args below meth c H locs cells slots Q (F0 m (pc + 3) ls rest)) : W p l e R s m args below meth c H locs cells slots Q (F0 m pc ls (.int (nI a) :: rest)) := lv_if_gt hexec hb hdg ht (fun h => kt ((nI_ltI (a := 0) (by decide) ha).mp h)) (fun h => kf (fun q => h ((nI_ltI (a := 0) (by decide) ha).mpr q)))
theorem hl_if_le (hexec : p.tables.exec = Jvm.exec) (hb : c.code = cc) {a : Nat} {off : Int} {tgt : Nat} (hdg : decode cc pc = .ok (.ifCond .le off, 3)) (ht : (pc : Int) + off = (tgt : Int)) (ha : a < 2 ^ 31)
    (kt : a ≤ 0 → W p l e R s m args below meth c H locs cells slots Q (F0 m tgt ls rest)) (kf : ¬ a ≤ 0 → W p l e R s m args below meth c H locs cells slots Q (F0 m (pc + 3) ls rest)) : W p l e R s m args below meth c H locs cells slots Q (F0 m pc ls (.int (nI a) :: rest)) := lv_if_le hexec hb hdg ht (fun h => kt ((nI_leI (b := 0) ha (by decide)).mp h)) (fun h => kf (fun q => h ((nI_leI (b := 0) ha (by decide)).mpr q)))
theorem hl_if_lt (hexec : p.tables.exec = Jvm.exec) (hb : c.code = cc) {a : Nat} {off : Int} {tgt : Nat} (hdg : decode cc pc = .ok (.ifCond .lt off, 3)) (ht : (pc : Int) + off = (tgt : Int)) (ha : a < 2 ^ 31)
    (kt : a < 0 → W p l e R s m args below meth c H locs cells slots Q (F0 m tgt ls rest)) (kf : ¬ a < 0 → W p l e R s m args below meth c H locs cells slots Q (F0 m (pc + 3) ls rest)) : W p l e R s m args below meth c H locs cells slots Q (F0 m pc ls (.int (nI a) :: rest)) := lv_if_lt hexec hb hdg ht (fun h => kt ((nI_ltI (b := 0) ha (by decide)).mp h)) (fun h => kf (fun q => h ((nI_ltI (b := 0) ha (by decide)).mpr q)))
theorem hl_if_ge (hexec : p.tables.exec = Jvm.exec) (hb : c.code = cc) {a : Nat} {off : Int} {tgt : Nat} (hdg : decode cc pc = .ok (.ifCond .ge off, 3)) (ht : (pc : Int) + off = (tgt : Int)) (ha : a < 2 ^ 31)
    (kt : 0 ≤ a → W p l e R s m args below meth c H locs cells slots Q (F0 m tgt ls rest)) (kf : ¬ 0 ≤ a → W p l e R s m args below meth c H locs cells slots Q (F0 m (pc + 3) ls rest)) : W p l e R s m args below meth c H locs cells slots Q (F0 m pc ls (.int (nI a) :: rest)) := lv_if_ge hexec hb hdg ht (fun h => kt ((nI_leI (a := 0) (by decide) ha).mp h)) (fun h => kf (fun q => h ((nI_leI (a := 0) (by decide) ha).mpr q)))
theorem hl_ifb_eq (hexec : p.tables.exec = Jvm.exec) (hb : c.code = cc) {P : Prop} {hd : Decidable P} {off : Int} {tgt : Nat} (hdg : decode cc pc = .ok (.ifCond .eq off, 3)) (ht : (pc : Int) + off = (tgt : Int))
    (kt : ¬ P → W p l e R s m args below meth c H locs cells slots Q (F0 m tgt ls rest)) (kf : P → W p l e R s m args below meth c H locs cells slots Q (F0 m (pc + 3) ls rest)) : W p l e R s m args below meth c H locs cells slots Q (F0 m pc ls (.int (if P then 1 else 0) :: rest)) := lv_if_eq hexec hb hdg ht (fun h => kt (fun q => by rw [if_pos q] at h; exact absurd h (by decide))) (fun h => kf (by by_cases q : P; exact q; exact absurd (if_neg q) h))
theorem hl_ifb_ne (hexec : p.tables.exec = Jvm.exec) (hb : c.code = cc) {P : Prop} {hd : Decidable P} {off : Int} {tgt : Nat} (hdg : decode cc pc = .ok (.ifCond .ne off, 3)) (ht : (pc : Int) + off = (tgt : Int))
    (kt : P → W p l e R s m args below meth c H locs cells slots Q (F0 m tgt ls rest)) (kf : ¬ P → W p l e R s m args below meth c H locs cells slots Q (F0 m (pc + 3) ls rest)) : W p l e R s m args below meth c H locs cells slots Q (F0 m pc ls (.int (if P then 1 else 0) :: rest)) := lv_if_ne hexec hb hdg ht (fun h => kt (by by_cases q : P; exact q; exact absurd (if_neg q) h)) (fun h => kf (fun q => by rw [if_pos q] at h; exact absurd h (by decide)))
theorem hl_iald (hexec : p.tables.exec = Jvm.exec) (hb : c.code = cc) (hK : va_K D cl tys s) (hP : va_P D cl ws H) (q0 t0 : Nat) {cA : ClassId} {n : Nat} {g : Nat → Nat} (ha : ws[q0]? = some (a, .inl (cA, n, .inl (nA g)))) (ht : tys[t0]? = some (cA, .int)) {j : Nat} (hj : j < n) (hn : n < 2 ^ 31) (hdg : decode cc pc = .ok (.iaload, 1))
    (kk : W p l e R s m args below meth c H locs cells slots Q (F0 m (pc + 1) ls (.int (nI (g j)) :: rest))) : W p l e R s m args below meth c H locs cells slots Q (F0 m pc ls (.int (nI j) :: .ref a :: rest)) := va_iald hexec hb hK hP q0 t0 ha ht (vp_in_nI hj hn) hdg (by rw [nA_at g (Nat.lt_trans hj hn)]; exact kk)
theorem hl_ialdI (hexec : p.tables.exec = Jvm.exec) (hb : c.code = cc) (hK : va_K D cl tys s) (hP : va_P D cl ws H) (q0 t0 : Nat) {cA : ClassId} {n : Nat} {g : Nat → Int32} (ha : ws[q0]? = some (a, .inl (cA, n, .inl g))) (ht : tys[t0]? = some (cA, .int)) {j : Nat} (hj : j < n) (hn : n < 2 ^ 31) (hdg : decode cc pc = .ok (.iaload, 1))
    (kk : W p l e R s m args below meth c H locs cells slots Q (F0 m (pc + 1) ls (.int (g j) :: rest))) : W p l e R s m args below meth c H locs cells slots Q (F0 m pc ls (.int (nI j) :: .ref a :: rest)) := va_iald hexec hb hK hP q0 t0 ha ht (vp_in_nI hj hn) hdg (by rw [nI_clamp (Nat.lt_trans hj hn)]; exact kk)
theorem hl_iast (hexec : p.tables.exec = Jvm.exec) (hb : c.code = cc) (hK : va_K D cl tys s) (hP : va_P D cl ws H) (hD : va_D A ws) (hS : va_S A H0 H locs) (q0 t0 : Nat) {cA : ClassId} {n : Nat} {g : Nat → Nat} (ha : ws[q0]? = some (a, .inl (cA, n, .inl (nA g)))) (ht : tys[t0]? = some (cA, .int)) {j : Nat} {x : Nat} (hj : j < n) (hn : n < 2 ^ 31) (hdg : decode cc pc = .ok (.iastore, 1))
    (kk : ∀ (H1 : Heap) (locs1 : List Loc), va_P D cl (ws.set q0 (a, .inl (cA, n, .inl (nA (va_up g j x))))) H1 → va_D A (ws.set q0 (a, .inl (cA, n, .inl (nA (va_up g j x))))) → va_S A H0 H1 locs1 → W p l e R s m args below meth c H1 locs1 cells slots Q (F0 m (pc + 1) ls rest)) : W p l e R s m args below meth c H locs cells slots Q (F0 m pc ls (.int (nI x) :: .int (nI j) :: .ref a :: rest)) := va_iast hexec hb hK hP hD hS q0 t0 ha ht (vp_in_nI hj hn) hdg (fun H1 locs1 h1 h2 h3 => by rw [nI_clamp (Nat.lt_trans hj hn), nA_up] at h1 h2; exact kk H1 locs1 h1 h2 h3)
theorem hl_iastI (hexec : p.tables.exec = Jvm.exec) (hb : c.code = cc) (hK : va_K D cl tys s) (hP : va_P D cl ws H) (hD : va_D A ws) (hS : va_S A H0 H locs) (q0 t0 : Nat) {cA : ClassId} {n : Nat} {g : Nat → Int32} (ha : ws[q0]? = some (a, .inl (cA, n, .inl (g)))) (ht : tys[t0]? = some (cA, .int)) {j : Nat} {x : Int32} (hj : j < n) (hn : n < 2 ^ 31) (hdg : decode cc pc = .ok (.iastore, 1))
    (kk : ∀ (H1 : Heap) (locs1 : List Loc), va_P D cl (ws.set q0 (a, .inl (cA, n, .inl (upd g j x)))) H1 → va_D A (ws.set q0 (a, .inl (cA, n, .inl (upd g j x)))) → va_S A H0 H1 locs1 → W p l e R s m args below meth c H1 locs1 cells slots Q (F0 m (pc + 1) ls rest)) : W p l e R s m args below meth c H locs cells slots Q (F0 m pc ls (.int (x) :: .int (nI j) :: .ref a :: rest)) := va_iast hexec hb hK hP hD hS q0 t0 ha ht (vp_in_nI hj hn) hdg (fun H1 locs1 h1 h2 h3 => by rw [nI_clamp (Nat.lt_trans hj hn)] at h1 h2; exact kk H1 locs1 h1 h2 h3)
end HP
/-- a contract's start and end, in one form -/
abbrev cPre (dC : Nat → ClassId) (dI : Nat → Nat → Nat) (cA : ClassId) (ws : va_W) (sz : Nat) : State → Prop := fun U => U.heap.size = sz ∧ va_P (dC, dI) vwCl ws U.heap ∧ va_K (dC, dI) vwCl [(cA, .int)] U ∧ va_D (fun _ => True) ws
abbrev cAft (dC : Nat → ClassId) (dI : Nat → Nat → Nat) (cA : ClassId) (A : Nat → Prop) (ws : va_W) : State → Prop := fun t => va_P (dC, dI) vwCl ws t.heap ∧ va_K (dC, dI) vwCl [(cA, .int)] t ∧ va_D A ws
theorem cPre_blind {dC : Nat → ClassId} {dI : Nat → Nat → Nat} {cA : ClassId} {ws : va_W} {sz : Nat} {As : List Value} : FrameBlind (va_Pc As (cPre dC dI cA ws sz)) := fun a U g mk q => by
  obtain ⟨q0, q1, qP, qK, qD⟩ := q
  exact ⟨q0, q1, qP, va_K.moved (u := U) (U := U.calling g mk a) (Vm.Alike.refl U.vm) qK, qD⟩
theorem fm_of {ws wc : va_W} {is : List Nat} (h : is.map (fun i => ws[i]?) = wc.map some) : is.filterMap (fun i => ws[i]?) = wc := by
  have e : is.filterMap (fun i => ws[i]?) = (is.map (fun i => ws[i]?)).filterMap id := by rw [List.filterMap_map]; rfl
  rw [e, h, List.filterMap_map]
  exact List.filterMap_some
section HC
variable {p : Program} {l : Launch} {e : Env} {R : Room} {s : State} {m : MethodId} {args : Array Value} {below : List Frame} {meth : Method} {c : Code} {H : Heap} {locs : List Loc} {cells slots : Nat} {Q : State → Prop}
variable {y : MethodName} {bytes cc : ByteArray} {maxL nL mc ms n index : Nat} {ret : Option FieldType} {wsy : List Cond} {rm : Room} {Ts : List Cond} {own C : String} {b : Nat} {As rest st0 : List Value} {pc : Nat} {ls : Array Slot} {A0 : Nat → Prop} {H0 : Heap} {dC : Nat → ClassId} {dI : Nat → Nat → Nat} {cA : ClassId} {S : Type} {w1 : S → va_W} {wc ws wr : va_W}
theorem cl_Vi {post : Int32 → S → Prop} (S0 : CallFix p m c cc nL s args Ts own) (hM : Met l y wsy rm (va_Pc (.ref b :: As) (cPre dC dI cA wc H.size)) (va_Qi post (fun u => cAft dC dI cA (va_A wc H.size) (w1 u)) (va_A wc H.size)) mc ms (va_A wc H.size)) (cw : CallW R s args own C index y bytes maxL ret wsy rm mc ms n)
    (hK : va_K (dC, dI) vwCl [(cA, .int)] s) (hP : va_P (dC, dI) vwCl ws H) (hD : va_D A0 ws) (hS : va_S A0 H0 H locs) (hA : ∀ q, H0.size ≤ q → A0 q)
    (isC isR : List Nat) (hC : isC.map (fun i => ws[i]?) = wc.map some) (hR : isR.map (fun i => ws[i]?) = wr.map some) (hnc : va_nd isC = true) (hn : va_nd isR = true) (hdis : ∀ i ∈ isR, i ∉ isC)
    {ci q0 : Nat} {q : vw_C} {fs : List Value} (hc : vwCl[ci]? = some q) (hq1 : q.1 = C) (he : wc[q0]? = some (b, .inr (ci, fs)))
    (hnA : As.length = n) (hsize : ls.size = nL) (hstack : st0 = As.reverse ++ .ref b :: rest) (hW : (rest.map fun v => v.category).sum ≤ 8) (hdg : decode cc pc = .ok (.invokevirtual index, 3)) (hf : cells + mc ≤ R.cells ∧ slots + ms ≤ R.slots)
    (kk : ∀ (r : Int32) (u : S) (H1 : Heap) (locs1 : List Loc), post r u → va_P (dC, dI) vwCl (wr ++ w1 u) H1 → va_D A0 (wr ++ w1 u) → va_S A0 H0 H1 locs1 → W p l e R s m args below meth c H1 locs1 (cells + mc) (slots + ms) Q (F0 m (pc + 3) ls (.int r :: rest))) : W p l e R s m args below meth c H locs cells slots Q (F0 m pc ls st0) := by
  have hPc := hP.sub isC (fm_of hC)
  have hDc := hD.sub isC hnc hC
  have hFc := va_free hD hS hA isC hC
  subst hq1
  refine va_calli (va_runV (As := As) (rest := rest) S0 hM cw ⟨cPre_blind, va_recv hK hPc hc he, fun U hU hW => ⟨rfl, by rw [hU], by rw [hU]; exact hPc, va_K.moved hW.alike hK, hDc.weaken (fun _ _ _ _ => trivial)⟩⟩ rfl hnA hsize hstack (lv_room hW) hdg hf) hS (fun q _ h => hFc q h) hFc (fun r u t H1 locs1 ht hvm hw hB hz1 hk1 hS1 => ?_)
  obtain ⟨hP1, hK1, hD1⟩ := hB
  rw [ht] at hP1
  obtain ⟨hP2, hD2⟩ := va_join hP hD isC isR hC hR hn hdis hk1 hFc hP1 hD1
  exact kk r u H1 locs1 hw hP2 hD2 hS1
theorem cl_Vv {post : S → Prop} (S0 : CallFix p m c cc nL s args Ts own) (hM : Met l y wsy rm (va_Pc (.ref b :: As) (cPre dC dI cA wc H.size)) (va_Qv post (fun u => cAft dC dI cA (va_A wc H.size) (w1 u)) (va_A wc H.size)) mc ms (va_A wc H.size)) (cw : CallW R s args own C index y bytes maxL ret wsy rm mc ms n)
    (hK : va_K (dC, dI) vwCl [(cA, .int)] s) (hP : va_P (dC, dI) vwCl ws H) (hD : va_D A0 ws) (hS : va_S A0 H0 H locs) (hA : ∀ q, H0.size ≤ q → A0 q)
    (isC isR : List Nat) (hC : isC.map (fun i => ws[i]?) = wc.map some) (hR : isR.map (fun i => ws[i]?) = wr.map some) (hnc : va_nd isC = true) (hn : va_nd isR = true) (hdis : ∀ i ∈ isR, i ∉ isC)
    {ci q0 : Nat} {q : vw_C} {fs : List Value} (hc : vwCl[ci]? = some q) (hq1 : q.1 = C) (he : wc[q0]? = some (b, .inr (ci, fs)))
    (hnA : As.length = n) (hsize : ls.size = nL) (hstack : st0 = As.reverse ++ .ref b :: rest) (hW : (rest.map fun v => v.category).sum ≤ 8) (hdg : decode cc pc = .ok (.invokevirtual index, 3)) (hf : cells + mc ≤ R.cells ∧ slots + ms ≤ R.slots)
    (kk : ∀ (u : S) (H1 : Heap) (locs1 : List Loc), post u → va_P (dC, dI) vwCl (wr ++ w1 u) H1 → va_D A0 (wr ++ w1 u) → va_S A0 H0 H1 locs1 → W p l e R s m args below meth c H1 locs1 (cells + mc) (slots + ms) Q (F0 m (pc + 3) ls (rest))) : W p l e R s m args below meth c H locs cells slots Q (F0 m pc ls st0) := by
  have hPc := hP.sub isC (fm_of hC)
  have hDc := hD.sub isC hnc hC
  have hFc := va_free hD hS hA isC hC
  subst hq1
  refine va_callv (va_runV (As := As) (rest := rest) S0 hM cw ⟨cPre_blind, va_recv hK hPc hc he, fun U hU hW => ⟨rfl, by rw [hU], by rw [hU]; exact hPc, va_K.moved hW.alike hK, hDc.weaken (fun _ _ _ _ => trivial)⟩⟩ rfl hnA hsize hstack (lv_room hW) hdg hf) hS (fun q _ h => hFc q h) hFc (fun u t H1 locs1 ht hvm hw hB hz1 hk1 hS1 => ?_)
  obtain ⟨hP1, hK1, hD1⟩ := hB
  rw [ht] at hP1
  obtain ⟨hP2, hD2⟩ := va_join hP hD isC isR hC hR hn hdis hk1 hFc hP1 hD1
  exact kk u H1 locs1 hw hP2 hD2 hS1
theorem cl_Vl {post : Int64 → S → Prop} (S0 : CallFix p m c cc nL s args Ts own) (hM : Met l y wsy rm (va_Pc (.ref b :: As) (cPre dC dI cA wc H.size)) (va_Ql post (fun u => cAft dC dI cA (va_A wc H.size) (w1 u)) (va_A wc H.size)) mc ms (va_A wc H.size)) (cw : CallW R s args own C index y bytes maxL ret wsy rm mc ms n)
    (hK : va_K (dC, dI) vwCl [(cA, .int)] s) (hP : va_P (dC, dI) vwCl ws H) (hD : va_D A0 ws) (hS : va_S A0 H0 H locs) (hA : ∀ q, H0.size ≤ q → A0 q)
    (isC isR : List Nat) (hC : isC.map (fun i => ws[i]?) = wc.map some) (hR : isR.map (fun i => ws[i]?) = wr.map some) (hnc : va_nd isC = true) (hn : va_nd isR = true) (hdis : ∀ i ∈ isR, i ∉ isC)
    {ci q0 : Nat} {q : vw_C} {fs : List Value} (hc : vwCl[ci]? = some q) (hq1 : q.1 = C) (he : wc[q0]? = some (b, .inr (ci, fs)))
    (hnA : As.length = n) (hsize : ls.size = nL) (hstack : st0 = As.reverse ++ .ref b :: rest) (hW : (rest.map fun v => v.category).sum ≤ 8) (hdg : decode cc pc = .ok (.invokevirtual index, 3)) (hf : cells + mc ≤ R.cells ∧ slots + ms ≤ R.slots)
    (kk : ∀ (r : Int64) (u : S) (H1 : Heap) (locs1 : List Loc), post r u → va_P (dC, dI) vwCl (wr ++ w1 u) H1 → va_D A0 (wr ++ w1 u) → va_S A0 H0 H1 locs1 → W p l e R s m args below meth c H1 locs1 (cells + mc) (slots + ms) Q (F0 m (pc + 3) ls (.long r :: rest))) : W p l e R s m args below meth c H locs cells slots Q (F0 m pc ls st0) := by
  have hPc := hP.sub isC (fm_of hC)
  have hDc := hD.sub isC hnc hC
  have hFc := va_free hD hS hA isC hC
  subst hq1
  refine va_calll (va_runV (As := As) (rest := rest) S0 hM cw ⟨cPre_blind, va_recv hK hPc hc he, fun U hU hW => ⟨rfl, by rw [hU], by rw [hU]; exact hPc, va_K.moved hW.alike hK, hDc.weaken (fun _ _ _ _ => trivial)⟩⟩ rfl hnA hsize hstack (lv_room hW) hdg hf) hS (fun q _ h => hFc q h) hFc (fun r u t H1 locs1 ht hvm hw hB hz1 hk1 hS1 => ?_)
  obtain ⟨hP1, hK1, hD1⟩ := hB
  rw [ht] at hP1
  obtain ⟨hP2, hD2⟩ := va_join hP hD isC isR hC hR hn hdis hk1 hFc hP1 hD1
  exact kk r u H1 locs1 hw hP2 hD2 hS1
theorem cl_Si {post : Int32 → S → Prop} (S0 : CallFix p m c cc nL s args Ts own) (hM : Met l y wsy rm (va_Pc As (cPre dC dI cA wc H.size)) (va_Qi post (fun u => cAft dC dI cA (va_A wc H.size) (w1 u)) (va_A wc H.size)) mc ms (va_A wc H.size)) (cw : CallB R s args own index y bytes maxL ret wsy rm mc ms n ∧ (Cond.static y).before args s = true)
    (hK : va_K (dC, dI) vwCl [(cA, .int)] s) (hP : va_P (dC, dI) vwCl ws H) (hD : va_D A0 ws) (hS : va_S A0 H0 H locs) (hA : ∀ q, H0.size ≤ q → A0 q)
    (isC isR : List Nat) (hC : isC.map (fun i => ws[i]?) = wc.map some) (hR : isR.map (fun i => ws[i]?) = wr.map some) (hnc : va_nd isC = true) (hn : va_nd isR = true) (hdis : ∀ i ∈ isR, i ∉ isC)
    (hnA : As.length = n) (hsize : ls.size = nL) (hstack : st0 = As.reverse ++ rest) (hW : (rest.map fun v => v.category).sum ≤ 8) (hdg : decode cc pc = .ok (.invokestatic index, 3)) (hf : cells + mc ≤ R.cells ∧ slots + ms ≤ R.slots)
    (kk : ∀ (r : Int32) (u : S) (H1 : Heap) (locs1 : List Loc), post r u → va_P (dC, dI) vwCl (wr ++ w1 u) H1 → va_D A0 (wr ++ w1 u) → va_S A0 H0 H1 locs1 → W p l e R s m args below meth c H1 locs1 (cells + mc) (slots + ms) Q (F0 m (pc + 3) ls (.int r :: rest))) : W p l e R s m args below meth c H locs cells slots Q (F0 m pc ls st0) := by
  have hPc := hP.sub isC (fm_of hC)
  have hDc := hD.sub isC hnc hC
  have hFc := va_free hD hS hA isC hC
  refine va_calli (va_runS (As := As) (rest := rest) S0 hM cw ⟨cPre_blind, fun U hU hW => ⟨rfl, by rw [hU], by rw [hU]; exact hPc, va_K.moved hW.alike hK, hDc.weaken (fun _ _ _ _ => trivial)⟩⟩ rfl hnA hsize hstack (lv_room hW) hdg hf) hS (fun q _ h => hFc q h) hFc (fun r u t H1 locs1 ht hvm hw hB hz1 hk1 hS1 => ?_)
  obtain ⟨hP1, hK1, hD1⟩ := hB
  rw [ht] at hP1
  obtain ⟨hP2, hD2⟩ := va_join hP hD isC isR hC hR hn hdis hk1 hFc hP1 hD1
  exact kk r u H1 locs1 hw hP2 hD2 hS1
end HC
end
section
abbrev wR (cA : ClassId) (r0 : Nat) (r1 : Nat) (r2 : Nat) (r3 : Nat) (r4 : Nat) (r5 : Nat) (r6 : Nat) (row : Nat → Nat) (rs : Nat) (tg : Nat → Nat) (st : Nat → Nat) (ln : Nat → Nat) (pa : Nat → Int32) (nd : Nat) (ar : Nat → Nat) (lv : Nat) (of : Int32) : va_W := [(r0, .inr (0, [.ref r1, .int (nI rs), .ref r2, .ref r3, .ref r4, .ref r5, .int (nI nd), .ref r6, .int (nI lv), .int of])), (r1, .inl (cA, 300, .inl (nA row))), (r2, .inl (cA, 64, .inl (nA tg))), (r3, .inl (cA, 64, .inl (nA st))), (r4, .inl (cA, 64, .inl (nA ln))), (r5, .inl (cA, 64, .inl (pa))), (r6, .inl (cA, 16, .inl (nA ar)))]
abbrev wW (cA : ClassId) (v0 : Nat) (v1 : Nat) (v2 : Nat) (bt : Nat → Nat) (wz : Nat) (op : Nat → Nat) (dp : Nat) : va_W := [(v0, .inr (1, [.ref v1, .int (nI wz), .ref v2, .int (nI dp)])), (v1, .inl (cA, 300, .inl (nA bt))), (v2, .inl (cA, 16, .inl (nA op)))]
abbrev wK (cA : ClassId) (k0 : Nat) (r0 : Nat) (v0 : Nat) : va_W := [(k0, .inr (2, [.ref r0, .ref v0]))]
abbrev wM (cA : ClassId) (m0 : Nat) (m1 : Nat) (m2 : Nat) (m3 : Nat) (m4 : Nat) (m5 : Nat) (m6 : Nat) (m7 : Nat) (m8 : Nat) (m9 : Nat) (cd : Int32) (row : Nat → Nat) (sz1 : Nat) (nd : Nat) (tg : Nat → Nat) (st : Nat → Nat) (ln : Nat → Nat) (pa : Nat → Int32) (rd : Nat) (of : Int32) (ar : Nat → Nat) (dp : Nat) (at_ : Nat) (rs : Int32) (fd : Nat) (pl : Int32) (tx : Nat → Nat) (ou : Nat → Nat) (wr : Nat) (op : Nat → Nat) (on : Nat) (dn : Nat) : va_W := [(m0, .inr (3, [.int cd, .ref m1, .int (nI sz1), .int (nI nd), .ref m2, .ref m3, .ref m4, .ref m5, .int (nI rd), .int of, .ref m6, .int (nI dp), .int (nI at_), .int rs, .int (nI fd), .int pl, .ref m7, .ref m8, .int (nI wr), .ref m9, .int (nI on), .int (nI dn)])), (m1, .inl (cA, 300, .inl (nA row))), (m2, .inl (cA, 64, .inl (nA tg))), (m3, .inl (cA, 64, .inl (nA st))), (m4, .inl (cA, 64, .inl (nA ln))), (m5, .inl (cA, 64, .inl (pa))), (m6, .inl (cA, 17, .inl (nA ar))), (m7, .inl (cA, 300, .inl (nA tx))), (m8, .inl (cA, 300, .inl (nA ou))), (m9, .inl (cA, 16, .inl (nA op)))]
abbrev wA (cA : ClassId) (y0 : Nat) (yf : Nat → Nat) : va_W := [(y0, .inl (cA, 300, .inl (nA yf)))]
end
section
abbrev pX1_isByte (x : Int32) : Int32 → Unit → Prop := fun (r : Int32) (u : Unit) => r = if isB x then 1 else 0
abbrev vX1_isByte (cA : ClassId) (x : Int32) : Unit → va_W := fun (u : Unit) => []
abbrev qX1_isByte (dC : Nat → ClassId) (dI : Nat → Nat → Nat) (cA : ClassId) (A : Nat → Prop) (x : Int32) : Array Value → State → Outcome → State → Prop := va_Qi (pX1_isByte x) (fun u => cAft dC dI cA A (vX1_isByte cA x u)) A
set_option maxHeartbeats 4000000 in
set_option maxRecDepth 100000 in
theorem k_X1_isByte (l : Launch) (dC : Nat → ClassId) (dI : Nat → Nat → Nat) (cA : ClassId) (x : Int32) (sz : Nat)  : Met l yX1_isByte wsX1_isByte ({ frames := 0, cells := 0, slots := 0, locals := 0 } : Room) (va_Pc [.int x] (cPre dC dI cA ([]) sz)) (qX1_isByte dC dI cA (va_A ([]) sz) x) 0 0 (va_A ([]) sz) := by
  refine Met.ofW (cc := cX1_isByte) (maxL := 1) (ret := (some .boolean)) (by decide) rfl ?_
  intro p e s m args below meth c s₁ B hml hv
  obtain ⟨rfl, hsz, hP, hK, hD0⟩ := hv
  have hx := B.exec
  have hb := B.bytes
  have hr := B.returns
  have hts := atoms_spec (ws := wsX1_isByte) B.pre
  have hown : s.vm.findClass RX1 = some m.cls := findClass_of_methodNamed B.named
  have hlocks := B.notSynchronized
  subst hsz
  have hD := hD0.self (sz := s.heap.size)
  generalize hAe : va_A ([]) s.heap.size = A at hD ⊢
  have hA : ∀ q : Nat, s.heap.size ≤ q → A q := fun q h => by rw [← hAe]; exact Or.inr h
  have hS : va_S A s.heap s.heap [] := va_S.rf
  have hl := lv_entry ([.int x]) (n := 1) (Nat.le_of_ble_eq_true rfl)
  rw [lg_entry_eq]
  generalize (lg_sl ([.int x]) ++ List.replicate (1 - (lg_sl ([.int x])).length) Slot.unset).toArray = ls at hl ⊢
  have hl : lv_has ls 1 [(0, .int x)] := hl
  have hP : va_P (dC, dI) vwCl ([]) s.heap := hP
  refine lv_iload_n hx hb dX1_isByte_0 rfl (lv_at hl 0 rfl) ?_
  refine lv_if_lt (tgt := 15) hx hb dX1_isByte_1 (by decide) (fun c_1 => ?_) (fun c_1 => ?_)
  · refine lv_iconst (v := nI 0) hx hb dX1_isByte_15 (by decide) ?_
    have hP9 : va_P (dC, dI) vwCl (vX1_isByte cA x ()) _ := hP
    have hD9 : va_D A (vX1_isByte cA x ()) := hD
    have hq9 : pX1_isByte x (nI 0) () := (if_neg (by first | (exact ⟨by assumption, by assumption⟩) | (exact isB_iff.mp ⟨by assumption, by assumption⟩) | (rw [← isB_iff]; grind) | (unfold isB; grind))).symm
    exact W.zret (v := nI 0) hx hb hr rfl (fun t ht hW => ⟨⟨nI 0, (), rfl, hq9, by rw [ht]; exact hP9, va_K.moved hW.alike hK, hD9⟩, hS.F ht⟩) hS.2.2 dX1_isByte_16
  · refine lv_iload_n hx hb dX1_isByte_4 rfl (lv_at hl 0 rfl) ?_
    refine lv_sipush (v := nI 255) hx hb dX1_isByte_5 (by decide) ?_
    refine lv_icmp_gt (tgt := 15) hx hb dX1_isByte_8 (by decide) (fun c_2 => ?_) (fun c_2 => ?_)
    · refine lv_iconst (v := nI 0) hx hb dX1_isByte_15 (by decide) ?_
      have hP9 : va_P (dC, dI) vwCl (vX1_isByte cA x ()) _ := hP
      have hD9 : va_D A (vX1_isByte cA x ()) := hD
      have hq9 : pX1_isByte x (nI 0) () := (if_neg (by first | (exact ⟨by assumption, by assumption⟩) | (exact isB_iff.mp ⟨by assumption, by assumption⟩) | (rw [← isB_iff]; grind) | (unfold isB; grind))).symm
      exact W.zret (v := nI 0) hx hb hr rfl (fun t ht hW => ⟨⟨nI 0, (), rfl, hq9, by rw [ht]; exact hP9, va_K.moved hW.alike hK, hD9⟩, hS.F ht⟩) hS.2.2 dX1_isByte_16
    · refine lv_iconst (v := nI 1) hx hb dX1_isByte_11 (by decide) ?_
      refine lv_goto (tgt := 16) hx hb dX1_isByte_12 (by decide) ?_
      have hP9 : va_P (dC, dI) vwCl (vX1_isByte cA x ()) _ := hP
      have hD9 : va_D A (vX1_isByte cA x ()) := hD
      have hq9 : pX1_isByte x (nI 1) () := (if_pos (by first | (exact ⟨by assumption, by assumption⟩) | (exact isB_iff.mp ⟨by assumption, by assumption⟩) | (rw [← isB_iff]; grind) | (unfold isB; grind))).symm
      exact W.zret (v := nI 1) hx hb hr rfl (fun t ht hW => ⟨⟨nI 1, (), rfl, hq9, by rw [ht]; exact hP9, va_K.moved hW.alike hK, hD9⟩, hS.F ht⟩) hS.2.2 dX1_isByte_16
abbrev pX4_isByte (x : Int32) : Int32 → Unit → Prop := fun (r : Int32) (u : Unit) => r = if isB x then 1 else 0
abbrev vX4_isByte (cA : ClassId) (x : Int32) : Unit → va_W := fun (u : Unit) => []
abbrev qX4_isByte (dC : Nat → ClassId) (dI : Nat → Nat → Nat) (cA : ClassId) (A : Nat → Prop) (x : Int32) : Array Value → State → Outcome → State → Prop := va_Qi (pX4_isByte x) (fun u => cAft dC dI cA A (vX4_isByte cA x u)) A
set_option maxHeartbeats 4000000 in
set_option maxRecDepth 100000 in
theorem k_X4_isByte (l : Launch) (dC : Nat → ClassId) (dI : Nat → Nat → Nat) (cA : ClassId) (x : Int32) (sz : Nat)  : Met l yX4_isByte wsX4_isByte ({ frames := 0, cells := 0, slots := 0, locals := 0 } : Room) (va_Pc [.int x] (cPre dC dI cA ([]) sz)) (qX4_isByte dC dI cA (va_A ([]) sz) x) 0 0 (va_A ([]) sz) := by
  refine Met.ofW (cc := cX4_isByte) (maxL := 1) (ret := (some .boolean)) (by decide) rfl ?_
  intro p e s m args below meth c s₁ B hml hv
  obtain ⟨rfl, hsz, hP, hK, hD0⟩ := hv
  have hx := B.exec
  have hb := B.bytes
  have hr := B.returns
  have hts := atoms_spec (ws := wsX4_isByte) B.pre
  have hown : s.vm.findClass RX4 = some m.cls := findClass_of_methodNamed B.named
  have hlocks := B.notSynchronized
  subst hsz
  have hD := hD0.self (sz := s.heap.size)
  generalize hAe : va_A ([]) s.heap.size = A at hD ⊢
  have hA : ∀ q : Nat, s.heap.size ≤ q → A q := fun q h => by rw [← hAe]; exact Or.inr h
  have hS : va_S A s.heap s.heap [] := va_S.rf
  have hl := lv_entry ([.int x]) (n := 1) (Nat.le_of_ble_eq_true rfl)
  rw [lg_entry_eq]
  generalize (lg_sl ([.int x]) ++ List.replicate (1 - (lg_sl ([.int x])).length) Slot.unset).toArray = ls at hl ⊢
  have hl : lv_has ls 1 [(0, .int x)] := hl
  have hP : va_P (dC, dI) vwCl ([]) s.heap := hP
  refine lv_iload_n hx hb dX4_isByte_0 rfl (lv_at hl 0 rfl) ?_
  refine lv_if_lt (tgt := 15) hx hb dX4_isByte_1 (by decide) (fun c_1 => ?_) (fun c_1 => ?_)
  · refine lv_iconst (v := nI 0) hx hb dX4_isByte_15 (by decide) ?_
    have hP9 : va_P (dC, dI) vwCl (vX4_isByte cA x ()) _ := hP
    have hD9 : va_D A (vX4_isByte cA x ()) := hD
    have hq9 : pX4_isByte x (nI 0) () := (if_neg (by first | (exact ⟨by assumption, by assumption⟩) | (exact isB_iff.mp ⟨by assumption, by assumption⟩) | (rw [← isB_iff]; grind) | (unfold isB; grind))).symm
    exact W.zret (v := nI 0) hx hb hr rfl (fun t ht hW => ⟨⟨nI 0, (), rfl, hq9, by rw [ht]; exact hP9, va_K.moved hW.alike hK, hD9⟩, hS.F ht⟩) hS.2.2 dX4_isByte_16
  · refine lv_iload_n hx hb dX4_isByte_4 rfl (lv_at hl 0 rfl) ?_
    refine lv_sipush (v := nI 256) hx hb dX4_isByte_5 (by decide) ?_
    refine lv_icmp_ge (tgt := 15) hx hb dX4_isByte_8 (by decide) (fun c_2 => ?_) (fun c_2 => ?_)
    · refine lv_iconst (v := nI 0) hx hb dX4_isByte_15 (by decide) ?_
      have hP9 : va_P (dC, dI) vwCl (vX4_isByte cA x ()) _ := hP
      have hD9 : va_D A (vX4_isByte cA x ()) := hD
      have hq9 : pX4_isByte x (nI 0) () := (if_neg (by first | (exact ⟨by assumption, by assumption⟩) | (exact isB_iff.mp ⟨by assumption, by assumption⟩) | (rw [← isB_iff]; grind) | (unfold isB; grind))).symm
      exact W.zret (v := nI 0) hx hb hr rfl (fun t ht hW => ⟨⟨nI 0, (), rfl, hq9, by rw [ht]; exact hP9, va_K.moved hW.alike hK, hD9⟩, hS.F ht⟩) hS.2.2 dX4_isByte_16
    · refine lv_iconst (v := nI 1) hx hb dX4_isByte_11 (by decide) ?_
      refine lv_goto (tgt := 16) hx hb dX4_isByte_12 (by decide) ?_
      have hP9 : va_P (dC, dI) vwCl (vX4_isByte cA x ()) _ := hP
      have hD9 : va_D A (vX4_isByte cA x ()) := hD
      have hq9 : pX4_isByte x (nI 1) () := (if_pos (by first | (exact ⟨by assumption, by assumption⟩) | (exact isB_iff.mp ⟨by assumption, by assumption⟩) | (rw [← isB_iff]; grind) | (unfold isB; grind))).symm
      exact W.zret (v := nI 1) hx hb hr rfl (fun t ht hW => ⟨⟨nI 1, (), rfl, hq9, by rw [ht]; exact hP9, va_K.moved hW.alike hK, hD9⟩, hS.F ht⟩) hS.2.2 dX4_isByte_16
abbrev pX1_isIdentifier (x : Int32) : Int32 → Unit → Prop := fun (r : Int32) (u : Unit) => r = if isId x then 1 else 0
abbrev vX1_isIdentifier (cA : ClassId) (x : Int32) : Unit → va_W := fun (u : Unit) => []
abbrev qX1_isIdentifier (dC : Nat → ClassId) (dI : Nat → Nat → Nat) (cA : ClassId) (A : Nat → Prop) (x : Int32) : Array Value → State → Outcome → State → Prop := va_Qi (pX1_isIdentifier x) (fun u => cAft dC dI cA A (vX1_isIdentifier cA x u)) A
set_option maxHeartbeats 4000000 in
set_option maxRecDepth 100000 in
theorem k_X1_isIdentifier (l : Launch) (dC : Nat → ClassId) (dI : Nat → Nat → Nat) (cA : ClassId) (x : Int32) (sz : Nat)  : Met l yX1_isIdentifier wsX1_isIdentifier ({ frames := 0, cells := 0, slots := 0, locals := 0 } : Room) (va_Pc [.int x] (cPre dC dI cA ([]) sz)) (qX1_isIdentifier dC dI cA (va_A ([]) sz) x) 0 0 (va_A ([]) sz) := by
  refine Met.ofW (cc := cX1_isIdentifier) (maxL := 1) (ret := (some .boolean)) (by decide) rfl ?_
  intro p e s m args below meth c s₁ B hml hv
  obtain ⟨rfl, hsz, hP, hK, hD0⟩ := hv
  have hx := B.exec
  have hb := B.bytes
  have hr := B.returns
  have hts := atoms_spec (ws := wsX1_isIdentifier) B.pre
  have hown : s.vm.findClass RX1 = some m.cls := findClass_of_methodNamed B.named
  have hlocks := B.notSynchronized
  subst hsz
  have hD := hD0.self (sz := s.heap.size)
  generalize hAe : va_A ([]) s.heap.size = A at hD ⊢
  have hA : ∀ q : Nat, s.heap.size ≤ q → A q := fun q h => by rw [← hAe]; exact Or.inr h
  have hS : va_S A s.heap s.heap [] := va_S.rf
  have hl := lv_entry ([.int x]) (n := 1) (Nat.le_of_ble_eq_true rfl)
  rw [lg_entry_eq]
  generalize (lg_sl ([.int x]) ++ List.replicate (1 - (lg_sl ([.int x])).length) Slot.unset).toArray = ls at hl ⊢
  have hl : lv_has ls 1 [(0, .int x)] := hl
  have hP : va_P (dC, dI) vwCl ([]) s.heap := hP
  refine lv_iload_n hx hb dX1_isIdentifier_0 rfl (lv_at hl 0 rfl) ?_
  refine lv_iconst (v := nI 1) hx hb dX1_isIdentifier_1 (by decide) ?_
  refine lv_icmp_lt (tgt := 11) hx hb dX1_isIdentifier_2 (by decide) (fun c_1 => ?_) (fun c_1 => ?_)
  · refine lv_iload_n hx hb dX1_isIdentifier_11 rfl (lv_at hl 0 rfl) ?_
    refine lv_bipush (v := nI 48) hx hb dX1_isIdentifier_12 (by decide) ?_
    refine lv_icmp_ne (tgt := 21) hx hb dX1_isIdentifier_14 (by decide) (fun c_2 => ?_) (fun c_2 => ?_)
    · refine lv_iconst (v := nI 0) hx hb dX1_isIdentifier_21 (by decide) ?_
      have hP9 : va_P (dC, dI) vwCl (vX1_isIdentifier cA x ()) _ := hP
      have hD9 : va_D A (vX1_isIdentifier cA x ()) := hD
      have hq9 : pX1_isIdentifier x (nI 0) () := (if_neg (by unfold isId; grind)).symm
      exact W.zret (v := nI 0) hx hb hr rfl (fun t ht hW => ⟨⟨nI 0, (), rfl, hq9, by rw [ht]; exact hP9, va_K.moved hW.alike hK, hD9⟩, hS.F ht⟩) hS.2.2 dX1_isIdentifier_22
    · refine lv_iconst (v := nI 1) hx hb dX1_isIdentifier_17 (by decide) ?_
      refine lv_goto (tgt := 22) hx hb dX1_isIdentifier_18 (by decide) ?_
      have hP9 : va_P (dC, dI) vwCl (vX1_isIdentifier cA x ()) _ := hP
      have hD9 : va_D A (vX1_isIdentifier cA x ()) := hD
      have hq9 : pX1_isIdentifier x (nI 1) () := (if_pos (by unfold isId; grind)).symm
      exact W.zret (v := nI 1) hx hb hr rfl (fun t ht hW => ⟨⟨nI 1, (), rfl, hq9, by rw [ht]; exact hP9, va_K.moved hW.alike hK, hD9⟩, hS.F ht⟩) hS.2.2 dX1_isIdentifier_22
  · refine lv_iload_n hx hb dX1_isIdentifier_5 rfl (lv_at hl 0 rfl) ?_
    refine lv_bipush (v := nI 6) hx hb dX1_isIdentifier_6 (by decide) ?_
    refine lv_icmp_le (tgt := 17) hx hb dX1_isIdentifier_8 (by decide) (fun c_3 => ?_) (fun c_3 => ?_)
    · refine lv_iconst (v := nI 1) hx hb dX1_isIdentifier_17 (by decide) ?_
      refine lv_goto (tgt := 22) hx hb dX1_isIdentifier_18 (by decide) ?_
      have hP9 : va_P (dC, dI) vwCl (vX1_isIdentifier cA x ()) _ := hP
      have hD9 : va_D A (vX1_isIdentifier cA x ()) := hD
      have hq9 : pX1_isIdentifier x (nI 1) () := (if_pos (by unfold isId; grind)).symm
      exact W.zret (v := nI 1) hx hb hr rfl (fun t ht hW => ⟨⟨nI 1, (), rfl, hq9, by rw [ht]; exact hP9, va_K.moved hW.alike hK, hD9⟩, hS.F ht⟩) hS.2.2 dX1_isIdentifier_22
    · refine lv_iload_n hx hb dX1_isIdentifier_11 rfl (lv_at hl 0 rfl) ?_
      refine lv_bipush (v := nI 48) hx hb dX1_isIdentifier_12 (by decide) ?_
      refine lv_icmp_ne (tgt := 21) hx hb dX1_isIdentifier_14 (by decide) (fun c_4 => ?_) (fun c_4 => ?_)
      · refine lv_iconst (v := nI 0) hx hb dX1_isIdentifier_21 (by decide) ?_
        have hP9 : va_P (dC, dI) vwCl (vX1_isIdentifier cA x ()) _ := hP
        have hD9 : va_D A (vX1_isIdentifier cA x ()) := hD
        have hq9 : pX1_isIdentifier x (nI 0) () := (if_neg (by unfold isId; grind)).symm
        exact W.zret (v := nI 0) hx hb hr rfl (fun t ht hW => ⟨⟨nI 0, (), rfl, hq9, by rw [ht]; exact hP9, va_K.moved hW.alike hK, hD9⟩, hS.F ht⟩) hS.2.2 dX1_isIdentifier_22
      · refine lv_iconst (v := nI 1) hx hb dX1_isIdentifier_17 (by decide) ?_
        refine lv_goto (tgt := 22) hx hb dX1_isIdentifier_18 (by decide) ?_
        have hP9 : va_P (dC, dI) vwCl (vX1_isIdentifier cA x ()) _ := hP
        have hD9 : va_D A (vX1_isIdentifier cA x ()) := hD
        have hq9 : pX1_isIdentifier x (nI 1) () := (if_pos (by unfold isId; grind)).symm
        exact W.zret (v := nI 1) hx hb hr rfl (fun t ht hW => ⟨⟨nI 1, (), rfl, hq9, by rw [ht]; exact hP9, va_K.moved hW.alike hK, hD9⟩, hS.F ht⟩) hS.2.2 dX1_isIdentifier_22
abbrev pX4_isTag (x : Int32) : Int32 → Unit → Prop := fun (r : Int32) (u : Unit) => r = if isId x then 1 else 0
abbrev vX4_isTag (cA : ClassId) (x : Int32) : Unit → va_W := fun (u : Unit) => []
abbrev qX4_isTag (dC : Nat → ClassId) (dI : Nat → Nat → Nat) (cA : ClassId) (A : Nat → Prop) (x : Int32) : Array Value → State → Outcome → State → Prop := va_Qi (pX4_isTag x) (fun u => cAft dC dI cA A (vX4_isTag cA x u)) A
set_option maxHeartbeats 4000000 in
set_option maxRecDepth 100000 in
theorem k_X4_isTag (l : Launch) (dC : Nat → ClassId) (dI : Nat → Nat → Nat) (cA : ClassId) (x : Int32) (sz : Nat)  : Met l yX4_isTag wsX4_isTag ({ frames := 0, cells := 0, slots := 0, locals := 0 } : Room) (va_Pc [.int x] (cPre dC dI cA ([]) sz)) (qX4_isTag dC dI cA (va_A ([]) sz) x) 0 0 (va_A ([]) sz) := by
  refine Met.ofW (cc := cX4_isTag) (maxL := 1) (ret := (some .boolean)) (by decide) rfl ?_
  intro p e s m args below meth c s₁ B hml hv
  obtain ⟨rfl, hsz, hP, hK, hD0⟩ := hv
  have hx := B.exec
  have hb := B.bytes
  have hr := B.returns
  have hts := atoms_spec (ws := wsX4_isTag) B.pre
  have hown : s.vm.findClass RX4 = some m.cls := findClass_of_methodNamed B.named
  have hlocks := B.notSynchronized
  subst hsz
  have hD := hD0.self (sz := s.heap.size)
  generalize hAe : va_A ([]) s.heap.size = A at hD ⊢
  have hA : ∀ q : Nat, s.heap.size ≤ q → A q := fun q h => by rw [← hAe]; exact Or.inr h
  have hS : va_S A s.heap s.heap [] := va_S.rf
  have hl := lv_entry ([.int x]) (n := 1) (Nat.le_of_ble_eq_true rfl)
  rw [lg_entry_eq]
  generalize (lg_sl ([.int x]) ++ List.replicate (1 - (lg_sl ([.int x])).length) Slot.unset).toArray = ls at hl ⊢
  have hl : lv_has ls 1 [(0, .int x)] := hl
  have hP : va_P (dC, dI) vwCl ([]) s.heap := hP
  refine lv_iload_n hx hb dX4_isTag_0 rfl (lv_at hl 0 rfl) ?_
  refine lv_iconst (v := nI 1) hx hb dX4_isTag_1 (by decide) ?_
  refine lv_icmp_lt (tgt := 11) hx hb dX4_isTag_2 (by decide) (fun c_1 => ?_) (fun c_1 => ?_)
  · refine lv_iload_n hx hb dX4_isTag_11 rfl (lv_at hl 0 rfl) ?_
    refine lv_bipush (v := nI 48) hx hb dX4_isTag_12 (by decide) ?_
    refine lv_icmp_ne (tgt := 21) hx hb dX4_isTag_14 (by decide) (fun c_2 => ?_) (fun c_2 => ?_)
    · refine lv_iconst (v := nI 0) hx hb dX4_isTag_21 (by decide) ?_
      have hP9 : va_P (dC, dI) vwCl (vX4_isTag cA x ()) _ := hP
      have hD9 : va_D A (vX4_isTag cA x ()) := hD
      have hq9 : pX4_isTag x (nI 0) () := (if_neg (by unfold isId; grind)).symm
      exact W.zret (v := nI 0) hx hb hr rfl (fun t ht hW => ⟨⟨nI 0, (), rfl, hq9, by rw [ht]; exact hP9, va_K.moved hW.alike hK, hD9⟩, hS.F ht⟩) hS.2.2 dX4_isTag_22
    · refine lv_iconst (v := nI 1) hx hb dX4_isTag_17 (by decide) ?_
      refine lv_goto (tgt := 22) hx hb dX4_isTag_18 (by decide) ?_
      have hP9 : va_P (dC, dI) vwCl (vX4_isTag cA x ()) _ := hP
      have hD9 : va_D A (vX4_isTag cA x ()) := hD
      have hq9 : pX4_isTag x (nI 1) () := (if_pos (by unfold isId; grind)).symm
      exact W.zret (v := nI 1) hx hb hr rfl (fun t ht hW => ⟨⟨nI 1, (), rfl, hq9, by rw [ht]; exact hP9, va_K.moved hW.alike hK, hD9⟩, hS.F ht⟩) hS.2.2 dX4_isTag_22
  · refine lv_iload_n hx hb dX4_isTag_5 rfl (lv_at hl 0 rfl) ?_
    refine lv_bipush (v := nI 6) hx hb dX4_isTag_6 (by decide) ?_
    refine lv_icmp_le (tgt := 17) hx hb dX4_isTag_8 (by decide) (fun c_3 => ?_) (fun c_3 => ?_)
    · refine lv_iconst (v := nI 1) hx hb dX4_isTag_17 (by decide) ?_
      refine lv_goto (tgt := 22) hx hb dX4_isTag_18 (by decide) ?_
      have hP9 : va_P (dC, dI) vwCl (vX4_isTag cA x ()) _ := hP
      have hD9 : va_D A (vX4_isTag cA x ()) := hD
      have hq9 : pX4_isTag x (nI 1) () := (if_pos (by unfold isId; grind)).symm
      exact W.zret (v := nI 1) hx hb hr rfl (fun t ht hW => ⟨⟨nI 1, (), rfl, hq9, by rw [ht]; exact hP9, va_K.moved hW.alike hK, hD9⟩, hS.F ht⟩) hS.2.2 dX4_isTag_22
    · refine lv_iload_n hx hb dX4_isTag_11 rfl (lv_at hl 0 rfl) ?_
      refine lv_bipush (v := nI 48) hx hb dX4_isTag_12 (by decide) ?_
      refine lv_icmp_ne (tgt := 21) hx hb dX4_isTag_14 (by decide) (fun c_4 => ?_) (fun c_4 => ?_)
      · refine lv_iconst (v := nI 0) hx hb dX4_isTag_21 (by decide) ?_
        have hP9 : va_P (dC, dI) vwCl (vX4_isTag cA x ()) _ := hP
        have hD9 : va_D A (vX4_isTag cA x ()) := hD
        have hq9 : pX4_isTag x (nI 0) () := (if_neg (by unfold isId; grind)).symm
        exact W.zret (v := nI 0) hx hb hr rfl (fun t ht hW => ⟨⟨nI 0, (), rfl, hq9, by rw [ht]; exact hP9, va_K.moved hW.alike hK, hD9⟩, hS.F ht⟩) hS.2.2 dX4_isTag_22
      · refine lv_iconst (v := nI 1) hx hb dX4_isTag_17 (by decide) ?_
        refine lv_goto (tgt := 22) hx hb dX4_isTag_18 (by decide) ?_
        have hP9 : va_P (dC, dI) vwCl (vX4_isTag cA x ()) _ := hP
        have hD9 : va_D A (vX4_isTag cA x ()) := hD
        have hq9 : pX4_isTag x (nI 1) () := (if_pos (by unfold isId; grind)).symm
        exact W.zret (v := nI 1) hx hb hr rfl (fun t ht hW => ⟨⟨nI 1, (), rfl, hq9, by rw [ht]; exact hP9, va_K.moved hW.alike hK, hD9⟩, hS.F ht⟩) hS.2.2 dX4_isTag_22
def lenSz (n : Nat) : Nat := if n < 128 then 1 else if n < 256 then 2 else 3
theorem lenSz_le (n : Nat) : 1 ≤ lenSz n ∧ lenSz n ≤ 3 := by unfold lenSz; (repeat' split) <;> omega
abbrev pX1_lengthSize (n : Nat) : Int32 → Unit → Prop := fun (r : Int32) (u : Unit) => r = nI (lenSz n)
abbrev vX1_lengthSize (cA : ClassId) (n : Nat) : Unit → va_W := fun (u : Unit) => []
abbrev qX1_lengthSize (dC : Nat → ClassId) (dI : Nat → Nat → Nat) (cA : ClassId) (A : Nat → Prop) (n : Nat) : Array Value → State → Outcome → State → Prop := va_Qi (pX1_lengthSize n) (fun u => cAft dC dI cA A (vX1_lengthSize cA n u)) A
set_option maxHeartbeats 4000000 in
set_option maxRecDepth 100000 in
theorem k_X1_lengthSize (l : Launch) (dC : Nat → ClassId) (dI : Nat → Nat → Nat) (cA : ClassId) (n : Nat) (sz : Nat) (hn : n < 2 ^ 31) : Met l yX1_lengthSize wsX1_lengthSize ({ frames := 0, cells := 0, slots := 0, locals := 0 } : Room) (va_Pc [.int (nI n)] (cPre dC dI cA ([]) sz)) (qX1_lengthSize dC dI cA (va_A ([]) sz) n) 0 0 (va_A ([]) sz) := by
  refine Met.ofW (cc := cX1_lengthSize) (maxL := 1) (ret := (some .int)) (by decide) rfl ?_
  intro p e s m args below meth c s₁ B hml hv
  obtain ⟨rfl, hsz, hP, hK, hD0⟩ := hv
  have hx := B.exec
  have hb := B.bytes
  have hr := B.returns
  have hts := atoms_spec (ws := wsX1_lengthSize) B.pre
  have hown : s.vm.findClass RX1 = some m.cls := findClass_of_methodNamed B.named
  have hlocks := B.notSynchronized
  subst hsz
  have hD := hD0.self (sz := s.heap.size)
  generalize hAe : va_A ([]) s.heap.size = A at hD ⊢
  have hA : ∀ q : Nat, s.heap.size ≤ q → A q := fun q h => by rw [← hAe]; exact Or.inr h
  have hS : va_S A s.heap s.heap [] := va_S.rf
  have hl := lv_entry ([.int (nI n)]) (n := 1) (Nat.le_of_ble_eq_true rfl)
  rw [lg_entry_eq]
  generalize (lg_sl ([.int (nI n)]) ++ List.replicate (1 - (lg_sl ([.int (nI n)])).length) Slot.unset).toArray = ls at hl ⊢
  have hl : lv_has ls 1 [(0, .int (nI n))] := hl
  have hP : va_P (dC, dI) vwCl ([]) s.heap := hP
  refine lv_iload_n hx hb dX1_lengthSize_0 rfl (lv_at hl 0 rfl) ?_
  refine lv_sipush (v := nI 128) hx hb dX1_lengthSize_1 (by decide) ?_
  refine hl_icmp_ge (tgt := 9) hx hb dX1_lengthSize_4 (by decide) (by omega) (by omega) (fun c_1 => ?_) (fun c_1 => ?_)
  · refine lv_iload_n hx hb dX1_lengthSize_9 rfl (lv_at hl 0 rfl) ?_
    refine lv_sipush (v := nI 256) hx hb dX1_lengthSize_10 (by decide) ?_
    refine hl_icmp_ge (tgt := 20) hx hb dX1_lengthSize_13 (by decide) (by omega) (by omega) (fun c_2 => ?_) (fun c_2 => ?_)
    · refine lv_iconst (v := nI 3) hx hb dX1_lengthSize_20 (by decide) ?_
      have hP9 : va_P (dC, dI) vwCl (vX1_lengthSize cA n ()) _ := hP
      have hD9 : va_D A (vX1_lengthSize cA n ()) := hD
      have hq9 : pX1_lengthSize n (nI 3) () := congrArg nI (by unfold lenSz; (repeat' split) <;> omega)
      exact W.iret (v := nI 3) hx hb hr (fun t ht hW => ⟨⟨nI 3, (), rfl, hq9, by rw [ht]; exact hP9, va_K.moved hW.alike hK, hD9⟩, hS.F ht⟩) hS.2.2 dX1_lengthSize_21
    · refine lv_iconst (v := nI 2) hx hb dX1_lengthSize_16 (by decide) ?_
      refine lv_goto (tgt := 21) hx hb dX1_lengthSize_17 (by decide) ?_
      have hP9 : va_P (dC, dI) vwCl (vX1_lengthSize cA n ()) _ := hP
      have hD9 : va_D A (vX1_lengthSize cA n ()) := hD
      have hq9 : pX1_lengthSize n (nI 2) () := congrArg nI (by unfold lenSz; (repeat' split) <;> omega)
      exact W.iret (v := nI 2) hx hb hr (fun t ht hW => ⟨⟨nI 2, (), rfl, hq9, by rw [ht]; exact hP9, va_K.moved hW.alike hK, hD9⟩, hS.F ht⟩) hS.2.2 dX1_lengthSize_21
  · refine lv_iconst (v := nI 1) hx hb dX1_lengthSize_7 (by decide) ?_
    have hP9 : va_P (dC, dI) vwCl (vX1_lengthSize cA n ()) _ := hP
    have hD9 : va_D A (vX1_lengthSize cA n ()) := hD
    have hq9 : pX1_lengthSize n (nI 1) () := congrArg nI (by unfold lenSz; (repeat' split) <;> omega)
    exact W.iret (v := nI 1) hx hb hr (fun t ht hW => ⟨⟨nI 1, (), rfl, hq9, by rw [ht]; exact hP9, va_K.moved hW.alike hK, hD9⟩, hS.F ht⟩) hS.2.2 dX1_lengthSize_8
def okBool (f : Nat → Nat) (a n : Nat) : Bool := decide (n = 1 ∧ (f a = 0 ∨ f a = 255))
def okInt (f : Nat → Nat) (a n : Nat) : Bool := decide (0 < n ∧ (1 < n → ¬ (f a = 0 ∧ f (a + 1) < 128) ∧ ¬ (f a = 255 ∧ 128 ≤ f (a + 1))))
def okBits (f : Nat → Nat) (a n : Nat) : Bool := decide (0 < n ∧ (n = 1 → f a = 0) ∧ (1 < n → f a ≤ 7 ∧ f (a + n - 1) % 2 ^ (f a) = 0))
def obBeg (f : Nat → Nat) (a k : Nat) : Bool := decide (k = 0 ∨ f (a + k - 1) < 128)
def obPre (f : Nat → Nat) (a : Nat) : Nat → Bool
  | 0 => true
  | k + 1 => obPre f a k && !(obBeg f a k && decide (f (a + k) = 128))
def okObj (f : Nat → Nat) (a n : Nat) : Bool := decide (0 < n) && obPre f a n && decide (f (a + n - 1) < 128)
def okC (tag : Nat) (f : Nat → Nat) (a n : Nat) : Bool := if tag = 1 then okBool f a n else if tag = 2 then okInt f a n else if tag = 3 then okBits f a n else if tag = 5 then decide (n = 0) else if tag = 6 then okObj f a n else true
theorem bits_and : ∀ u, u < 8 → ∀ b, b < 256 → (nI b &&& ((nI 1 <<< (nI u &&& 31)) - nI 1) = 0 ↔ b % 2 ^ u = 0) := by decide +kernel
theorem bits_rem : ∀ u, u < 8 → ∀ b, b < 256 → (nI b - nI b / (nI 1 <<< (nI u &&& 31)) * (nI 1 <<< (nI u &&& 31)) = 0 ↔ b % 2 ^ u = 0) := by decide +kernel
theorem bits_ne0 : ∀ u, u < 8 → ¬ (nI 1 <<< (nI u &&& 31)) = 0 := by decide +kernel
abbrev pX1_isRightInteger (y0 : Nat) (yf : Nat → Nat) (a : Nat) (n : Nat) : Int32 → Unit → Prop := fun (r : Int32) (u : Unit) => r = if okInt yf a n = true then 1 else 0
abbrev vX1_isRightInteger (cA : ClassId) (y0 : Nat) (yf : Nat → Nat) (a : Nat) (n : Nat) : Unit → va_W := fun (u : Unit) => wA cA y0 yf
abbrev qX1_isRightInteger (dC : Nat → ClassId) (dI : Nat → Nat → Nat) (cA : ClassId) (A : Nat → Prop) (y0 : Nat) (yf : Nat → Nat) (a : Nat) (n : Nat) : Array Value → State → Outcome → State → Prop := va_Qi (pX1_isRightInteger y0 yf a n) (fun u => cAft dC dI cA A (vX1_isRightInteger cA y0 yf a n u)) A
set_option maxHeartbeats 4000000 in
set_option maxRecDepth 100000 in
theorem k_X1_isRightInteger (l : Launch) (dC : Nat → ClassId) (dI : Nat → Nat → Nat) (cA : ClassId) (y0 : Nat) (yf : Nat → Nat) (a : Nat) (n : Nat) (sz : Nat) (hyf : ∀ j, yf j < 256) (han : a + n ≤ 300) : Met l yX1_isRightInteger wsX1_isRightInteger ({ frames := 0, cells := 0, slots := 0, locals := 0 } : Room) (va_Pc [.ref y0, .int (nI a), .int (nI n)] (cPre dC dI cA (wA cA y0 yf) sz)) (qX1_isRightInteger dC dI cA (va_A (wA cA y0 yf) sz) y0 yf a n) 0 0 (va_A (wA cA y0 yf) sz) := by
  refine Met.ofW (cc := cX1_isRightInteger) (maxL := 4) (ret := (some .boolean)) (by decide) rfl ?_
  intro p e s m args below meth c s₁ B hml hv
  obtain ⟨rfl, hsz, hP, hK, hD0⟩ := hv
  have hx := B.exec
  have hb := B.bytes
  have hr := B.returns
  have hts := atoms_spec (ws := wsX1_isRightInteger) B.pre
  have hown : s.vm.findClass RX1 = some m.cls := findClass_of_methodNamed B.named
  have hlocks := B.notSynchronized
  subst hsz
  have hD := hD0.self (sz := s.heap.size)
  generalize hAe : va_A (wA cA y0 yf) s.heap.size = A at hD ⊢
  have hA : ∀ q : Nat, s.heap.size ≤ q → A q := fun q h => by rw [← hAe]; exact Or.inr h
  have hS : va_S A s.heap s.heap [] := va_S.rf
  have hl := lv_entry ([.ref y0, .int (nI a), .int (nI n)]) (n := 4) (Nat.le_of_ble_eq_true rfl)
  rw [lg_entry_eq]
  generalize (lg_sl ([.ref y0, .int (nI a), .int (nI n)]) ++ List.replicate (4 - (lg_sl ([.ref y0, .int (nI a), .int (nI n)])).length) Slot.unset).toArray = ls at hl ⊢
  have hl : lv_has ls 4 [(0, .ref y0), (1, .int (nI a)), (2, .int (nI n))] := hl
  have hP : va_P (dC, dI) vwCl (wA cA y0 yf) s.heap := hP
  refine lv_iload_n hx hb dX1_isRightInteger_0 rfl (lv_at hl 2 rfl) ?_
  refine lv_iconst (v := nI 2) hx hb dX1_isRightInteger_1 (by decide) ?_
  refine hl_icmp_ge (tgt := 16) hx hb dX1_isRightInteger_2 (by decide) (by omega) (by omega) (fun c_1 => ?_) (fun c_1 => ?_)
  · refine lv_aload_n hx hb dX1_isRightInteger_16 rfl (lv_at hl 0 rfl) ?_
    refine lv_iload_n hx hb dX1_isRightInteger_17 rfl (lv_at hl 1 rfl) ?_
    refine lv_iconst (v := nI 1) hx hb dX1_isRightInteger_18 (by decide) ?_
    refine hl_iadd hx hb dX1_isRightInteger_19 ?_
    refine hl_iald hx hb hK hP 0 0 rfl rfl (by omega) (by decide) dX1_isRightInteger_20 ?_
    have hv_2 := hyf (a + 1)
    refine lv_sipush (v := nI 128) hx hb dX1_isRightInteger_21 (by decide) ?_
    refine hl_icmp_lt (tgt := 31) hx hb dX1_isRightInteger_24 (by decide) (by omega) (by omega) (fun c_3 => ?_) (fun c_3 => ?_)
    · refine lv_iconst (v := nI 0) hx hb dX1_isRightInteger_31 (by decide) ?_
      refine lv_istore_n (lv' := [(3, .int (nI 0)), (0, .ref y0), (1, .int (nI a)), (2, .int (nI n))]) hx hb dX1_isRightInteger_32 rfl hl (by decide) rfl (fun ls hl => ?_)
      refine lv_aload_n hx hb dX1_isRightInteger_33 rfl (lv_at hl 1 rfl) ?_
      refine lv_iload_n hx hb dX1_isRightInteger_34 rfl (lv_at hl 2 rfl) ?_
      refine hl_iald hx hb hK hP 0 0 rfl rfl (by omega) (by decide) dX1_isRightInteger_35 ?_
      have hv_4 := hyf a
      refine lv_iload_n hx hb dX1_isRightInteger_36 rfl (lv_at hl 0 rfl) ?_
      refine hl_if_eq (tgt := 46) hx hb dX1_isRightInteger_37 (by decide) (by omega) (fun c_5 => ?_) (fun c_5 => absurd c_5 (by decide))
      refine lv_iconst (v := nI 0) hx hb dX1_isRightInteger_46 (by decide) ?_
      refine hl_icmp_eq (tgt := 54) hx hb dX1_isRightInteger_47 (by decide) (by omega) (by omega) (fun c_6 => ?_) (fun c_6 => ?_)
      · refine lv_iconst (v := nI 0) hx hb dX1_isRightInteger_54 (by decide) ?_
        have hP9 : va_P (dC, dI) vwCl (vX1_isRightInteger cA y0 yf a n ()) _ := hP
        have hD9 : va_D A (vX1_isRightInteger cA y0 yf a n ()) := hD
        have hq9 : pX1_isRightInteger y0 yf a n (nI 0) () := (if_neg (by simp only [okInt, decide_eq_true_eq]; omega)).symm
        exact W.zret (v := nI 0) hx hb hr rfl (fun t ht hW => ⟨⟨nI 0, (), rfl, hq9, by rw [ht]; exact hP9, va_K.moved hW.alike hK, hD9⟩, hS.F ht⟩) hS.2.2 dX1_isRightInteger_55
      · refine lv_iconst (v := nI 1) hx hb dX1_isRightInteger_50 (by decide) ?_
        refine lv_goto (tgt := 55) hx hb dX1_isRightInteger_51 (by decide) ?_
        have hP9 : va_P (dC, dI) vwCl (vX1_isRightInteger cA y0 yf a n ()) _ := hP
        have hD9 : va_D A (vX1_isRightInteger cA y0 yf a n ()) := hD
        have hq9 : pX1_isRightInteger y0 yf a n (nI 1) () := (if_pos (by simp only [okInt, decide_eq_true_eq]; omega)).symm
        exact W.zret (v := nI 1) hx hb hr rfl (fun t ht hW => ⟨⟨nI 1, (), rfl, hq9, by rw [ht]; exact hP9, va_K.moved hW.alike hK, hD9⟩, hS.F ht⟩) hS.2.2 dX1_isRightInteger_55
    · refine lv_iconst (v := nI 1) hx hb dX1_isRightInteger_27 (by decide) ?_
      refine lv_goto (tgt := 32) hx hb dX1_isRightInteger_28 (by decide) ?_
      refine lv_istore_n (lv' := [(3, .int (nI 1)), (0, .ref y0), (1, .int (nI a)), (2, .int (nI n))]) hx hb dX1_isRightInteger_32 rfl hl (by decide) rfl (fun ls hl => ?_)
      refine lv_aload_n hx hb dX1_isRightInteger_33 rfl (lv_at hl 1 rfl) ?_
      refine lv_iload_n hx hb dX1_isRightInteger_34 rfl (lv_at hl 2 rfl) ?_
      refine hl_iald hx hb hK hP 0 0 rfl rfl (by omega) (by decide) dX1_isRightInteger_35 ?_
      have hv_7 := hyf a
      refine lv_iload_n hx hb dX1_isRightInteger_36 rfl (lv_at hl 0 rfl) ?_
      refine hl_if_eq (tgt := 46) hx hb dX1_isRightInteger_37 (by decide) (by omega) (fun c_8 => absurd c_8 (by decide)) (fun c_8 => ?_)
      refine lv_sipush (v := nI 255) hx hb dX1_isRightInteger_40 (by decide) ?_
      refine lv_goto (tgt := 47) hx hb dX1_isRightInteger_43 (by decide) ?_
      refine hl_icmp_eq (tgt := 54) hx hb dX1_isRightInteger_47 (by decide) (by omega) (by omega) (fun c_9 => ?_) (fun c_9 => ?_)
      · refine lv_iconst (v := nI 0) hx hb dX1_isRightInteger_54 (by decide) ?_
        have hP9 : va_P (dC, dI) vwCl (vX1_isRightInteger cA y0 yf a n ()) _ := hP
        have hD9 : va_D A (vX1_isRightInteger cA y0 yf a n ()) := hD
        have hq9 : pX1_isRightInteger y0 yf a n (nI 0) () := (if_neg (by simp only [okInt, decide_eq_true_eq]; omega)).symm
        exact W.zret (v := nI 0) hx hb hr rfl (fun t ht hW => ⟨⟨nI 0, (), rfl, hq9, by rw [ht]; exact hP9, va_K.moved hW.alike hK, hD9⟩, hS.F ht⟩) hS.2.2 dX1_isRightInteger_55
      · refine lv_iconst (v := nI 1) hx hb dX1_isRightInteger_50 (by decide) ?_
        refine lv_goto (tgt := 55) hx hb dX1_isRightInteger_51 (by decide) ?_
        have hP9 : va_P (dC, dI) vwCl (vX1_isRightInteger cA y0 yf a n ()) _ := hP
        have hD9 : va_D A (vX1_isRightInteger cA y0 yf a n ()) := hD
        have hq9 : pX1_isRightInteger y0 yf a n (nI 1) () := (if_pos (by simp only [okInt, decide_eq_true_eq]; omega)).symm
        exact W.zret (v := nI 1) hx hb hr rfl (fun t ht hW => ⟨⟨nI 1, (), rfl, hq9, by rw [ht]; exact hP9, va_K.moved hW.alike hK, hD9⟩, hS.F ht⟩) hS.2.2 dX1_isRightInteger_55
  · refine lv_iload_n hx hb dX1_isRightInteger_5 rfl (lv_at hl 2 rfl) ?_
    refine lv_iconst (v := nI 1) hx hb dX1_isRightInteger_6 (by decide) ?_
    refine hl_icmp_ne (tgt := 14) hx hb dX1_isRightInteger_7 (by decide) (by omega) (by omega) (fun c_10 => ?_) (fun c_10 => ?_)
    · refine lv_iconst (v := nI 0) hx hb dX1_isRightInteger_14 (by decide) ?_
      have hP9 : va_P (dC, dI) vwCl (vX1_isRightInteger cA y0 yf a n ()) _ := hP
      have hD9 : va_D A (vX1_isRightInteger cA y0 yf a n ()) := hD
      have hq9 : pX1_isRightInteger y0 yf a n (nI 0) () := (if_neg (by simp only [okInt, decide_eq_true_eq]; omega)).symm
      exact W.zret (v := nI 0) hx hb hr rfl (fun t ht hW => ⟨⟨nI 0, (), rfl, hq9, by rw [ht]; exact hP9, va_K.moved hW.alike hK, hD9⟩, hS.F ht⟩) hS.2.2 dX1_isRightInteger_15
    · refine lv_iconst (v := nI 1) hx hb dX1_isRightInteger_10 (by decide) ?_
      refine lv_goto (tgt := 15) hx hb dX1_isRightInteger_11 (by decide) ?_
      have hP9 : va_P (dC, dI) vwCl (vX1_isRightInteger cA y0 yf a n ()) _ := hP
      have hD9 : va_D A (vX1_isRightInteger cA y0 yf a n ()) := hD
      have hq9 : pX1_isRightInteger y0 yf a n (nI 1) () := (if_pos (by simp only [okInt, decide_eq_true_eq]; omega)).symm
      exact W.zret (v := nI 1) hx hb hr rfl (fun t ht hW => ⟨⟨nI 1, (), rfl, hq9, by rw [ht]; exact hP9, va_K.moved hW.alike hK, hD9⟩, hS.F ht⟩) hS.2.2 dX1_isRightInteger_15
abbrev pX1_isRightBits (y0 : Nat) (yf : Nat → Nat) (a : Nat) (n : Nat) : Int32 → Unit → Prop := fun (r : Int32) (u : Unit) => r = if okBits yf a n = true then 1 else 0
abbrev vX1_isRightBits (cA : ClassId) (y0 : Nat) (yf : Nat → Nat) (a : Nat) (n : Nat) : Unit → va_W := fun (u : Unit) => wA cA y0 yf
abbrev qX1_isRightBits (dC : Nat → ClassId) (dI : Nat → Nat → Nat) (cA : ClassId) (A : Nat → Prop) (y0 : Nat) (yf : Nat → Nat) (a : Nat) (n : Nat) : Array Value → State → Outcome → State → Prop := va_Qi (pX1_isRightBits y0 yf a n) (fun u => cAft dC dI cA A (vX1_isRightBits cA y0 yf a n u)) A
set_option maxHeartbeats 4000000 in
set_option maxRecDepth 100000 in
theorem k_X1_isRightBits (l : Launch) (dC : Nat → ClassId) (dI : Nat → Nat → Nat) (cA : ClassId) (y0 : Nat) (yf : Nat → Nat) (a : Nat) (n : Nat) (sz : Nat) (hyf : ∀ j, yf j < 256) (han : a + n ≤ 300) : Met l yX1_isRightBits wsX1_isRightBits ({ frames := 0, cells := 0, slots := 0, locals := 0 } : Room) (va_Pc [.ref y0, .int (nI a), .int (nI n)] (cPre dC dI cA (wA cA y0 yf) sz)) (qX1_isRightBits dC dI cA (va_A (wA cA y0 yf) sz) y0 yf a n) 0 0 (va_A (wA cA y0 yf) sz) := by
  refine Met.ofW (cc := cX1_isRightBits) (maxL := 5) (ret := (some .boolean)) (by decide) rfl ?_
  intro p e s m args below meth c s₁ B hml hv
  obtain ⟨rfl, hsz, hP, hK, hD0⟩ := hv
  have hx := B.exec
  have hb := B.bytes
  have hr := B.returns
  have hts := atoms_spec (ws := wsX1_isRightBits) B.pre
  have hown : s.vm.findClass RX1 = some m.cls := findClass_of_methodNamed B.named
  have hlocks := B.notSynchronized
  subst hsz
  have hD := hD0.self (sz := s.heap.size)
  generalize hAe : va_A (wA cA y0 yf) s.heap.size = A at hD ⊢
  have hA : ∀ q : Nat, s.heap.size ≤ q → A q := fun q h => by rw [← hAe]; exact Or.inr h
  have hS : va_S A s.heap s.heap [] := va_S.rf
  have hl := lv_entry ([.ref y0, .int (nI a), .int (nI n)]) (n := 5) (Nat.le_of_ble_eq_true rfl)
  rw [lg_entry_eq]
  generalize (lg_sl ([.ref y0, .int (nI a), .int (nI n)]) ++ List.replicate (5 - (lg_sl ([.ref y0, .int (nI a), .int (nI n)])).length) Slot.unset).toArray = ls at hl ⊢
  have hl : lv_has ls 5 [(0, .ref y0), (1, .int (nI a)), (2, .int (nI n))] := hl
  have hP : va_P (dC, dI) vwCl (wA cA y0 yf) s.heap := hP
  refine lv_iload_n hx hb dX1_isRightBits_0 rfl (lv_at hl 2 rfl) ?_
  refine lv_iconst (v := nI 1) hx hb dX1_isRightBits_1 (by decide) ?_
  refine hl_icmp_ge (tgt := 7) hx hb dX1_isRightBits_2 (by decide) (by omega) (by omega) (fun c_1 => ?_) (fun c_1 => ?_)
  · refine lv_aload_n hx hb dX1_isRightBits_7 rfl (lv_at hl 0 rfl) ?_
    refine lv_iload_n hx hb dX1_isRightBits_8 rfl (lv_at hl 1 rfl) ?_
    refine hl_iald hx hb hK hP 0 0 rfl rfl (by omega) (by decide) dX1_isRightBits_9 ?_
    have hv_2 := hyf a
    refine lv_istore_n (lv' := [(3, .int (nI (yf a))), (0, .ref y0), (1, .int (nI a)), (2, .int (nI n))]) hx hb dX1_isRightBits_10 rfl hl (by decide) rfl (fun ls hl => ?_)
    refine lv_iload_n hx hb dX1_isRightBits_11 rfl (lv_at hl 3 rfl) ?_
    refine lv_iconst (v := nI 1) hx hb dX1_isRightBits_12 (by decide) ?_
    refine hl_icmp_eq (tgt := 22) hx hb dX1_isRightBits_13 (by decide) (by omega) (by omega) (fun c_3 => ?_) (fun c_3 => ?_)
    · refine lv_iload_n hx hb dX1_isRightBits_22 rfl (lv_at hl 0 rfl) ?_
      refine hl_if_ne (tgt := 30) hx hb dX1_isRightBits_23 (by decide) (by omega) (fun c_4 => ?_) (fun c_4 => ?_)
      · refine lv_iconst (v := nI 0) hx hb dX1_isRightBits_30 (by decide) ?_
        have hP9 : va_P (dC, dI) vwCl (vX1_isRightBits cA y0 yf a n ()) _ := hP
        have hD9 : va_D A (vX1_isRightBits cA y0 yf a n ()) := hD
        have hq9 : pX1_isRightBits y0 yf a n (nI 0) () := (if_neg (by simp only [okBits, decide_eq_true_eq]; first | omega | grind)).symm
        exact W.zret (v := nI 0) hx hb hr rfl (fun t ht hW => ⟨⟨nI 0, (), rfl, hq9, by rw [ht]; exact hP9, va_K.moved hW.alike hK, hD9⟩, hS.F ht⟩) hS.2.2 dX1_isRightBits_31
      · refine lv_iconst (v := nI 1) hx hb dX1_isRightBits_26 (by decide) ?_
        refine lv_goto (tgt := 31) hx hb dX1_isRightBits_27 (by decide) ?_
        have hP9 : va_P (dC, dI) vwCl (vX1_isRightBits cA y0 yf a n ()) _ := hP
        have hD9 : va_D A (vX1_isRightBits cA y0 yf a n ()) := hD
        have hq9 : pX1_isRightBits y0 yf a n (nI 1) () := (if_pos (by simp only [okBits, decide_eq_true_eq]; first | omega | grind)).symm
        exact W.zret (v := nI 1) hx hb hr rfl (fun t ht hW => ⟨⟨nI 1, (), rfl, hq9, by rw [ht]; exact hP9, va_K.moved hW.alike hK, hD9⟩, hS.F ht⟩) hS.2.2 dX1_isRightBits_31
    · refine lv_iload_n hx hb dX1_isRightBits_16 rfl (lv_at hl 0 rfl) ?_
      refine lv_bipush (v := nI 7) hx hb dX1_isRightBits_17 (by decide) ?_
      refine hl_icmp_le (tgt := 32) hx hb dX1_isRightBits_19 (by decide) (by omega) (by omega) (fun c_5 => ?_) (fun c_5 => ?_)
      · refine lv_iconst (v := nI 1) hx hb dX1_isRightBits_32 (by decide) ?_
        refine lv_iload_n hx hb dX1_isRightBits_33 rfl (lv_at hl 0 rfl) ?_
        refine lv_ishl hx hb dX1_isRightBits_34 ?_
        refine lv_iconst (v := nI 1) hx hb dX1_isRightBits_35 (by decide) ?_
        refine lv_isub hx hb dX1_isRightBits_36 ?_
        refine lv_istore (lv' := [(4, .int ((nI 1 <<< (nI (yf a) &&& 31)) - nI 1)), (3, .int (nI (yf a))), (0, .ref y0), (1, .int (nI a)), (2, .int (nI n))]) hx hb dX1_isRightBits_37 hl (by decide) rfl (fun ls hl => ?_)
        refine lv_aload_n hx hb dX1_isRightBits_39 rfl (lv_at hl 2 rfl) ?_
        refine lv_iload_n hx hb dX1_isRightBits_40 rfl (lv_at hl 3 rfl) ?_
        refine lv_iload_n hx hb dX1_isRightBits_41 rfl (lv_at hl 4 rfl) ?_
        refine hl_iadd hx hb dX1_isRightBits_42 ?_
        refine lv_iconst (v := nI 1) hx hb dX1_isRightBits_43 (by decide) ?_
        refine hl_isub hx hb (by omega) dX1_isRightBits_44 ?_
        refine hl_iald hx hb hK hP 0 0 rfl rfl (by omega) (by decide) dX1_isRightBits_45 ?_
        have hv_6 := hyf ((a + n) - 1)
        refine lv_iload hx hb dX1_isRightBits_46 (lv_at hl 0 rfl) ?_
        refine lv_iand hx hb dX1_isRightBits_48 ?_
        refine lv_if_ne (tgt := 56) hx hb dX1_isRightBits_49 (by decide) (fun c_7 => ?_) (fun c_7 => ?_)
        · have c_7 := fun h => c_7 ((bits_and _ (by omega) _ (hyf _)).mpr h)
          refine lv_iconst (v := nI 0) hx hb dX1_isRightBits_56 (by decide) ?_
          have hP9 : va_P (dC, dI) vwCl (vX1_isRightBits cA y0 yf a n ()) _ := hP
          have hD9 : va_D A (vX1_isRightBits cA y0 yf a n ()) := hD
          have hq9 : pX1_isRightBits y0 yf a n (nI 0) () := (if_neg (by simp only [okBits, decide_eq_true_eq]; first | omega | grind)).symm
          exact W.zret (v := nI 0) hx hb hr rfl (fun t ht hW => ⟨⟨nI 0, (), rfl, hq9, by rw [ht]; exact hP9, va_K.moved hW.alike hK, hD9⟩, hS.F ht⟩) hS.2.2 dX1_isRightBits_57
        · have c_7 := (bits_and _ (by omega) _ (hyf _)).mp c_7
          refine lv_iconst (v := nI 1) hx hb dX1_isRightBits_52 (by decide) ?_
          refine lv_goto (tgt := 57) hx hb dX1_isRightBits_53 (by decide) ?_
          have hP9 : va_P (dC, dI) vwCl (vX1_isRightBits cA y0 yf a n ()) _ := hP
          have hD9 : va_D A (vX1_isRightBits cA y0 yf a n ()) := hD
          have hq9 : pX1_isRightBits y0 yf a n (nI 1) () := (if_pos (by simp only [okBits, decide_eq_true_eq]; first | omega | grind)).symm
          exact W.zret (v := nI 1) hx hb hr rfl (fun t ht hW => ⟨⟨nI 1, (), rfl, hq9, by rw [ht]; exact hP9, va_K.moved hW.alike hK, hD9⟩, hS.F ht⟩) hS.2.2 dX1_isRightBits_57
      · refine lv_iload_n hx hb dX1_isRightBits_22 rfl (lv_at hl 0 rfl) ?_
        refine hl_if_ne (tgt := 30) hx hb dX1_isRightBits_23 (by decide) (by omega) (fun c_8 => ?_) (fun c_8 => ?_)
        · refine lv_iconst (v := nI 0) hx hb dX1_isRightBits_30 (by decide) ?_
          have hP9 : va_P (dC, dI) vwCl (vX1_isRightBits cA y0 yf a n ()) _ := hP
          have hD9 : va_D A (vX1_isRightBits cA y0 yf a n ()) := hD
          have hq9 : pX1_isRightBits y0 yf a n (nI 0) () := (if_neg (by simp only [okBits, decide_eq_true_eq]; first | omega | grind)).symm
          exact W.zret (v := nI 0) hx hb hr rfl (fun t ht hW => ⟨⟨nI 0, (), rfl, hq9, by rw [ht]; exact hP9, va_K.moved hW.alike hK, hD9⟩, hS.F ht⟩) hS.2.2 dX1_isRightBits_31
        · refine lv_iconst (v := nI 1) hx hb dX1_isRightBits_26 (by decide) ?_
          refine lv_goto (tgt := 31) hx hb dX1_isRightBits_27 (by decide) ?_
          have hP9 : va_P (dC, dI) vwCl (vX1_isRightBits cA y0 yf a n ()) _ := hP
          have hD9 : va_D A (vX1_isRightBits cA y0 yf a n ()) := hD
          have hq9 : pX1_isRightBits y0 yf a n (nI 1) () := (if_pos (by simp only [okBits, decide_eq_true_eq]; first | omega | grind)).symm
          exact W.zret (v := nI 1) hx hb hr rfl (fun t ht hW => ⟨⟨nI 1, (), rfl, hq9, by rw [ht]; exact hP9, va_K.moved hW.alike hK, hD9⟩, hS.F ht⟩) hS.2.2 dX1_isRightBits_31
  · refine lv_iconst (v := nI 0) hx hb dX1_isRightBits_5 (by decide) ?_
    have hP9 : va_P (dC, dI) vwCl (vX1_isRightBits cA y0 yf a n ()) _ := hP
    have hD9 : va_D A (vX1_isRightBits cA y0 yf a n ()) := hD
    have hq9 : pX1_isRightBits y0 yf a n (nI 0) () := (if_neg (by simp only [okBits, decide_eq_true_eq]; first | omega | grind)).symm
    exact W.zret (v := nI 0) hx hb hr rfl (fun t ht hW => ⟨⟨nI 0, (), rfl, hq9, by rw [ht]; exact hP9, va_K.moved hW.alike hK, hD9⟩, hS.F ht⟩) hS.2.2 dX1_isRightBits_6
theorem ob_step {f : Nat → Nat} {a i : Nat} (hai : a ≤ i) (h : obPre f a (i - a) = true) (h2 : ¬ (obBeg f a (i - a) = true ∧ f i = 128)) : obPre f a (i + 1 - a) = true := by
  rw [show i + 1 - a = (i - a) + 1 by omega]
  show (obPre f a (i - a) && !(obBeg f a (i - a) && decide (f (a + (i - a)) = 128))) = true
  rw [show a + (i - a) = i by omega, h]
  by_cases q : obBeg f a (i - a) = true
  · have : ¬ f i = 128 := fun z => h2 ⟨q, z⟩
    simp [this]
  · simp [q]
theorem ob_beg {f : Nat → Nat} {a i : Nat} (hai : a ≤ i) : obBeg f a (i + 1 - a) = decide (f i < 128) := by
  unfold obBeg
  rw [show a + (i + 1 - a) - 1 = i by omega]
  simp
  omega
theorem ob_all {f : Nat → Nat} {a : Nat} : ∀ n, obPre f a n = true → ∀ k, k < n → obBeg f a k = true → f (a + k) = 128 → False
  | 0, _, k, hk, _, _ => absurd hk (Nat.not_lt_zero k)
  | n + 1, h, k, hk, hb, hf => by
    have h : (obPre f a n && !(obBeg f a n && decide (f (a + n) = 128))) = true := h
    rw [Bool.and_eq_true] at h
    by_cases e : k = n
    · subst e
      rw [hb] at h
      simp [hf] at h
    · exact ob_all n h.1 k (by omega) hb hf
theorem ob_neg {f : Nat → Nat} {a n i : Nat} (hai : a ≤ i) (hin : i < a + n) (hb : obBeg f a (i - a) = true) (hf : f i = 128) : ¬ okObj f a n = true := by
  intro h
  simp only [okObj, Bool.and_eq_true, decide_eq_true_eq] at h
  exact ob_all n h.1.2 (i - a) (by omega) hb (by rw [show a + (i - a) = i by omega]; exact hf)
theorem ob_fin1 {f : Nat → Nat} {a n : Nat} (hn : 0 < n) (hp : obPre f a n = true) (hb : obBeg f a n = true) : okObj f a n = true := by
  simp only [okObj, Bool.and_eq_true, decide_eq_true_eq]
  simp only [obBeg, decide_eq_true_eq] at hb
  exact ⟨⟨hn, hp⟩, by omega⟩
theorem ob_fin0 {f : Nat → Nat} {a n : Nat} (h : n = 0 ∨ ¬ obBeg f a n = true) : ¬ okObj f a n = true := by
  intro q
  simp only [okObj, Bool.and_eq_true, decide_eq_true_eq] at q
  rcases h with h | h
  · omega
  · apply h
    simp only [obBeg, decide_eq_true_eq]
    omega
abbrev pX1_isRightObject (y0 : Nat) (yf : Nat → Nat) (a : Nat) (n : Nat) : Int32 → Unit → Prop := fun (r : Int32) (u : Unit) => r = if okObj yf a n = true then 1 else 0
abbrev vX1_isRightObject (cA : ClassId) (y0 : Nat) (yf : Nat → Nat) (a : Nat) (n : Nat) : Unit → va_W := fun (u : Unit) => wA cA y0 yf
abbrev qX1_isRightObject (dC : Nat → ClassId) (dI : Nat → Nat → Nat) (cA : ClassId) (A : Nat → Prop) (y0 : Nat) (yf : Nat → Nat) (a : Nat) (n : Nat) : Array Value → State → Outcome → State → Prop := va_Qi (pX1_isRightObject y0 yf a n) (fun u => cAft dC dI cA A (vX1_isRightObject cA y0 yf a n u)) A
set_option maxHeartbeats 4000000 in
set_option maxRecDepth 100000 in
theorem k_X1_isRightObject (l : Launch) (dC : Nat → ClassId) (dI : Nat → Nat → Nat) (cA : ClassId) (y0 : Nat) (yf : Nat → Nat) (a : Nat) (n : Nat) (sz : Nat) (hyf : ∀ j, yf j < 256) (han : a + n ≤ 300) : Met l yX1_isRightObject wsX1_isRightObject ({ frames := 0, cells := 0, slots := 0, locals := 0 } : Room) (va_Pc [.ref y0, .int (nI a), .int (nI n)] (cPre dC dI cA (wA cA y0 yf) sz)) (qX1_isRightObject dC dI cA (va_A (wA cA y0 yf) sz) y0 yf a n) 0 0 (va_A (wA cA y0 yf) sz) := by
  refine Met.ofW (cc := cX1_isRightObject) (maxL := 5) (ret := (some .boolean)) (by decide) rfl ?_
  intro p e s m args below meth c s₁ B hml hv
  obtain ⟨rfl, hsz, hP, hK, hD0⟩ := hv
  have hx := B.exec
  have hb := B.bytes
  have hr := B.returns
  have hts := atoms_spec (ws := wsX1_isRightObject) B.pre
  have hown : s.vm.findClass RX1 = some m.cls := findClass_of_methodNamed B.named
  have hlocks := B.notSynchronized
  subst hsz
  have hD := hD0.self (sz := s.heap.size)
  generalize hAe : va_A (wA cA y0 yf) s.heap.size = A at hD ⊢
  have hA : ∀ q : Nat, s.heap.size ≤ q → A q := fun q h => by rw [← hAe]; exact Or.inr h
  have hS : va_S A s.heap s.heap [] := va_S.rf
  have hl := lv_entry ([.ref y0, .int (nI a), .int (nI n)]) (n := 5) (Nat.le_of_ble_eq_true rfl)
  rw [lg_entry_eq]
  generalize (lg_sl ([.ref y0, .int (nI a), .int (nI n)]) ++ List.replicate (5 - (lg_sl ([.ref y0, .int (nI a), .int (nI n)])).length) Slot.unset).toArray = ls at hl ⊢
  have hl : lv_has ls 5 [(0, .ref y0), (1, .int (nI a)), (2, .int (nI n))] := hl
  have hP : va_P (dC, dI) vwCl (wA cA y0 yf) s.heap := hP
  refine lv_iconst (v := nI 1) hx hb dX1_isRightObject_0 (by decide) ?_
  refine lv_istore_n (lv' := [(3, .int (nI 1)), (0, .ref y0), (1, .int (nI a)), (2, .int (nI n))]) hx hb dX1_isRightObject_1 rfl hl (by decide) rfl (fun ls hl => ?_)
  refine lv_iload_n hx hb dX1_isRightObject_2 rfl (lv_at hl 2 rfl) ?_
  refine lv_istore (lv' := [(4, .int (nI a)), (3, .int (nI 1)), (0, .ref y0), (1, .int (nI a)), (2, .int (nI n))]) hx hb dX1_isRightObject_3 hl (by decide) rfl (fun ls hl => ?_)
  have lp_5 : ∀ (nf : Nat) (i : Nat) (pb : Nat), a + n - i < nf → (a ≤ i) → (i ≤ a + n) → (obPre yf a (i - a) = true) → (pb = if obBeg yf a (i - a) = true then 1 else 0) → ∀ (H : Heap) (locs : List Loc) (ls : Array Slot), va_P (dC, dI) vwCl (wA cA y0 yf) H → va_D A (wA cA y0 yf) → va_S A s.heap H locs → lv_has ls 5 [(4, .int (nI i)), (3, .int (nI pb)), (0, .ref y0), (1, .int (nI a)), (2, .int (nI n))] → W p l e (headSpec wsX1_isRightObject ({ frames := 0, cells := 0, slots := 0, locals := 0 } : Room)).room s m ([.ref y0, .int (nI a), .int (nI n)] : List Value).toArray below meth c H locs 0 0 (MQ below (qX1_isRightObject dC dI cA A y0 yf a n) ([.ref y0, .int (nI a), .int (nI n)] : List Value).toArray s 0 0 A) (F0 m 5 ls []) := by
    intro nf
    induction nf with
    | zero =>
      intro i pb hm
      exact absurd hm (Nat.not_lt_zero _)
    | succ nf ih_5 =>
      intro i pb hm hai hin hpre hpb H locs ls hP hD hS hl
      have hpb1 : pb < 2 := by rw [hpb]; split <;> omega
      refine lv_iload hx hb dX1_isRightObject_5 (lv_at hl 0 rfl) ?_
      refine lv_iload_n hx hb dX1_isRightObject_7 rfl (lv_at hl 3 rfl) ?_
      refine lv_iload_n hx hb dX1_isRightObject_8 rfl (lv_at hl 4 rfl) ?_
      refine hl_iadd hx hb dX1_isRightObject_9 ?_
      refine hl_icmp_ge (tgt := 51) hx hb dX1_isRightObject_10 (by decide) (by omega) (by omega) (fun c_2 => ?_) (fun c_2 => ?_)
      · refine lv_iload_n hx hb dX1_isRightObject_51 rfl (lv_at hl 4 rfl) ?_
        refine hl_if_le (tgt := 63) hx hb dX1_isRightObject_52 (by decide) (by omega) (fun c_3 => ?_) (fun c_3 => ?_)
        · refine lv_iconst (v := nI 0) hx hb dX1_isRightObject_63 (by decide) ?_
          have hP9 : va_P (dC, dI) vwCl (vX1_isRightObject cA y0 yf a n ()) _ := hP
          have hD9 : va_D A (vX1_isRightObject cA y0 yf a n ()) := hD
          have hq9 : pX1_isRightObject y0 yf a n (nI 0) () := (if_neg (ob_fin0 (by have ei : i - a = n := (by omega); rw [ei] at hpb; by_cases q : obBeg yf a n = true; left; rw [if_pos q] at hpb; omega; exact Or.inr q))).symm
          exact W.zret (v := nI 0) hx hb hr rfl (fun t ht hW => ⟨⟨nI 0, (), rfl, hq9, by rw [ht]; exact hP9, va_K.moved hW.alike hK, hD9⟩, hS.F ht⟩) hS.2.2 dX1_isRightObject_64
        · refine lv_iload_n hx hb dX1_isRightObject_55 rfl (lv_at hl 1 rfl) ?_
          refine hl_if_eq (tgt := 63) hx hb dX1_isRightObject_56 (by decide) (by omega) (fun c_4 => ?_) (fun c_4 => ?_)
          · refine lv_iconst (v := nI 0) hx hb dX1_isRightObject_63 (by decide) ?_
            have hP9 : va_P (dC, dI) vwCl (vX1_isRightObject cA y0 yf a n ()) _ := hP
            have hD9 : va_D A (vX1_isRightObject cA y0 yf a n ()) := hD
            have hq9 : pX1_isRightObject y0 yf a n (nI 0) () := (if_neg (ob_fin0 (by have ei : i - a = n := (by omega); rw [ei] at hpb; by_cases q : obBeg yf a n = true; left; rw [if_pos q] at hpb; omega; exact Or.inr q))).symm
            exact W.zret (v := nI 0) hx hb hr rfl (fun t ht hW => ⟨⟨nI 0, (), rfl, hq9, by rw [ht]; exact hP9, va_K.moved hW.alike hK, hD9⟩, hS.F ht⟩) hS.2.2 dX1_isRightObject_64
          · refine lv_iconst (v := nI 1) hx hb dX1_isRightObject_59 (by decide) ?_
            refine lv_goto (tgt := 64) hx hb dX1_isRightObject_60 (by decide) ?_
            have hP9 : va_P (dC, dI) vwCl (vX1_isRightObject cA y0 yf a n ()) _ := hP
            have hD9 : va_D A (vX1_isRightObject cA y0 yf a n ()) := hD
            have hq9 : pX1_isRightObject y0 yf a n (nI 1) () := (if_pos (by have ei : i - a = n := (by omega); rw [ei] at hpb hpre; exact ob_fin1 (by omega) hpre (by by_cases q : obBeg yf a n = true; exact q; rw [if_neg q] at hpb; omega))).symm
            exact W.zret (v := nI 1) hx hb hr rfl (fun t ht hW => ⟨⟨nI 1, (), rfl, hq9, by rw [ht]; exact hP9, va_K.moved hW.alike hK, hD9⟩, hS.F ht⟩) hS.2.2 dX1_isRightObject_64
      · refine lv_iload_n hx hb dX1_isRightObject_13 rfl (lv_at hl 1 rfl) ?_
        refine hl_if_eq (tgt := 29) hx hb dX1_isRightObject_14 (by decide) (by omega) (fun c_5 => ?_) (fun c_5 => ?_)
        · refine lv_aload_n hx hb dX1_isRightObject_29 rfl (lv_at hl 2 rfl) ?_
          refine lv_iload hx hb dX1_isRightObject_30 (lv_at hl 0 rfl) ?_
          refine hl_iald hx hb hK hP 0 0 rfl rfl (by omega) (by decide) dX1_isRightObject_32 ?_
          have hv_6 := hyf i
          refine lv_sipush (v := nI 128) hx hb dX1_isRightObject_33 (by decide) ?_
          refine hl_icmp_ge (tgt := 43) hx hb dX1_isRightObject_36 (by decide) (by omega) (by omega) (fun c_7 => ?_) (fun c_7 => ?_)
          · refine lv_iconst (v := nI 0) hx hb dX1_isRightObject_43 (by decide) ?_
            refine lv_istore_n (lv' := [(3, .int (nI 0)), (4, .int (nI i)), (0, .ref y0), (1, .int (nI a)), (2, .int (nI n))]) hx hb dX1_isRightObject_44 rfl hl (by decide) rfl (fun ls hl => ?_)
            refine lv_iinc (v := (nI (i + 1))) (lv' := [(4, .int (nI (i + 1))), (3, .int (nI 0)), (0, .ref y0), (1, .int (nI a)), (2, .int (nI n))]) hx hb dX1_isRightObject_45 hl (k := 1) rfl (nI_inc i 1) (by decide) rfl (fun ls hl => ?_)
            refine lv_goto (tgt := 5) hx hb dX1_isRightObject_48 (by decide) ?_
            exact ih_5 (i + 1) 0 (by omega) (by omega) (by omega) (ob_step (by omega) hpre (by rintro ⟨h1, h2⟩; rw [if_pos h1] at hpb; omega)) (by rw [ob_beg (by omega)]; simp only [decide_eq_true_eq]; split <;> omega) _ _ _ hP hD hS (lv_sub hl [0, 1, 2, 3, 4] rfl)
          · refine lv_iconst (v := nI 1) hx hb dX1_isRightObject_39 (by decide) ?_
            refine lv_goto (tgt := 44) hx hb dX1_isRightObject_40 (by decide) ?_
            refine lv_istore_n (lv' := [(3, .int (nI 1)), (4, .int (nI i)), (0, .ref y0), (1, .int (nI a)), (2, .int (nI n))]) hx hb dX1_isRightObject_44 rfl hl (by decide) rfl (fun ls hl => ?_)
            refine lv_iinc (v := (nI (i + 1))) (lv' := [(4, .int (nI (i + 1))), (3, .int (nI 1)), (0, .ref y0), (1, .int (nI a)), (2, .int (nI n))]) hx hb dX1_isRightObject_45 hl (k := 1) rfl (nI_inc i 1) (by decide) rfl (fun ls hl => ?_)
            refine lv_goto (tgt := 5) hx hb dX1_isRightObject_48 (by decide) ?_
            exact ih_5 (i + 1) 1 (by omega) (by omega) (by omega) (ob_step (by omega) hpre (by rintro ⟨h1, h2⟩; rw [if_pos h1] at hpb; omega)) (by rw [ob_beg (by omega)]; simp only [decide_eq_true_eq]; split <;> omega) _ _ _ hP hD hS (lv_sub hl [0, 1, 2, 3, 4] rfl)
        · refine lv_aload_n hx hb dX1_isRightObject_17 rfl (lv_at hl 2 rfl) ?_
          refine lv_iload hx hb dX1_isRightObject_18 (lv_at hl 0 rfl) ?_
          refine hl_iald hx hb hK hP 0 0 rfl rfl (by omega) (by decide) dX1_isRightObject_20 ?_
          have hv_8 := hyf i
          refine lv_sipush (v := nI 128) hx hb dX1_isRightObject_21 (by decide) ?_
          refine hl_icmp_ne (tgt := 29) hx hb dX1_isRightObject_24 (by decide) (by omega) (by omega) (fun c_9 => ?_) (fun c_9 => ?_)
          · refine lv_aload_n hx hb dX1_isRightObject_29 rfl (lv_at hl 2 rfl) ?_
            refine lv_iload hx hb dX1_isRightObject_30 (lv_at hl 0 rfl) ?_
            refine hl_iald hx hb hK hP 0 0 rfl rfl (by omega) (by decide) dX1_isRightObject_32 ?_
            have hv_10 := hyf i
            refine lv_sipush (v := nI 128) hx hb dX1_isRightObject_33 (by decide) ?_
            refine hl_icmp_ge (tgt := 43) hx hb dX1_isRightObject_36 (by decide) (by omega) (by omega) (fun c_11 => ?_) (fun c_11 => ?_)
            · refine lv_iconst (v := nI 0) hx hb dX1_isRightObject_43 (by decide) ?_
              refine lv_istore_n (lv' := [(3, .int (nI 0)), (4, .int (nI i)), (0, .ref y0), (1, .int (nI a)), (2, .int (nI n))]) hx hb dX1_isRightObject_44 rfl hl (by decide) rfl (fun ls hl => ?_)
              refine lv_iinc (v := (nI (i + 1))) (lv' := [(4, .int (nI (i + 1))), (3, .int (nI 0)), (0, .ref y0), (1, .int (nI a)), (2, .int (nI n))]) hx hb dX1_isRightObject_45 hl (k := 1) rfl (nI_inc i 1) (by decide) rfl (fun ls hl => ?_)
              refine lv_goto (tgt := 5) hx hb dX1_isRightObject_48 (by decide) ?_
              exact ih_5 (i + 1) 0 (by omega) (by omega) (by omega) (ob_step (by omega) hpre (by rintro ⟨h1, h2⟩; rw [if_pos h1] at hpb; omega)) (by rw [ob_beg (by omega)]; simp only [decide_eq_true_eq]; split <;> omega) _ _ _ hP hD hS (lv_sub hl [0, 1, 2, 3, 4] rfl)
            · refine lv_iconst (v := nI 1) hx hb dX1_isRightObject_39 (by decide) ?_
              refine lv_goto (tgt := 44) hx hb dX1_isRightObject_40 (by decide) ?_
              refine lv_istore_n (lv' := [(3, .int (nI 1)), (4, .int (nI i)), (0, .ref y0), (1, .int (nI a)), (2, .int (nI n))]) hx hb dX1_isRightObject_44 rfl hl (by decide) rfl (fun ls hl => ?_)
              refine lv_iinc (v := (nI (i + 1))) (lv' := [(4, .int (nI (i + 1))), (3, .int (nI 1)), (0, .ref y0), (1, .int (nI a)), (2, .int (nI n))]) hx hb dX1_isRightObject_45 hl (k := 1) rfl (nI_inc i 1) (by decide) rfl (fun ls hl => ?_)
              refine lv_goto (tgt := 5) hx hb dX1_isRightObject_48 (by decide) ?_
              exact ih_5 (i + 1) 1 (by omega) (by omega) (by omega) (ob_step (by omega) hpre (by rintro ⟨h1, h2⟩; rw [if_pos h1] at hpb; omega)) (by rw [ob_beg (by omega)]; simp only [decide_eq_true_eq]; split <;> omega) _ _ _ hP hD hS (lv_sub hl [0, 1, 2, 3, 4] rfl)
          · refine lv_iconst (v := nI 0) hx hb dX1_isRightObject_27 (by decide) ?_
            have hP9 : va_P (dC, dI) vwCl (vX1_isRightObject cA y0 yf a n ()) _ := hP
            have hD9 : va_D A (vX1_isRightObject cA y0 yf a n ()) := hD
            have hq9 : pX1_isRightObject y0 yf a n (nI 0) () := (if_neg (ob_neg (i := i) (by omega) (by omega) (by by_cases q : obBeg yf a (i - a) = true; exact q; rw [if_neg q] at hpb; omega) (by omega))).symm
            exact W.zret (v := nI 0) hx hb hr rfl (fun t ht hW => ⟨⟨nI 0, (), rfl, hq9, by rw [ht]; exact hP9, va_K.moved hW.alike hK, hD9⟩, hS.F ht⟩) hS.2.2 dX1_isRightObject_28
  exact lp_5 (a + n - a + 1) a 1 (Nat.lt_succ_self _) (by omega) (by omega) (by rw [Nat.sub_self]; rfl) (by rw [Nat.sub_self]; rfl) _ _ _ hP hD hS (lv_sub hl [0, 1, 2, 3, 4] rfl)
abbrev pX1_hold (y0 : Nat) (yf : Nat → Nat) (tag : Nat) (a : Nat) (n : Nat) : Int32 → Unit → Prop := fun (r : Int32) (u : Unit) => r = if okC tag yf a n = true then 1 else 0
abbrev vX1_hold (cA : ClassId) (y0 : Nat) (yf : Nat → Nat) (tag : Nat) (a : Nat) (n : Nat) : Unit → va_W := fun (u : Unit) => wA cA y0 yf
abbrev qX1_hold (dC : Nat → ClassId) (dI : Nat → Nat → Nat) (cA : ClassId) (A : Nat → Prop) (y0 : Nat) (yf : Nat → Nat) (tag : Nat) (a : Nat) (n : Nat) : Array Value → State → Outcome → State → Prop := va_Qi (pX1_hold y0 yf tag a n) (fun u => cAft dC dI cA A (vX1_hold cA y0 yf tag a n u)) A
set_option maxHeartbeats 4000000 in
set_option maxRecDepth 100000 in
theorem k_X1_hold (l : Launch) (dC : Nat → ClassId) (dI : Nat → Nat → Nat) (cA : ClassId) (y0 : Nat) (yf : Nat → Nat) (tag : Nat) (a : Nat) (n : Nat) (sz : Nat) (htag : tag < 256) (hyf : ∀ j, yf j < 256) (han : a + n ≤ 300) : Met l yX1_hold wsX1_hold ({ frames := 1, cells := 0, slots := 0, locals := 24 } : Room) (va_Pc [.int (nI tag), .ref y0, .int (nI a), .int (nI n)] (cPre dC dI cA (wA cA y0 yf) sz)) (qX1_hold dC dI cA (va_A (wA cA y0 yf) sz) y0 yf tag a n) 0 0 (va_A (wA cA y0 yf) sz) := by
  refine Met.ofW (cc := cX1_hold) (maxL := 4) (ret := (some .boolean)) (by decide) rfl ?_
  intro p e s m args below meth c s₁ B hml hv
  obtain ⟨rfl, hsz, hP, hK, hD0⟩ := hv
  have hx := B.exec
  have hb := B.bytes
  have hr := B.returns
  have hts := atoms_spec (ws := wsX1_hold) B.pre
  have hown : s.vm.findClass RX1 = some m.cls := findClass_of_methodNamed B.named
  have hlocks := B.notSynchronized
  subst hsz
  have hD := hD0.self (sz := s.heap.size)
  generalize hAe : va_A (wA cA y0 yf) s.heap.size = A at hD ⊢
  have hA : ∀ q : Nat, s.heap.size ≤ q → A q := fun q h => by rw [← hAe]; exact Or.inr h
  have hS : va_S A s.heap s.heap [] := va_S.rf
  have hl := lv_entry ([.int (nI tag), .ref y0, .int (nI a), .int (nI n)]) (n := 4) (Nat.le_of_ble_eq_true rfl)
  rw [lg_entry_eq]
  generalize (lg_sl ([.int (nI tag), .ref y0, .int (nI a), .int (nI n)]) ++ List.replicate (4 - (lg_sl ([.int (nI tag), .ref y0, .int (nI a), .int (nI n)])).length) Slot.unset).toArray = ls at hl ⊢
  have hl : lv_has ls 4 [(0, .int (nI tag)), (1, .ref y0), (2, .int (nI a)), (3, .int (nI n))] := hl
  have hP : va_P (dC, dI) vwCl (wA cA y0 yf) s.heap := hP
  refine lv_iload_n hx hb dX1_hold_0 rfl (lv_at hl 0 rfl) ?_
  rcases (show tag = 1 ∨ tag = 2 ∨ tag = 3 ∨ tag = 4 ∨ tag = 5 ∨ tag = 6 ∨ (tag < 1 ∨ 6 < tag) by omega) with c_1 | c_1 | c_1 | c_1 | c_1 | c_1 | c_1
  · refine hl_top (show nI tag = nI 1 by rw [c_1]) ?_
    refine lv_tableIn (off := 39) (tgt := 40) hx hb dX1_hold_1 (by decide) (by decide) (by decide) (by decide) ?_
    refine lv_iload_n hx hb dX1_hold_40 rfl (lv_at hl 3 rfl) ?_
    refine lv_iconst (v := nI 1) hx hb dX1_hold_41 (by decide) ?_
    refine hl_icmp_ne (tgt := 64) hx hb dX1_hold_42 (by decide) (by omega) (by omega) (fun c_2 => ?_) (fun c_2 => ?_)
    · refine lv_iconst (v := nI 0) hx hb dX1_hold_64 (by decide) ?_
      have hP9 : va_P (dC, dI) vwCl (vX1_hold cA y0 yf tag a n ()) _ := hP
      have hD9 : va_D A (vX1_hold cA y0 yf tag a n ()) := hD
      have hq9 : pX1_hold y0 yf tag a n (nI 0) () := (if_neg (by simp only [okC, okBool]; simp; first | omega | grind)).symm
      exact W.zret (v := nI 0) hx hb hr rfl (fun t ht hW => ⟨⟨nI 0, (), rfl, hq9, by rw [ht]; exact hP9, va_K.moved hW.alike hK, hD9⟩, hS.F ht⟩) hS.2.2 dX1_hold_65
    · refine lv_aload_n hx hb dX1_hold_45 rfl (lv_at hl 1 rfl) ?_
      refine lv_iload_n hx hb dX1_hold_46 rfl (lv_at hl 2 rfl) ?_
      refine hl_iald hx hb hK hP 0 0 rfl rfl (by omega) (by decide) dX1_hold_47 ?_
      have hv_3 := hyf a
      refine hl_if_eq (tgt := 60) hx hb dX1_hold_48 (by decide) (by omega) (fun c_4 => ?_) (fun c_4 => ?_)
      · refine lv_iconst (v := nI 1) hx hb dX1_hold_60 (by decide) ?_
        refine lv_goto (tgt := 65) hx hb dX1_hold_61 (by decide) ?_
        have hP9 : va_P (dC, dI) vwCl (vX1_hold cA y0 yf tag a n ()) _ := hP
        have hD9 : va_D A (vX1_hold cA y0 yf tag a n ()) := hD
        have hq9 : pX1_hold y0 yf tag a n (nI 1) () := (if_pos (by simp only [okC, okBool]; simp; first | omega | grind)).symm
        exact W.zret (v := nI 1) hx hb hr rfl (fun t ht hW => ⟨⟨nI 1, (), rfl, hq9, by rw [ht]; exact hP9, va_K.moved hW.alike hK, hD9⟩, hS.F ht⟩) hS.2.2 dX1_hold_65
      · refine lv_aload_n hx hb dX1_hold_51 rfl (lv_at hl 1 rfl) ?_
        refine lv_iload_n hx hb dX1_hold_52 rfl (lv_at hl 2 rfl) ?_
        refine hl_iald hx hb hK hP 0 0 rfl rfl (by omega) (by decide) dX1_hold_53 ?_
        have hv_5 := hyf a
        refine lv_sipush (v := nI 255) hx hb dX1_hold_54 (by decide) ?_
        refine hl_icmp_ne (tgt := 64) hx hb dX1_hold_57 (by decide) (by omega) (by omega) (fun c_6 => ?_) (fun c_6 => ?_)
        · refine lv_iconst (v := nI 0) hx hb dX1_hold_64 (by decide) ?_
          have hP9 : va_P (dC, dI) vwCl (vX1_hold cA y0 yf tag a n ()) _ := hP
          have hD9 : va_D A (vX1_hold cA y0 yf tag a n ()) := hD
          have hq9 : pX1_hold y0 yf tag a n (nI 0) () := (if_neg (by simp only [okC, okBool]; simp; first | omega | grind)).symm
          exact W.zret (v := nI 0) hx hb hr rfl (fun t ht hW => ⟨⟨nI 0, (), rfl, hq9, by rw [ht]; exact hP9, va_K.moved hW.alike hK, hD9⟩, hS.F ht⟩) hS.2.2 dX1_hold_65
        · refine lv_iconst (v := nI 1) hx hb dX1_hold_60 (by decide) ?_
          refine lv_goto (tgt := 65) hx hb dX1_hold_61 (by decide) ?_
          have hP9 : va_P (dC, dI) vwCl (vX1_hold cA y0 yf tag a n ()) _ := hP
          have hD9 : va_D A (vX1_hold cA y0 yf tag a n ()) := hD
          have hq9 : pX1_hold y0 yf tag a n (nI 1) () := (if_pos (by simp only [okC, okBool]; simp; first | omega | grind)).symm
          exact W.zret (v := nI 1) hx hb hr rfl (fun t ht hW => ⟨⟨nI 1, (), rfl, hq9, by rw [ht]; exact hP9, va_K.moved hW.alike hK, hD9⟩, hS.F ht⟩) hS.2.2 dX1_hold_65
  · refine hl_top (show nI tag = nI 2 by rw [c_1]) ?_
    refine lv_tableIn (off := 65) (tgt := 66) hx hb dX1_hold_1 (by decide) (by decide) (by decide) (by decide) ?_
    refine lv_aload_n hx hb dX1_hold_66 rfl (lv_at hl 1 rfl) ?_
    refine lv_iload_n hx hb dX1_hold_67 rfl (lv_at hl 2 rfl) ?_
    refine lv_iload_n hx hb dX1_hold_68 rfl (lv_at hl 3 rfl) ?_
    refine cl_Si (As := [.ref y0, .int (nI a), .int (nI n)]) (rest := []) (wr := []) ⟨hx, hb, hml, hown, hts⟩ (k_X1_isRightInteger l dC dI cA y0 yf a n _ hyf (by omega)) (va_cwS 3 hts gX1_hold_X1_isRightInteger rfl rfl rfl (by decide +kernel) ⟨Nat.le_of_ble_eq_true rfl, Nat.le_of_ble_eq_true rfl⟩) hK hP hD hS hA [0] [] rfl rfl (by decide) (by decide) (by decide) rfl hl.1 rfl (Nat.le_of_ble_eq_true rfl) dX1_hold_69 ⟨Nat.le_of_ble_eq_true rfl, Nat.le_of_ble_eq_true rfl⟩ (fun r_7 u_7 H locs hw_7 hP hD hS => ?_)
    have hP : va_P (dC, dI) vwCl (wA cA y0 yf) H := hP
    have hD : va_D A (wA cA y0 yf) := hD
    have hw_7 : r_7 = if okInt yf a n = true then 1 else 0 := hw_7
    have hw_7 := hw_7.symm
    subst hw_7
    have hP9 : va_P (dC, dI) vwCl (vX1_hold cA y0 yf tag a n ()) _ := hP
    have hD9 : va_D A (vX1_hold cA y0 yf tag a n ()) := hD
    have hq9 : pX1_hold y0 yf tag a n ((if okInt yf a n = true then 1 else 0)) () := (by show _ = _; simp only [okC, *]; rfl)
    exact W.zret (v := (if okInt yf a n = true then 1 else 0)) hx hb hr (z_narrow _) (fun t ht hW => ⟨⟨(if okInt yf a n = true then 1 else 0), (), rfl, hq9, by rw [ht]; exact hP9, va_K.moved hW.alike hK, hD9⟩, hS.F ht⟩) hS.2.2 dX1_hold_72
  · refine hl_top (show nI tag = nI 3 by rw [c_1]) ?_
    refine lv_tableIn (off := 72) (tgt := 73) hx hb dX1_hold_1 (by decide) (by decide) (by decide) (by decide) ?_
    refine lv_aload_n hx hb dX1_hold_73 rfl (lv_at hl 1 rfl) ?_
    refine lv_iload_n hx hb dX1_hold_74 rfl (lv_at hl 2 rfl) ?_
    refine lv_iload_n hx hb dX1_hold_75 rfl (lv_at hl 3 rfl) ?_
    refine cl_Si (As := [.ref y0, .int (nI a), .int (nI n)]) (rest := []) (wr := []) ⟨hx, hb, hml, hown, hts⟩ (k_X1_isRightBits l dC dI cA y0 yf a n _ hyf (by omega)) (va_cwS 3 hts gX1_hold_X1_isRightBits rfl rfl rfl (by decide +kernel) ⟨Nat.le_of_ble_eq_true rfl, Nat.le_of_ble_eq_true rfl⟩) hK hP hD hS hA [0] [] rfl rfl (by decide) (by decide) (by decide) rfl hl.1 rfl (Nat.le_of_ble_eq_true rfl) dX1_hold_76 ⟨Nat.le_of_ble_eq_true rfl, Nat.le_of_ble_eq_true rfl⟩ (fun r_8 u_8 H locs hw_8 hP hD hS => ?_)
    have hP : va_P (dC, dI) vwCl (wA cA y0 yf) H := hP
    have hD : va_D A (wA cA y0 yf) := hD
    have hw_8 : r_8 = if okBits yf a n = true then 1 else 0 := hw_8
    have hw_8 := hw_8.symm
    subst hw_8
    have hP9 : va_P (dC, dI) vwCl (vX1_hold cA y0 yf tag a n ()) _ := hP
    have hD9 : va_D A (vX1_hold cA y0 yf tag a n ()) := hD
    have hq9 : pX1_hold y0 yf tag a n ((if okBits yf a n = true then 1 else 0)) () := (by show _ = _; simp only [okC, *]; rfl)
    exact W.zret (v := (if okBits yf a n = true then 1 else 0)) hx hb hr (z_narrow _) (fun t ht hW => ⟨⟨(if okBits yf a n = true then 1 else 0), (), rfl, hq9, by rw [ht]; exact hP9, va_K.moved hW.alike hK, hD9⟩, hS.F ht⟩) hS.2.2 dX1_hold_79
  · refine hl_top (show nI tag = nI 4 by rw [c_1]) ?_
    refine lv_tableIn (off := 96) (tgt := 97) hx hb dX1_hold_1 (by decide) (by decide) (by decide) (by decide) ?_
    refine lv_iconst (v := nI 1) hx hb dX1_hold_97 (by decide) ?_
    have hP9 : va_P (dC, dI) vwCl (vX1_hold cA y0 yf tag a n ()) _ := hP
    have hD9 : va_D A (vX1_hold cA y0 yf tag a n ()) := hD
    have hq9 : pX1_hold y0 yf tag a n (nI 1) () := (if_pos (by simp only [okC, okBool]; simp; first | omega | grind)).symm
    exact W.zret (v := nI 1) hx hb hr rfl (fun t ht hW => ⟨⟨nI 1, (), rfl, hq9, by rw [ht]; exact hP9, va_K.moved hW.alike hK, hD9⟩, hS.F ht⟩) hS.2.2 dX1_hold_98
  · refine hl_top (show nI tag = nI 5 by rw [c_1]) ?_
    refine lv_tableIn (off := 79) (tgt := 80) hx hb dX1_hold_1 (by decide) (by decide) (by decide) (by decide) ?_
    refine lv_iload_n hx hb dX1_hold_80 rfl (lv_at hl 3 rfl) ?_
    refine hl_if_ne (tgt := 88) hx hb dX1_hold_81 (by decide) (by omega) (fun c_9 => ?_) (fun c_9 => ?_)
    · refine lv_iconst (v := nI 0) hx hb dX1_hold_88 (by decide) ?_
      have hP9 : va_P (dC, dI) vwCl (vX1_hold cA y0 yf tag a n ()) _ := hP
      have hD9 : va_D A (vX1_hold cA y0 yf tag a n ()) := hD
      have hq9 : pX1_hold y0 yf tag a n (nI 0) () := (if_neg (by simp only [okC, okBool]; simp; first | omega | grind)).symm
      exact W.zret (v := nI 0) hx hb hr rfl (fun t ht hW => ⟨⟨nI 0, (), rfl, hq9, by rw [ht]; exact hP9, va_K.moved hW.alike hK, hD9⟩, hS.F ht⟩) hS.2.2 dX1_hold_89
    · refine lv_iconst (v := nI 1) hx hb dX1_hold_84 (by decide) ?_
      refine lv_goto (tgt := 89) hx hb dX1_hold_85 (by decide) ?_
      have hP9 : va_P (dC, dI) vwCl (vX1_hold cA y0 yf tag a n ()) _ := hP
      have hD9 : va_D A (vX1_hold cA y0 yf tag a n ()) := hD
      have hq9 : pX1_hold y0 yf tag a n (nI 1) () := (if_pos (by simp only [okC, okBool]; simp; first | omega | grind)).symm
      exact W.zret (v := nI 1) hx hb hr rfl (fun t ht hW => ⟨⟨nI 1, (), rfl, hq9, by rw [ht]; exact hP9, va_K.moved hW.alike hK, hD9⟩, hS.F ht⟩) hS.2.2 dX1_hold_89
  · refine hl_top (show nI tag = nI 6 by rw [c_1]) ?_
    refine lv_tableIn (off := 89) (tgt := 90) hx hb dX1_hold_1 (by decide) (by decide) (by decide) (by decide) ?_
    refine lv_aload_n hx hb dX1_hold_90 rfl (lv_at hl 1 rfl) ?_
    refine lv_iload_n hx hb dX1_hold_91 rfl (lv_at hl 2 rfl) ?_
    refine lv_iload_n hx hb dX1_hold_92 rfl (lv_at hl 3 rfl) ?_
    refine cl_Si (As := [.ref y0, .int (nI a), .int (nI n)]) (rest := []) (wr := []) ⟨hx, hb, hml, hown, hts⟩ (k_X1_isRightObject l dC dI cA y0 yf a n _ hyf (by omega)) (va_cwS 3 hts gX1_hold_X1_isRightObject rfl rfl rfl (by decide +kernel) ⟨Nat.le_of_ble_eq_true rfl, Nat.le_of_ble_eq_true rfl⟩) hK hP hD hS hA [0] [] rfl rfl (by decide) (by decide) (by decide) rfl hl.1 rfl (Nat.le_of_ble_eq_true rfl) dX1_hold_93 ⟨Nat.le_of_ble_eq_true rfl, Nat.le_of_ble_eq_true rfl⟩ (fun r_10 u_10 H locs hw_10 hP hD hS => ?_)
    have hP : va_P (dC, dI) vwCl (wA cA y0 yf) H := hP
    have hD : va_D A (wA cA y0 yf) := hD
    have hw_10 : r_10 = if okObj yf a n = true then 1 else 0 := hw_10
    have hw_10 := hw_10.symm
    subst hw_10
    have hP9 : va_P (dC, dI) vwCl (vX1_hold cA y0 yf tag a n ()) _ := hP
    have hD9 : va_D A (vX1_hold cA y0 yf tag a n ()) := hD
    have hq9 : pX1_hold y0 yf tag a n ((if okObj yf a n = true then 1 else 0)) () := (by show _ = _; simp only [okC, *]; rfl)
    exact W.zret (v := (if okObj yf a n = true then 1 else 0)) hx hb hr (z_narrow _) (fun t ht hW => ⟨⟨(if okObj yf a n = true then 1 else 0), (), rfl, hq9, by rw [ht]; exact hP9, va_K.moved hW.alike hK, hD9⟩, hS.F ht⟩) hS.2.2 dX1_hold_96
  · refine lv_tableOut (tgt := 97) hx hb dX1_hold_1 (by rw [nI_toInt (by omega)]; omega) (by decide) ?_
    refine lv_iconst (v := nI 1) hx hb dX1_hold_97 (by decide) ?_
    have hP9 : va_P (dC, dI) vwCl (vX1_hold cA y0 yf tag a n ()) _ := hP
    have hD9 : va_D A (vX1_hold cA y0 yf tag a n ()) := hD
    have hq9 : pX1_hold y0 yf tag a n (nI 1) () := (if_pos (by simp only [okC, okBool]; simp; first | omega | grind)).symm
    exact W.zret (v := nI 1) hx hb hr rfl (fun t ht hW => ⟨⟨nI 1, (), rfl, hq9, by rw [ht]; exact hP9, va_K.moved hW.alike hK, hD9⟩, hS.F ht⟩) hS.2.2 dX1_hold_98
end
section
abbrev pX0_endOf (r0 : Nat) (r1 : Nat) (r2 : Nat) (r3 : Nat) (r4 : Nat) (r5 : Nat) (r6 : Nat) (row : Nat → Nat) (rs : Nat) (tg : Nat → Nat) (st : Nat → Nat) (ln : Nat → Nat) (pa : Nat → Int32) (nd : Nat) (ar : Nat → Nat) (lv : Nat) (of : Int32) (node : Nat) : Int32 → Unit → Prop := fun (r : Int32) (u : Unit) => r = nI (st node + ln node)
abbrev vX0_endOf (cA : ClassId) (r0 : Nat) (r1 : Nat) (r2 : Nat) (r3 : Nat) (r4 : Nat) (r5 : Nat) (r6 : Nat) (row : Nat → Nat) (rs : Nat) (tg : Nat → Nat) (st : Nat → Nat) (ln : Nat → Nat) (pa : Nat → Int32) (nd : Nat) (ar : Nat → Nat) (lv : Nat) (of : Int32) (node : Nat) : Unit → va_W := fun (u : Unit) => wR cA r0 r1 r2 r3 r4 r5 r6 row rs tg st ln pa nd ar lv of
abbrev qX0_endOf (dC : Nat → ClassId) (dI : Nat → Nat → Nat) (cA : ClassId) (A : Nat → Prop) (r0 : Nat) (r1 : Nat) (r2 : Nat) (r3 : Nat) (r4 : Nat) (r5 : Nat) (r6 : Nat) (row : Nat → Nat) (rs : Nat) (tg : Nat → Nat) (st : Nat → Nat) (ln : Nat → Nat) (pa : Nat → Int32) (nd : Nat) (ar : Nat → Nat) (lv : Nat) (of : Int32) (node : Nat) : Array Value → State → Outcome → State → Prop := va_Qi (pX0_endOf r0 r1 r2 r3 r4 r5 r6 row rs tg st ln pa nd ar lv of node) (fun u => cAft dC dI cA A (vX0_endOf cA r0 r1 r2 r3 r4 r5 r6 row rs tg st ln pa nd ar lv of node u)) A
set_option maxHeartbeats 4000000 in
set_option maxRecDepth 100000 in
theorem k_X0_endOf (l : Launch) (dC : Nat → ClassId) (dI : Nat → Nat → Nat) (cA : ClassId) (r0 : Nat) (r1 : Nat) (r2 : Nat) (r3 : Nat) (r4 : Nat) (r5 : Nat) (r6 : Nat) (row : Nat → Nat) (rs : Nat) (tg : Nat → Nat) (st : Nat → Nat) (ln : Nat → Nat) (pa : Nat → Int32) (nd : Nat) (ar : Nat → Nat) (lv : Nat) (of : Int32) (node : Nat) (sz : Nat) (hn1 : node < 64) : Met l yX0_endOf wsX0_endOf ({ frames := 0, cells := 0, slots := 0, locals := 0 } : Room) (va_Pc [.ref r0, .int (nI node)] (cPre dC dI cA (wR cA r0 r1 r2 r3 r4 r5 r6 row rs tg st ln pa nd ar lv of) sz)) (qX0_endOf dC dI cA (va_A (wR cA r0 r1 r2 r3 r4 r5 r6 row rs tg st ln pa nd ar lv of) sz) r0 r1 r2 r3 r4 r5 r6 row rs tg st ln pa nd ar lv of node) 0 0 (va_A (wR cA r0 r1 r2 r3 r4 r5 r6 row rs tg st ln pa nd ar lv of) sz) := by
  refine Met.ofW (cc := cX0_endOf) (maxL := 2) (ret := (some .int)) (by decide) rfl ?_
  intro p e s m args below meth c s₁ B hml hv
  obtain ⟨rfl, hsz, hP, hK, hD0⟩ := hv
  have hx := B.exec
  have hb := B.bytes
  have hr := B.returns
  have hts := atoms_spec (ws := wsX0_endOf) B.pre
  have hown : s.vm.findClass RX0 = some m.cls := findClass_of_methodNamed B.named
  have hlocks := B.notSynchronized
  subst hsz
  have hD := hD0.self (sz := s.heap.size)
  generalize hAe : va_A (wR cA r0 r1 r2 r3 r4 r5 r6 row rs tg st ln pa nd ar lv of) s.heap.size = A at hD ⊢
  have hA : ∀ q : Nat, s.heap.size ≤ q → A q := fun q h => by rw [← hAe]; exact Or.inr h
  have hS : va_S A s.heap s.heap [] := va_S.rf
  have hl := lv_entry ([.ref r0, .int (nI node)]) (n := 2) (Nat.le_of_ble_eq_true rfl)
  rw [lg_entry_eq]
  generalize (lg_sl ([.ref r0, .int (nI node)]) ++ List.replicate (2 - (lg_sl ([.ref r0, .int (nI node)])).length) Slot.unset).toArray = ls at hl ⊢
  have hl : lv_has ls 2 [(0, .ref r0), (1, .int (nI node))] := hl
  have hinX0 : ∀ w ∈ wsX00, w ∈ wsX0_endOf := fun _ h => List.mem_cons_of_mem _ (List.mem_append_right _ h)
  have hf_22 := hts (.fieldLink RX0 22 "DerDesk$Reader" "starts" "[I") (by decide +kernel)
  have hf_25 := hts (.fieldLink RX0 25 "DerDesk$Reader" "lengths" "[I") (by decide +kernel)
  have hP : va_P (dC, dI) vwCl (wR cA r0 r1 r2 r3 r4 r5 r6 row rs tg st ln pa nd ar lv of) s.heap := hP
  refine lv_aload_n hx hb dX0_endOf_0 rfl (lv_at hl 0 rfl) ?_
  refine va_get (D := (dC, dI)) (ci := 0) (v := .ref r3) (C := RX0) (T := TX0) (N := 10) hx hb hts hinX0 hown hK hP 0 rfl rfl 3 (by decide) hf_22 (fun _ h9 => h9) rfl dX0_endOf_1 ?_
  refine lv_iload_n hx hb dX0_endOf_4 rfl (lv_at hl 1 rfl) ?_
  refine hl_iald hx hb hK hP 3 0 rfl rfl (by omega) (by decide) dX0_endOf_5 ?_
  refine lv_aload_n hx hb dX0_endOf_6 rfl (lv_at hl 0 rfl) ?_
  refine va_get (D := (dC, dI)) (ci := 0) (v := .ref r4) (C := RX0) (T := TX0) (N := 10) hx hb hts hinX0 hown hK hP 0 rfl rfl 4 (by decide) hf_25 (fun _ h9 => h9) rfl dX0_endOf_7 ?_
  refine lv_iload_n hx hb dX0_endOf_10 rfl (lv_at hl 1 rfl) ?_
  refine hl_iald hx hb hK hP 4 0 rfl rfl (by omega) (by decide) dX0_endOf_11 ?_
  refine hl_iadd hx hb dX0_endOf_12 ?_
  have hP9 : va_P (dC, dI) vwCl (vX0_endOf cA r0 r1 r2 r3 r4 r5 r6 row rs tg st ln pa nd ar lv of node ()) _ := hP
  have hD9 : va_D A (vX0_endOf cA r0 r1 r2 r3 r4 r5 r6 row rs tg st ln pa nd ar lv of node ()) := hD
  have hq9 : pX0_endOf r0 r1 r2 r3 r4 r5 r6 row rs tg st ln pa nd ar lv of node (nI ((st node) + (ln node))) () := rfl
  exact W.iret (v := nI ((st node) + (ln node))) hx hb hr (fun t ht hW => ⟨⟨nI ((st node) + (ln node)), (), rfl, hq9, by rw [ht]; exact hP9, va_K.moved hW.alike hK, hD9⟩, hS.F ht⟩) hS.2.2 dX0_endOf_13
def limN (rs lv : Nat) (ar st ln : Nat → Nat) : Nat := if lv = 0 then rs else st (ar (lv - 1)) + ln (ar (lv - 1))
abbrev pX0_limitHere (r0 : Nat) (r1 : Nat) (r2 : Nat) (r3 : Nat) (r4 : Nat) (r5 : Nat) (r6 : Nat) (row : Nat → Nat) (rs : Nat) (tg : Nat → Nat) (st : Nat → Nat) (ln : Nat → Nat) (pa : Nat → Int32) (nd : Nat) (ar : Nat → Nat) (lv : Nat) (of : Int32) : Int32 → Unit → Prop := fun (r : Int32) (u : Unit) => r = nI (limN rs lv ar st ln)
abbrev vX0_limitHere (cA : ClassId) (r0 : Nat) (r1 : Nat) (r2 : Nat) (r3 : Nat) (r4 : Nat) (r5 : Nat) (r6 : Nat) (row : Nat → Nat) (rs : Nat) (tg : Nat → Nat) (st : Nat → Nat) (ln : Nat → Nat) (pa : Nat → Int32) (nd : Nat) (ar : Nat → Nat) (lv : Nat) (of : Int32) : Unit → va_W := fun (u : Unit) => wR cA r0 r1 r2 r3 r4 r5 r6 row rs tg st ln pa nd ar lv of
abbrev qX0_limitHere (dC : Nat → ClassId) (dI : Nat → Nat → Nat) (cA : ClassId) (A : Nat → Prop) (r0 : Nat) (r1 : Nat) (r2 : Nat) (r3 : Nat) (r4 : Nat) (r5 : Nat) (r6 : Nat) (row : Nat → Nat) (rs : Nat) (tg : Nat → Nat) (st : Nat → Nat) (ln : Nat → Nat) (pa : Nat → Int32) (nd : Nat) (ar : Nat → Nat) (lv : Nat) (of : Int32) : Array Value → State → Outcome → State → Prop := va_Qi (pX0_limitHere r0 r1 r2 r3 r4 r5 r6 row rs tg st ln pa nd ar lv of) (fun u => cAft dC dI cA A (vX0_limitHere cA r0 r1 r2 r3 r4 r5 r6 row rs tg st ln pa nd ar lv of u)) A
set_option maxHeartbeats 4000000 in
set_option maxRecDepth 100000 in
theorem k_X0_limitHere (l : Launch) (dC : Nat → ClassId) (dI : Nat → Nat → Nat) (cA : ClassId) (r0 : Nat) (r1 : Nat) (r2 : Nat) (r3 : Nat) (r4 : Nat) (r5 : Nat) (r6 : Nat) (row : Nat → Nat) (rs : Nat) (tg : Nat → Nat) (st : Nat → Nat) (ln : Nat → Nat) (pa : Nat → Int32) (nd : Nat) (ar : Nat → Nat) (lv : Nat) (of : Int32) (sz : Nat) (hlv : lv ≤ 16) (har : ∀ j, j < lv → ar j < 64) : Met l yX0_limitHere wsX0_limitHere ({ frames := 1, cells := 0, slots := 0, locals := 21 } : Room) (va_Pc [.ref r0] (cPre dC dI cA (wR cA r0 r1 r2 r3 r4 r5 r6 row rs tg st ln pa nd ar lv of) sz)) (qX0_limitHere dC dI cA (va_A (wR cA r0 r1 r2 r3 r4 r5 r6 row rs tg st ln pa nd ar lv of) sz) r0 r1 r2 r3 r4 r5 r6 row rs tg st ln pa nd ar lv of) 0 0 (va_A (wR cA r0 r1 r2 r3 r4 r5 r6 row rs tg st ln pa nd ar lv of) sz) := by
  refine Met.ofW (cc := cX0_limitHere) (maxL := 1) (ret := (some .int)) (by decide) rfl ?_
  intro p e s m args below meth c s₁ B hml hv
  obtain ⟨rfl, hsz, hP, hK, hD0⟩ := hv
  have hx := B.exec
  have hb := B.bytes
  have hr := B.returns
  have hts := atoms_spec (ws := wsX0_limitHere) B.pre
  have hown : s.vm.findClass RX0 = some m.cls := findClass_of_methodNamed B.named
  have hlocks := B.notSynchronized
  subst hsz
  have hD := hD0.self (sz := s.heap.size)
  generalize hAe : va_A (wR cA r0 r1 r2 r3 r4 r5 r6 row rs tg st ln pa nd ar lv of) s.heap.size = A at hD ⊢
  have hA : ∀ q : Nat, s.heap.size ≤ q → A q := fun q h => by rw [← hAe]; exact Or.inr h
  have hS : va_S A s.heap s.heap [] := va_S.rf
  have hl := lv_entry ([.ref r0]) (n := 1) (Nat.le_of_ble_eq_true rfl)
  rw [lg_entry_eq]
  generalize (lg_sl ([.ref r0]) ++ List.replicate (1 - (lg_sl ([.ref r0])).length) Slot.unset).toArray = ls at hl ⊢
  have hl : lv_has ls 1 [(0, .ref r0)] := hl
  have hinX0 : ∀ w ∈ wsX00, w ∈ wsX0_limitHere := fun _ h => List.mem_cons_of_mem _ (List.mem_append_right _ h)
  have hf_15 := hts (.fieldLink RX0 15 "DerDesk$Reader" "rowSize" "I") (by decide +kernel)
  have hf_34 := hts (.fieldLink RX0 34 "DerDesk$Reader" "around" "[I") (by decide +kernel)
  have hf_37 := hts (.fieldLink RX0 37 "DerDesk$Reader" "level" "I") (by decide +kernel)
  have hP : va_P (dC, dI) vwCl (wR cA r0 r1 r2 r3 r4 r5 r6 row rs tg st ln pa nd ar lv of) s.heap := hP
  refine lv_aload_n hx hb dX0_limitHere_0 rfl (lv_at hl 0 rfl) ?_
  refine va_get (D := (dC, dI)) (ci := 0) (v := .int (nI lv)) (C := RX0) (T := TX0) (N := 10) hx hb hts hinX0 hown hK hP 0 rfl rfl 8 (by decide) hf_37 (fun _ h9 => h9) rfl dX0_limitHere_1 ?_
  refine hl_if_ne (tgt := 14) hx hb dX0_limitHere_4 (by decide) (by omega) (fun c_1 => ?_) (fun c_1 => ?_)
  · refine lv_aload_n hx hb dX0_limitHere_14 rfl (lv_at hl 0 rfl) ?_
    refine lv_aload_n hx hb dX0_limitHere_15 rfl (lv_at hl 0 rfl) ?_
    refine va_get (D := (dC, dI)) (ci := 0) (v := .ref r6) (C := RX0) (T := TX0) (N := 10) hx hb hts hinX0 hown hK hP 0 rfl rfl 7 (by decide) hf_34 (fun _ h9 => h9) rfl dX0_limitHere_16 ?_
    refine lv_aload_n hx hb dX0_limitHere_19 rfl (lv_at hl 0 rfl) ?_
    refine va_get (D := (dC, dI)) (ci := 0) (v := .int (nI lv)) (C := RX0) (T := TX0) (N := 10) hx hb hts hinX0 hown hK hP 0 rfl rfl 8 (by decide) hf_37 (fun _ h9 => h9) rfl dX0_limitHere_20 ?_
    refine lv_iconst (v := nI 1) hx hb dX0_limitHere_23 (by decide) ?_
    refine hl_isub hx hb (by omega) dX0_limitHere_24 ?_
    refine hl_iald hx hb hK hP 6 0 rfl rfl (by omega) (by decide) dX0_limitHere_25 ?_
    refine cl_Vi (As := [.int (nI (ar (lv - 1)))]) (rest := []) (wr := []) ⟨hx, hb, hml, hown, hts⟩ (k_X0_endOf l dC dI cA r0 r1 r2 r3 r4 r5 r6 row rs tg st ln pa nd ar lv of (ar (lv - 1)) _ (har _ (by omega))) (cwV 1 hts gX0_limitHere_X0_endOf rfl rfl rfl (by decide +kernel) ⟨Nat.le_of_ble_eq_true rfl, Nat.le_of_ble_eq_true rfl⟩) hK hP hD hS hA [0, 1, 2, 3, 4, 5, 6] [] rfl rfl (by decide) (by decide) (by decide) (ci := 0) (q0 := 0) rfl rfl rfl rfl hl.1 rfl (Nat.le_of_ble_eq_true rfl) dX0_limitHere_26 ⟨Nat.le_of_ble_eq_true rfl, Nat.le_of_ble_eq_true rfl⟩ (fun r_2 u_2 H locs hw_2 hP hD hS => ?_)
    have hP : va_P (dC, dI) vwCl (wR cA r0 r1 r2 r3 r4 r5 r6 row rs tg st ln pa nd ar lv of) H := hP
    have hD : va_D A (wR cA r0 r1 r2 r3 r4 r5 r6 row rs tg st ln pa nd ar lv of) := hD
    have hw_2 : r_2 = nI (st (ar (lv - 1)) + ln (ar (lv - 1))) := hw_2
    have hw_2 := hw_2.symm
    subst hw_2
    have hP9 : va_P (dC, dI) vwCl (vX0_limitHere cA r0 r1 r2 r3 r4 r5 r6 row rs tg st ln pa nd ar lv of ()) _ := hP
    have hD9 : va_D A (vX0_limitHere cA r0 r1 r2 r3 r4 r5 r6 row rs tg st ln pa nd ar lv of ()) := hD
    have hq9 : pX0_limitHere r0 r1 r2 r3 r4 r5 r6 row rs tg st ln pa nd ar lv of (nI (st (ar (lv - 1)) + ln (ar (lv - 1)))) () := congrArg nI (by unfold limN; split <;> first | rfl | omega)
    exact W.iret (v := nI (st (ar (lv - 1)) + ln (ar (lv - 1)))) hx hb hr (fun t ht hW => ⟨⟨nI (st (ar (lv - 1)) + ln (ar (lv - 1))), (), rfl, hq9, by rw [ht]; exact hP9, va_K.moved hW.alike hK, hD9⟩, hS.F ht⟩) hS.2.2 dX0_limitHere_29
  · refine lv_aload_n hx hb dX0_limitHere_7 rfl (lv_at hl 0 rfl) ?_
    refine va_get (D := (dC, dI)) (ci := 0) (v := .int (nI rs)) (C := RX0) (T := TX0) (N := 10) hx hb hts hinX0 hown hK hP 0 rfl rfl 1 (by decide) hf_15 (fun _ h9 => h9) rfl dX0_limitHere_8 ?_
    refine lv_goto (tgt := 29) hx hb dX0_limitHere_11 (by decide) ?_
    have hP9 : va_P (dC, dI) vwCl (vX0_limitHere cA r0 r1 r2 r3 r4 r5 r6 row rs tg st ln pa nd ar lv of ()) _ := hP
    have hD9 : va_D A (vX0_limitHere cA r0 r1 r2 r3 r4 r5 r6 row rs tg st ln pa nd ar lv of ()) := hD
    have hq9 : pX0_limitHere r0 r1 r2 r3 r4 r5 r6 row rs tg st ln pa nd ar lv of (nI rs) () := congrArg nI (by unfold limN; split <;> first | rfl | omega)
    exact W.iret (v := nI rs) hx hb hr (fun t ht hW => ⟨⟨nI rs, (), rfl, hq9, by rw [ht]; exact hP9, va_K.moved hW.alike hK, hD9⟩, hS.F ht⟩) hS.2.2 dX0_limitHere_29
abbrev pX0_offend (r0 : Nat) (r1 : Nat) (r2 : Nat) (r3 : Nat) (r4 : Nat) (r5 : Nat) (r6 : Nat) (row : Nat → Nat) (rs : Nat) (tg : Nat → Nat) (st : Nat → Nat) (ln : Nat → Nat) (pa : Nat → Int32) (nd : Nat) (ar : Nat → Nat) (lv : Nat) (of : Int32) (code : Int32) (pl : Int32) : Int32 → Int32 → Prop := fun (r : Int32) (of2 : Int32) => r = code ∧ of2 = pl
abbrev vX0_offend (cA : ClassId) (r0 : Nat) (r1 : Nat) (r2 : Nat) (r3 : Nat) (r4 : Nat) (r5 : Nat) (r6 : Nat) (row : Nat → Nat) (rs : Nat) (tg : Nat → Nat) (st : Nat → Nat) (ln : Nat → Nat) (pa : Nat → Int32) (nd : Nat) (ar : Nat → Nat) (lv : Nat) (of : Int32) (code : Int32) (pl : Int32) : Int32 → va_W := fun (of2 : Int32) => wR cA r0 r1 r2 r3 r4 r5 r6 row rs tg st ln pa nd ar lv of2
abbrev qX0_offend (dC : Nat → ClassId) (dI : Nat → Nat → Nat) (cA : ClassId) (A : Nat → Prop) (r0 : Nat) (r1 : Nat) (r2 : Nat) (r3 : Nat) (r4 : Nat) (r5 : Nat) (r6 : Nat) (row : Nat → Nat) (rs : Nat) (tg : Nat → Nat) (st : Nat → Nat) (ln : Nat → Nat) (pa : Nat → Int32) (nd : Nat) (ar : Nat → Nat) (lv : Nat) (of : Int32) (code : Int32) (pl : Int32) : Array Value → State → Outcome → State → Prop := va_Qi (pX0_offend r0 r1 r2 r3 r4 r5 r6 row rs tg st ln pa nd ar lv of code pl) (fun u => cAft dC dI cA A (vX0_offend cA r0 r1 r2 r3 r4 r5 r6 row rs tg st ln pa nd ar lv of code pl u)) A
set_option maxHeartbeats 4000000 in
set_option maxRecDepth 100000 in
theorem k_X0_offend (l : Launch) (dC : Nat → ClassId) (dI : Nat → Nat → Nat) (cA : ClassId) (r0 : Nat) (r1 : Nat) (r2 : Nat) (r3 : Nat) (r4 : Nat) (r5 : Nat) (r6 : Nat) (row : Nat → Nat) (rs : Nat) (tg : Nat → Nat) (st : Nat → Nat) (ln : Nat → Nat) (pa : Nat → Int32) (nd : Nat) (ar : Nat → Nat) (lv : Nat) (of : Int32) (code : Int32) (pl : Int32) (sz : Nat)  : Met l yX0_offend wsX0_offend ({ frames := 0, cells := 0, slots := 0, locals := 0 } : Room) (va_Pc [.ref r0, .int code, .int pl] (cPre dC dI cA (wR cA r0 r1 r2 r3 r4 r5 r6 row rs tg st ln pa nd ar lv of) sz)) (qX0_offend dC dI cA (va_A (wR cA r0 r1 r2 r3 r4 r5 r6 row rs tg st ln pa nd ar lv of) sz) r0 r1 r2 r3 r4 r5 r6 row rs tg st ln pa nd ar lv of code pl) 0 0 (va_A (wR cA r0 r1 r2 r3 r4 r5 r6 row rs tg st ln pa nd ar lv of) sz) := by
  refine Met.ofW (cc := cX0_offend) (maxL := 3) (ret := (some .int)) (by decide) rfl ?_
  intro p e s m args below meth c s₁ B hml hv
  obtain ⟨rfl, hsz, hP, hK, hD0⟩ := hv
  have hx := B.exec
  have hb := B.bytes
  have hr := B.returns
  have hts := atoms_spec (ws := wsX0_offend) B.pre
  have hown : s.vm.findClass RX0 = some m.cls := findClass_of_methodNamed B.named
  have hlocks := B.notSynchronized
  subst hsz
  have hD := hD0.self (sz := s.heap.size)
  generalize hAe : va_A (wR cA r0 r1 r2 r3 r4 r5 r6 row rs tg st ln pa nd ar lv of) s.heap.size = A at hD ⊢
  have hA : ∀ q : Nat, s.heap.size ≤ q → A q := fun q h => by rw [← hAe]; exact Or.inr h
  have hS : va_S A s.heap s.heap [] := va_S.rf
  have hl := lv_entry ([.ref r0, .int code, .int pl]) (n := 3) (Nat.le_of_ble_eq_true rfl)
  rw [lg_entry_eq]
  generalize (lg_sl ([.ref r0, .int code, .int pl]) ++ List.replicate (3 - (lg_sl ([.ref r0, .int code, .int pl])).length) Slot.unset).toArray = ls at hl ⊢
  have hl : lv_has ls 3 [(0, .ref r0), (1, .int code), (2, .int pl)] := hl
  have hinX0 : ∀ w ∈ wsX00, w ∈ wsX0_offend := fun _ h => List.mem_cons_of_mem _ (List.mem_append_right _ h)
  have hf_40 := hts (.fieldLink RX0 40 "DerDesk$Reader" "offencePlace" "I") (by decide +kernel)
  have hP : va_P (dC, dI) vwCl (wR cA r0 r1 r2 r3 r4 r5 r6 row rs tg st ln pa nd ar lv of) s.heap := hP
  refine lv_aload_n hx hb dX0_offend_0 rfl (lv_at hl 0 rfl) ?_
  refine lv_iload_n hx hb dX0_offend_1 rfl (lv_at hl 2 rfl) ?_
  refine va_put (D := (dC, dI)) (ci := 0) (v := .int pl) (ty := .int) (C := RX0) (T := TX0) (N := 10) hx hb hts hinX0 tyX0 tyX0_ok nmX0 hown hK hP hD hS 0 rfl rfl 9 (by decide) hf_40 (fun _ h9 => h9) rfl (by decide +kernel) rfl rfl (Nat.le_of_ble_eq_true rfl) dX0_offend_2 (fun H locs hP hD hS => ?_)
  have hP : va_P (dC, dI) vwCl (wR cA r0 r1 r2 r3 r4 r5 r6 row rs tg st ln pa nd ar lv pl) H := hP
  have hD : va_D A (wR cA r0 r1 r2 r3 r4 r5 r6 row rs tg st ln pa nd ar lv pl) := hD
  refine lv_iload_n hx hb dX0_offend_5 rfl (lv_at hl 1 rfl) ?_
  have hP9 : va_P (dC, dI) vwCl (vX0_offend cA r0 r1 r2 r3 r4 r5 r6 row rs tg st ln pa nd ar lv of code pl pl) _ := hP
  have hD9 : va_D A (vX0_offend cA r0 r1 r2 r3 r4 r5 r6 row rs tg st ln pa nd ar lv of code pl pl) := hD
  have hq9 : pX0_offend r0 r1 r2 r3 r4 r5 r6 row rs tg st ln pa nd ar lv of code pl (code) pl := ⟨rfl, rfl⟩
  exact W.iret (v := code) hx hb hr (fun t ht hW => ⟨⟨code, pl, rfl, hq9, by rw [ht]; exact hP9, va_K.moved hW.alike hK, hD9⟩, hS.F ht⟩) hS.2.2 dX0_offend_6
abbrev pX0_isNode (r0 : Nat) (r1 : Nat) (r2 : Nat) (r3 : Nat) (r4 : Nat) (r5 : Nat) (r6 : Nat) (row : Nat → Nat) (rs : Nat) (tg : Nat → Nat) (st : Nat → Nat) (ln : Nat → Nat) (pa : Nat → Int32) (nd : Nat) (ar : Nat → Nat) (lv : Nat) (of : Int32) (node : Int32) : Int32 → Unit → Prop := fun (r : Int32) (u : Unit) => r = if isNd nd node then 1 else 0
abbrev vX0_isNode (cA : ClassId) (r0 : Nat) (r1 : Nat) (r2 : Nat) (r3 : Nat) (r4 : Nat) (r5 : Nat) (r6 : Nat) (row : Nat → Nat) (rs : Nat) (tg : Nat → Nat) (st : Nat → Nat) (ln : Nat → Nat) (pa : Nat → Int32) (nd : Nat) (ar : Nat → Nat) (lv : Nat) (of : Int32) (node : Int32) : Unit → va_W := fun (u : Unit) => wR cA r0 r1 r2 r3 r4 r5 r6 row rs tg st ln pa nd ar lv of
abbrev qX0_isNode (dC : Nat → ClassId) (dI : Nat → Nat → Nat) (cA : ClassId) (A : Nat → Prop) (r0 : Nat) (r1 : Nat) (r2 : Nat) (r3 : Nat) (r4 : Nat) (r5 : Nat) (r6 : Nat) (row : Nat → Nat) (rs : Nat) (tg : Nat → Nat) (st : Nat → Nat) (ln : Nat → Nat) (pa : Nat → Int32) (nd : Nat) (ar : Nat → Nat) (lv : Nat) (of : Int32) (node : Int32) : Array Value → State → Outcome → State → Prop := va_Qi (pX0_isNode r0 r1 r2 r3 r4 r5 r6 row rs tg st ln pa nd ar lv of node) (fun u => cAft dC dI cA A (vX0_isNode cA r0 r1 r2 r3 r4 r5 r6 row rs tg st ln pa nd ar lv of node u)) A
set_option maxHeartbeats 4000000 in
set_option maxRecDepth 100000 in
theorem k_X0_isNode (l : Launch) (dC : Nat → ClassId) (dI : Nat → Nat → Nat) (cA : ClassId) (r0 : Nat) (r1 : Nat) (r2 : Nat) (r3 : Nat) (r4 : Nat) (r5 : Nat) (r6 : Nat) (row : Nat → Nat) (rs : Nat) (tg : Nat → Nat) (st : Nat → Nat) (ln : Nat → Nat) (pa : Nat → Int32) (nd : Nat) (ar : Nat → Nat) (lv : Nat) (of : Int32) (node : Int32) (sz : Nat)  : Met l yX0_isNode wsX0_isNode ({ frames := 0, cells := 0, slots := 0, locals := 0 } : Room) (va_Pc [.ref r0, .int node] (cPre dC dI cA (wR cA r0 r1 r2 r3 r4 r5 r6 row rs tg st ln pa nd ar lv of) sz)) (qX0_isNode dC dI cA (va_A (wR cA r0 r1 r2 r3 r4 r5 r6 row rs tg st ln pa nd ar lv of) sz) r0 r1 r2 r3 r4 r5 r6 row rs tg st ln pa nd ar lv of node) 0 0 (va_A (wR cA r0 r1 r2 r3 r4 r5 r6 row rs tg st ln pa nd ar lv of) sz) := by
  refine Met.ofW (cc := cX0_isNode) (maxL := 2) (ret := (some .boolean)) (by decide) rfl ?_
  intro p e s m args below meth c s₁ B hml hv
  obtain ⟨rfl, hsz, hP, hK, hD0⟩ := hv
  have hx := B.exec
  have hb := B.bytes
  have hr := B.returns
  have hts := atoms_spec (ws := wsX0_isNode) B.pre
  have hown : s.vm.findClass RX0 = some m.cls := findClass_of_methodNamed B.named
  have hlocks := B.notSynchronized
  subst hsz
  have hD := hD0.self (sz := s.heap.size)
  generalize hAe : va_A (wR cA r0 r1 r2 r3 r4 r5 r6 row rs tg st ln pa nd ar lv of) s.heap.size = A at hD ⊢
  have hA : ∀ q : Nat, s.heap.size ≤ q → A q := fun q h => by rw [← hAe]; exact Or.inr h
  have hS : va_S A s.heap s.heap [] := va_S.rf
  have hl := lv_entry ([.ref r0, .int node]) (n := 2) (Nat.le_of_ble_eq_true rfl)
  rw [lg_entry_eq]
  generalize (lg_sl ([.ref r0, .int node]) ++ List.replicate (2 - (lg_sl ([.ref r0, .int node])).length) Slot.unset).toArray = ls at hl ⊢
  have hl : lv_has ls 2 [(0, .ref r0), (1, .int node)] := hl
  have hinX0 : ∀ w ∈ wsX00, w ∈ wsX0_isNode := fun _ h => List.mem_cons_of_mem _ (List.mem_append_right _ h)
  have hf_31 := hts (.fieldLink RX0 31 "DerDesk$Reader" "nodes" "I") (by decide +kernel)
  have hP : va_P (dC, dI) vwCl (wR cA r0 r1 r2 r3 r4 r5 r6 row rs tg st ln pa nd ar lv of) s.heap := hP
  refine lv_iload_n hx hb dX0_isNode_0 rfl (lv_at hl 1 rfl) ?_
  refine lv_if_lt (tgt := 16) hx hb dX0_isNode_1 (by decide) (fun c_1 => ?_) (fun c_1 => ?_)
  · refine lv_iconst (v := nI 0) hx hb dX0_isNode_16 (by decide) ?_
    have hP9 : va_P (dC, dI) vwCl (vX0_isNode cA r0 r1 r2 r3 r4 r5 r6 row rs tg st ln pa nd ar lv of node ()) _ := hP
    have hD9 : va_D A (vX0_isNode cA r0 r1 r2 r3 r4 r5 r6 row rs tg st ln pa nd ar lv of node ()) := hD
    have hq9 : pX0_isNode r0 r1 r2 r3 r4 r5 r6 row rs tg st ln pa nd ar lv of node (nI 0) () := (if_neg (by first | omega | grind)).symm
    exact W.zret (v := nI 0) hx hb hr rfl (fun t ht hW => ⟨⟨nI 0, (), rfl, hq9, by rw [ht]; exact hP9, va_K.moved hW.alike hK, hD9⟩, hS.F ht⟩) hS.2.2 dX0_isNode_17
  · refine lv_iload_n hx hb dX0_isNode_4 rfl (lv_at hl 1 rfl) ?_
    refine lv_aload_n hx hb dX0_isNode_5 rfl (lv_at hl 0 rfl) ?_
    refine va_get (D := (dC, dI)) (ci := 0) (v := .int (nI nd)) (C := RX0) (T := TX0) (N := 10) hx hb hts hinX0 hown hK hP 0 rfl rfl 6 (by decide) hf_31 (fun _ h9 => h9) rfl dX0_isNode_6 ?_
    refine lv_icmp_ge (tgt := 16) hx hb dX0_isNode_9 (by decide) (fun c_2 => ?_) (fun c_2 => ?_)
    · refine lv_iconst (v := nI 0) hx hb dX0_isNode_16 (by decide) ?_
      have hP9 : va_P (dC, dI) vwCl (vX0_isNode cA r0 r1 r2 r3 r4 r5 r6 row rs tg st ln pa nd ar lv of node ()) _ := hP
      have hD9 : va_D A (vX0_isNode cA r0 r1 r2 r3 r4 r5 r6 row rs tg st ln pa nd ar lv of node ()) := hD
      have hq9 : pX0_isNode r0 r1 r2 r3 r4 r5 r6 row rs tg st ln pa nd ar lv of node (nI 0) () := (if_neg (by first | omega | grind)).symm
      exact W.zret (v := nI 0) hx hb hr rfl (fun t ht hW => ⟨⟨nI 0, (), rfl, hq9, by rw [ht]; exact hP9, va_K.moved hW.alike hK, hD9⟩, hS.F ht⟩) hS.2.2 dX0_isNode_17
    · refine lv_iconst (v := nI 1) hx hb dX0_isNode_12 (by decide) ?_
      refine lv_goto (tgt := 17) hx hb dX0_isNode_13 (by decide) ?_
      have hP9 : va_P (dC, dI) vwCl (vX0_isNode cA r0 r1 r2 r3 r4 r5 r6 row rs tg st ln pa nd ar lv of node ()) _ := hP
      have hD9 : va_D A (vX0_isNode cA r0 r1 r2 r3 r4 r5 r6 row rs tg st ln pa nd ar lv of node ()) := hD
      have hq9 : pX0_isNode r0 r1 r2 r3 r4 r5 r6 row rs tg st ln pa nd ar lv of node (nI 1) () := (if_pos (by first | omega | grind)).symm
      exact W.zret (v := nI 1) hx hb hr rfl (fun t ht hW => ⟨⟨nI 1, (), rfl, hq9, by rw [ht]; exact hP9, va_K.moved hW.alike hK, hD9⟩, hS.F ht⟩) hS.2.2 dX0_isNode_17
abbrev pX0_addByte (r0 : Nat) (r1 : Nat) (r2 : Nat) (r3 : Nat) (r4 : Nat) (r5 : Nat) (r6 : Nat) (row : Nat → Nat) (rs : Nat) (tg : Nat → Nat) (st : Nat → Nat) (ln : Nat → Nat) (pa : Nat → Int32) (nd : Nat) (ar : Nat → Nat) (lv : Nat) (of : Int32) (b : Int32) : Int32 → (Nat → Nat) × Nat × Nat → Prop := fun (r : Int32) (u : (Nat → Nat) × Nat × Nat) => match u with | (row2, rs2, nd2) => (¬ isB b ∧ r = -1 ∧ row2 = row ∧ rs2 = rs ∧ nd2 = nd) ∨ (isB b ∧ rs = 300 ∧ r = -3 ∧ row2 = row ∧ rs2 = rs ∧ nd2 = nd) ∨ (isB b ∧ rs < 300 ∧ r = 0 ∧ row2 = va_up row rs b.toNatClampNeg ∧ rs2 = rs + 1 ∧ nd2 = 0)
abbrev vX0_addByte (cA : ClassId) (r0 : Nat) (r1 : Nat) (r2 : Nat) (r3 : Nat) (r4 : Nat) (r5 : Nat) (r6 : Nat) (row : Nat → Nat) (rs : Nat) (tg : Nat → Nat) (st : Nat → Nat) (ln : Nat → Nat) (pa : Nat → Int32) (nd : Nat) (ar : Nat → Nat) (lv : Nat) (of : Int32) (b : Int32) : (Nat → Nat) × Nat × Nat → va_W := fun (u : (Nat → Nat) × Nat × Nat) => match u with | (row2, rs2, nd2) => wR cA r0 r1 r2 r3 r4 r5 r6 row2 rs2 tg st ln pa nd2 ar lv of
abbrev qX0_addByte (dC : Nat → ClassId) (dI : Nat → Nat → Nat) (cA : ClassId) (A : Nat → Prop) (r0 : Nat) (r1 : Nat) (r2 : Nat) (r3 : Nat) (r4 : Nat) (r5 : Nat) (r6 : Nat) (row : Nat → Nat) (rs : Nat) (tg : Nat → Nat) (st : Nat → Nat) (ln : Nat → Nat) (pa : Nat → Int32) (nd : Nat) (ar : Nat → Nat) (lv : Nat) (of : Int32) (b : Int32) : Array Value → State → Outcome → State → Prop := va_Qi (pX0_addByte r0 r1 r2 r3 r4 r5 r6 row rs tg st ln pa nd ar lv of b) (fun u => cAft dC dI cA A (vX0_addByte cA r0 r1 r2 r3 r4 r5 r6 row rs tg st ln pa nd ar lv of b u)) A
set_option maxHeartbeats 4000000 in
set_option maxRecDepth 100000 in
theorem k_X0_addByte (l : Launch) (dC : Nat → ClassId) (dI : Nat → Nat → Nat) (cA : ClassId) (r0 : Nat) (r1 : Nat) (r2 : Nat) (r3 : Nat) (r4 : Nat) (r5 : Nat) (r6 : Nat) (row : Nat → Nat) (rs : Nat) (tg : Nat → Nat) (st : Nat → Nat) (ln : Nat → Nat) (pa : Nat → Int32) (nd : Nat) (ar : Nat → Nat) (lv : Nat) (of : Int32) (b : Int32) (sz : Nat) (hrs : rs ≤ 300) : Met l yX0_addByte wsX0_addByte ({ frames := 1, cells := 0, slots := 0, locals := 20 } : Room) (va_Pc [.ref r0, .int b] (cPre dC dI cA (wR cA r0 r1 r2 r3 r4 r5 r6 row rs tg st ln pa nd ar lv of) sz)) (qX0_addByte dC dI cA (va_A (wR cA r0 r1 r2 r3 r4 r5 r6 row rs tg st ln pa nd ar lv of) sz) r0 r1 r2 r3 r4 r5 r6 row rs tg st ln pa nd ar lv of b) 0 0 (va_A (wR cA r0 r1 r2 r3 r4 r5 r6 row rs tg st ln pa nd ar lv of) sz) := by
  refine Met.ofW (cc := cX0_addByte) (maxL := 2) (ret := (some .int)) (by decide) rfl ?_
  intro p e s m args below meth c s₁ B hml hv
  obtain ⟨rfl, hsz, hP, hK, hD0⟩ := hv
  have hx := B.exec
  have hb := B.bytes
  have hr := B.returns
  have hts := atoms_spec (ws := wsX0_addByte) B.pre
  have hown : s.vm.findClass RX0 = some m.cls := findClass_of_methodNamed B.named
  have hlocks := B.notSynchronized
  subst hsz
  have hD := hD0.self (sz := s.heap.size)
  generalize hAe : va_A (wR cA r0 r1 r2 r3 r4 r5 r6 row rs tg st ln pa nd ar lv of) s.heap.size = A at hD ⊢
  have hA : ∀ q : Nat, s.heap.size ≤ q → A q := fun q h => by rw [← hAe]; exact Or.inr h
  have hS : va_S A s.heap s.heap [] := va_S.rf
  have hl := lv_entry ([.ref r0, .int b]) (n := 2) (Nat.le_of_ble_eq_true rfl)
  rw [lg_entry_eq]
  generalize (lg_sl ([.ref r0, .int b]) ++ List.replicate (2 - (lg_sl ([.ref r0, .int b])).length) Slot.unset).toArray = ls at hl ⊢
  have hl : lv_has ls 2 [(0, .ref r0), (1, .int b)] := hl
  have hinX0 : ∀ w ∈ wsX00, w ∈ wsX0_addByte := fun _ h => List.mem_cons_of_mem _ (List.mem_append_right _ h)
  have hf_9 := hts (.fieldLink RX0 9 "DerDesk$Reader" "row" "[I") (by decide +kernel)
  have hf_15 := hts (.fieldLink RX0 15 "DerDesk$Reader" "rowSize" "I") (by decide +kernel)
  have hf_31 := hts (.fieldLink RX0 31 "DerDesk$Reader" "nodes" "I") (by decide +kernel)
  have hP : va_P (dC, dI) vwCl (wR cA r0 r1 r2 r3 r4 r5 r6 row rs tg st ln pa nd ar lv of) s.heap := hP
  refine lv_iload_n hx hb dX0_addByte_0 rfl (lv_at hl 1 rfl) ?_
  refine cl_Si (As := [.int b]) (rest := []) (wr := [(r0, .inr (0, [.ref r1, .int (nI rs), .ref r2, .ref r3, .ref r4, .ref r5, .int (nI nd), .ref r6, .int (nI lv), .int of])), (r1, .inl (cA, 300, .inl (nA row))), (r2, .inl (cA, 64, .inl (nA tg))), (r3, .inl (cA, 64, .inl (nA st))), (r4, .inl (cA, 64, .inl (nA ln))), (r5, .inl (cA, 64, .inl (pa))), (r6, .inl (cA, 16, .inl (nA ar)))]) ⟨hx, hb, hml, hown, hts⟩ (k_X1_isByte l dC dI cA b _ ) (va_cwS 1 hts gX0_addByte_X1_isByte rfl rfl rfl (by decide +kernel) ⟨Nat.le_of_ble_eq_true rfl, Nat.le_of_ble_eq_true rfl⟩) hK hP hD hS hA [] [0, 1, 2, 3, 4, 5, 6] rfl rfl (by decide) (by decide) (by decide) rfl hl.1 rfl (Nat.le_of_ble_eq_true rfl) dX0_addByte_1 ⟨Nat.le_of_ble_eq_true rfl, Nat.le_of_ble_eq_true rfl⟩ (fun r_1 u_1 H locs hw_1 hP hD hS => ?_)
  have hP : va_P (dC, dI) vwCl (wR cA r0 r1 r2 r3 r4 r5 r6 row rs tg st ln pa nd ar lv of) H := hP
  have hD : va_D A (wR cA r0 r1 r2 r3 r4 r5 r6 row rs tg st ln pa nd ar lv of) := hD
  have hw_1 : r_1 = if isB b then 1 else 0 := hw_1
  have hw_1 := hw_1.symm
  subst hw_1
  refine hl_ifb_ne (tgt := 9) hx hb dX0_addByte_4 (by decide) (fun c_2 => ?_) (fun c_2 => ?_)
  · refine lv_aload_n hx hb dX0_addByte_9 rfl (lv_at hl 0 rfl) ?_
    refine va_get (D := (dC, dI)) (ci := 0) (v := .int (nI rs)) (C := RX0) (T := TX0) (N := 10) hx hb hts hinX0 hown hK hP 0 rfl rfl 1 (by decide) hf_15 (fun _ h9 => h9) rfl dX0_addByte_10 ?_
    refine lv_sipush (v := nI 300) hx hb dX0_addByte_13 (by decide) ?_
    refine hl_icmp_lt (tgt := 22) hx hb dX0_addByte_16 (by decide) (by omega) (by omega) (fun c_3 => ?_) (fun c_3 => ?_)
    · refine lv_aload_n hx hb dX0_addByte_22 rfl (lv_at hl 0 rfl) ?_
      refine va_get (D := (dC, dI)) (ci := 0) (v := .ref r1) (C := RX0) (T := TX0) (N := 10) hx hb hts hinX0 hown hK hP 0 rfl rfl 0 (by decide) hf_9 (fun _ h9 => h9) rfl dX0_addByte_23 ?_
      refine lv_aload_n hx hb dX0_addByte_26 rfl (lv_at hl 0 rfl) ?_
      refine va_get (D := (dC, dI)) (ci := 0) (v := .int (nI rs)) (C := RX0) (T := TX0) (N := 10) hx hb hts hinX0 hown hK hP 0 rfl rfl 1 (by decide) hf_15 (fun _ h9 => h9) rfl dX0_addByte_27 ?_
      refine lv_iload_n hx hb dX0_addByte_30 rfl (lv_at hl 1 rfl) ?_
      have hq := ‹isB b›
      have hbl := cl_le hq.1 (by decide) hq.2
      refine hl_top (cl_of hq.1) ?_
      refine hl_iast hx hb hK hP hD hS 1 0 rfl rfl (by omega) (by decide) dX0_addByte_31 (fun H locs hP hD hS => ?_)
      have hP : va_P (dC, dI) vwCl (wR cA r0 r1 r2 r3 r4 r5 r6 (va_up row rs b.toNatClampNeg) rs tg st ln pa nd ar lv of) H := hP
      have hD : va_D A (wR cA r0 r1 r2 r3 r4 r5 r6 (va_up row rs b.toNatClampNeg) rs tg st ln pa nd ar lv of) := hD
      refine lv_aload_n hx hb dX0_addByte_32 rfl (lv_at hl 0 rfl) ?_
      refine lv_dup hx hb dX0_addByte_33 rfl ?_
      refine va_get (D := (dC, dI)) (ci := 0) (v := .int (nI rs)) (C := RX0) (T := TX0) (N := 10) hx hb hts hinX0 hown hK hP 0 rfl rfl 1 (by decide) hf_15 (fun _ h9 => h9) rfl dX0_addByte_34 ?_
      refine lv_iconst (v := nI 1) hx hb dX0_addByte_37 (by decide) ?_
      refine hl_iadd hx hb dX0_addByte_38 ?_
      refine va_put (D := (dC, dI)) (ci := 0) (v := .int (nI (rs + 1))) (ty := .int) (C := RX0) (T := TX0) (N := 10) hx hb hts hinX0 tyX0 tyX0_ok nmX0 hown hK hP hD hS 0 rfl rfl 1 (by decide) hf_15 (fun _ h9 => h9) rfl (by decide +kernel) rfl rfl (Nat.le_of_ble_eq_true rfl) dX0_addByte_39 (fun H locs hP hD hS => ?_)
      have hP : va_P (dC, dI) vwCl (wR cA r0 r1 r2 r3 r4 r5 r6 (va_up row rs b.toNatClampNeg) (rs + 1) tg st ln pa nd ar lv of) H := hP
      have hD : va_D A (wR cA r0 r1 r2 r3 r4 r5 r6 (va_up row rs b.toNatClampNeg) (rs + 1) tg st ln pa nd ar lv of) := hD
      refine lv_aload_n hx hb dX0_addByte_42 rfl (lv_at hl 0 rfl) ?_
      refine lv_iconst (v := nI 0) hx hb dX0_addByte_43 (by decide) ?_
      refine va_put (D := (dC, dI)) (ci := 0) (v := .int (nI 0)) (ty := .int) (C := RX0) (T := TX0) (N := 10) hx hb hts hinX0 tyX0 tyX0_ok nmX0 hown hK hP hD hS 0 rfl rfl 6 (by decide) hf_31 (fun _ h9 => h9) rfl (by decide +kernel) rfl rfl (Nat.le_of_ble_eq_true rfl) dX0_addByte_44 (fun H locs hP hD hS => ?_)
      have hP : va_P (dC, dI) vwCl (wR cA r0 r1 r2 r3 r4 r5 r6 (va_up row rs b.toNatClampNeg) (rs + 1) tg st ln pa 0 ar lv of) H := hP
      have hD : va_D A (wR cA r0 r1 r2 r3 r4 r5 r6 (va_up row rs b.toNatClampNeg) (rs + 1) tg st ln pa 0 ar lv of) := hD
      refine lv_iconst (v := nI 0) hx hb dX0_addByte_47 (by decide) ?_
      have hP9 : va_P (dC, dI) vwCl (vX0_addByte cA r0 r1 r2 r3 r4 r5 r6 row rs tg st ln pa nd ar lv of b (va_up row rs b.toNatClampNeg, rs + 1, 0)) _ := hP
      have hD9 : va_D A (vX0_addByte cA r0 r1 r2 r3 r4 r5 r6 row rs tg st ln pa nd ar lv of b (va_up row rs b.toNatClampNeg, rs + 1, 0)) := hD
      have hq9 : pX0_addByte r0 r1 r2 r3 r4 r5 r6 row rs tg st ln pa nd ar lv of b (nI 0) (va_up row rs b.toNatClampNeg, rs + 1, 0) := Or.inr (Or.inr ⟨by assumption, by omega, rfl, rfl, rfl, rfl⟩)
      exact W.iret (v := nI 0) hx hb hr (fun t ht hW => ⟨⟨nI 0, (va_up row rs b.toNatClampNeg, rs + 1, 0), rfl, hq9, by rw [ht]; exact hP9, va_K.moved hW.alike hK, hD9⟩, hS.F ht⟩) hS.2.2 dX0_addByte_48
    · refine lv_bipush (v := (-3)) hx hb dX0_addByte_19 (by decide) ?_
      have hP9 : va_P (dC, dI) vwCl (vX0_addByte cA r0 r1 r2 r3 r4 r5 r6 row rs tg st ln pa nd ar lv of b (row, rs, nd)) _ := hP
      have hD9 : va_D A (vX0_addByte cA r0 r1 r2 r3 r4 r5 r6 row rs tg st ln pa nd ar lv of b (row, rs, nd)) := hD
      have hq9 : pX0_addByte r0 r1 r2 r3 r4 r5 r6 row rs tg st ln pa nd ar lv of b ((-3)) (row, rs, nd) := Or.inr (Or.inl ⟨by assumption, by omega, rfl, rfl, rfl, rfl⟩)
      exact W.iret (v := (-3)) hx hb hr (fun t ht hW => ⟨⟨(-3), (row, rs, nd), rfl, hq9, by rw [ht]; exact hP9, va_K.moved hW.alike hK, hD9⟩, hS.F ht⟩) hS.2.2 dX0_addByte_21
  · refine lv_iconst (v := (-1)) hx hb dX0_addByte_7 (by decide) ?_
    have hP9 : va_P (dC, dI) vwCl (vX0_addByte cA r0 r1 r2 r3 r4 r5 r6 row rs tg st ln pa nd ar lv of b (row, rs, nd)) _ := hP
    have hD9 : va_D A (vX0_addByte cA r0 r1 r2 r3 r4 r5 r6 row rs tg st ln pa nd ar lv of b (row, rs, nd)) := hD
    have hq9 : pX0_addByte r0 r1 r2 r3 r4 r5 r6 row rs tg st ln pa nd ar lv of b ((-1)) (row, rs, nd) := Or.inl ⟨by assumption, rfl, rfl, rfl, rfl⟩
    exact W.iret (v := (-1)) hx hb hr (fun t ht hW => ⟨⟨(-1), (row, rs, nd), rfl, hq9, by rw [ht]; exact hP9, va_K.moved hW.alike hK, hD9⟩, hS.F ht⟩) hS.2.2 dX0_addByte_8
abbrev pX0_clear (r0 : Nat) (r1 : Nat) (r2 : Nat) (r3 : Nat) (r4 : Nat) (r5 : Nat) (r6 : Nat) (row : Nat → Nat) (rs : Nat) (tg : Nat → Nat) (st : Nat → Nat) (ln : Nat → Nat) (pa : Nat → Int32) (nd : Nat) (ar : Nat → Nat) (lv : Nat) (of : Int32) : Nat × Nat → Prop := fun (u : Nat × Nat) => match u with | (rs2, nd2) => rs2 = 0 ∧ nd2 = 0
abbrev vX0_clear (cA : ClassId) (r0 : Nat) (r1 : Nat) (r2 : Nat) (r3 : Nat) (r4 : Nat) (r5 : Nat) (r6 : Nat) (row : Nat → Nat) (rs : Nat) (tg : Nat → Nat) (st : Nat → Nat) (ln : Nat → Nat) (pa : Nat → Int32) (nd : Nat) (ar : Nat → Nat) (lv : Nat) (of : Int32) : Nat × Nat → va_W := fun (u : Nat × Nat) => match u with | (rs2, nd2) => wR cA r0 r1 r2 r3 r4 r5 r6 row rs2 tg st ln pa nd2 ar lv of
abbrev qX0_clear (dC : Nat → ClassId) (dI : Nat → Nat → Nat) (cA : ClassId) (A : Nat → Prop) (r0 : Nat) (r1 : Nat) (r2 : Nat) (r3 : Nat) (r4 : Nat) (r5 : Nat) (r6 : Nat) (row : Nat → Nat) (rs : Nat) (tg : Nat → Nat) (st : Nat → Nat) (ln : Nat → Nat) (pa : Nat → Int32) (nd : Nat) (ar : Nat → Nat) (lv : Nat) (of : Int32) : Array Value → State → Outcome → State → Prop := va_Qv (pX0_clear r0 r1 r2 r3 r4 r5 r6 row rs tg st ln pa nd ar lv of) (fun u => cAft dC dI cA A (vX0_clear cA r0 r1 r2 r3 r4 r5 r6 row rs tg st ln pa nd ar lv of u)) A
set_option maxHeartbeats 4000000 in
set_option maxRecDepth 100000 in
theorem k_X0_clear (l : Launch) (dC : Nat → ClassId) (dI : Nat → Nat → Nat) (cA : ClassId) (r0 : Nat) (r1 : Nat) (r2 : Nat) (r3 : Nat) (r4 : Nat) (r5 : Nat) (r6 : Nat) (row : Nat → Nat) (rs : Nat) (tg : Nat → Nat) (st : Nat → Nat) (ln : Nat → Nat) (pa : Nat → Int32) (nd : Nat) (ar : Nat → Nat) (lv : Nat) (of : Int32) (sz : Nat)  : Met l yX0_clear wsX0_clear ({ frames := 0, cells := 0, slots := 0, locals := 0 } : Room) (va_Pc [.ref r0] (cPre dC dI cA (wR cA r0 r1 r2 r3 r4 r5 r6 row rs tg st ln pa nd ar lv of) sz)) (qX0_clear dC dI cA (va_A (wR cA r0 r1 r2 r3 r4 r5 r6 row rs tg st ln pa nd ar lv of) sz) r0 r1 r2 r3 r4 r5 r6 row rs tg st ln pa nd ar lv of) 0 0 (va_A (wR cA r0 r1 r2 r3 r4 r5 r6 row rs tg st ln pa nd ar lv of) sz) := by
  refine Met.ofW (cc := cX0_clear) (maxL := 1) (ret := none) (by decide) rfl ?_
  intro p e s m args below meth c s₁ B hml hv
  obtain ⟨rfl, hsz, hP, hK, hD0⟩ := hv
  have hx := B.exec
  have hb := B.bytes
  have hr := B.returns
  have hts := atoms_spec (ws := wsX0_clear) B.pre
  have hown : s.vm.findClass RX0 = some m.cls := findClass_of_methodNamed B.named
  have hlocks := B.notSynchronized
  subst hsz
  have hD := hD0.self (sz := s.heap.size)
  generalize hAe : va_A (wR cA r0 r1 r2 r3 r4 r5 r6 row rs tg st ln pa nd ar lv of) s.heap.size = A at hD ⊢
  have hA : ∀ q : Nat, s.heap.size ≤ q → A q := fun q h => by rw [← hAe]; exact Or.inr h
  have hS : va_S A s.heap s.heap [] := va_S.rf
  have hl := lv_entry ([.ref r0]) (n := 1) (Nat.le_of_ble_eq_true rfl)
  rw [lg_entry_eq]
  generalize (lg_sl ([.ref r0]) ++ List.replicate (1 - (lg_sl ([.ref r0])).length) Slot.unset).toArray = ls at hl ⊢
  have hl : lv_has ls 1 [(0, .ref r0)] := hl
  have hinX0 : ∀ w ∈ wsX00, w ∈ wsX0_clear := fun _ h => List.mem_cons_of_mem _ (List.mem_append_right _ h)
  have hf_15 := hts (.fieldLink RX0 15 "DerDesk$Reader" "rowSize" "I") (by decide +kernel)
  have hf_31 := hts (.fieldLink RX0 31 "DerDesk$Reader" "nodes" "I") (by decide +kernel)
  have hP : va_P (dC, dI) vwCl (wR cA r0 r1 r2 r3 r4 r5 r6 row rs tg st ln pa nd ar lv of) s.heap := hP
  refine lv_aload_n hx hb dX0_clear_0 rfl (lv_at hl 0 rfl) ?_
  refine lv_iconst (v := nI 0) hx hb dX0_clear_1 (by decide) ?_
  refine va_put (D := (dC, dI)) (ci := 0) (v := .int (nI 0)) (ty := .int) (C := RX0) (T := TX0) (N := 10) hx hb hts hinX0 tyX0 tyX0_ok nmX0 hown hK hP hD hS 0 rfl rfl 1 (by decide) hf_15 (fun _ h9 => h9) rfl (by decide +kernel) rfl rfl (Nat.le_of_ble_eq_true rfl) dX0_clear_2 (fun H locs hP hD hS => ?_)
  have hP : va_P (dC, dI) vwCl (wR cA r0 r1 r2 r3 r4 r5 r6 row 0 tg st ln pa nd ar lv of) H := hP
  have hD : va_D A (wR cA r0 r1 r2 r3 r4 r5 r6 row 0 tg st ln pa nd ar lv of) := hD
  refine lv_aload_n hx hb dX0_clear_5 rfl (lv_at hl 0 rfl) ?_
  refine lv_iconst (v := nI 0) hx hb dX0_clear_6 (by decide) ?_
  refine va_put (D := (dC, dI)) (ci := 0) (v := .int (nI 0)) (ty := .int) (C := RX0) (T := TX0) (N := 10) hx hb hts hinX0 tyX0 tyX0_ok nmX0 hown hK hP hD hS 0 rfl rfl 6 (by decide) hf_31 (fun _ h9 => h9) rfl (by decide +kernel) rfl rfl (Nat.le_of_ble_eq_true rfl) dX0_clear_7 (fun H locs hP hD hS => ?_)
  have hP : va_P (dC, dI) vwCl (wR cA r0 r1 r2 r3 r4 r5 r6 row 0 tg st ln pa 0 ar lv of) H := hP
  have hD : va_D A (wR cA r0 r1 r2 r3 r4 r5 r6 row 0 tg st ln pa 0 ar lv of) := hD
  have hP9 : va_P (dC, dI) vwCl (vX0_clear cA r0 r1 r2 r3 r4 r5 r6 row rs tg st ln pa nd ar lv of (0, 0)) _ := hP
  have hD9 : va_D A (vX0_clear cA r0 r1 r2 r3 r4 r5 r6 row rs tg st ln pa nd ar lv of (0, 0)) := hD
  have hq9 : pX0_clear r0 r1 r2 r3 r4 r5 r6 row rs tg st ln pa nd ar lv of (0, 0) := ⟨rfl, rfl⟩
  exact W.vret hx hb hr (fun t ht hW => ⟨⟨(0, 0), rfl, hq9, by rw [ht]; exact hP9, va_K.moved hW.alike hK, hD9⟩, hS.F ht⟩) hS.2.2 dX0_clear_10
abbrev pX0_ofNode_tg (r0 : Nat) (r1 : Nat) (r2 : Nat) (r3 : Nat) (r4 : Nat) (r5 : Nat) (r6 : Nat) (row : Nat → Nat) (rs : Nat) (tg : Nat → Nat) (st : Nat → Nat) (ln : Nat → Nat) (pa : Nat → Int32) (nd : Nat) (ar : Nat → Nat) (lv : Nat) (of : Int32) (node : Int32) : Int32 → Unit → Prop := fun (r : Int32) (u : Unit) => r = if isNd nd node then nI (tg node.toNatClampNeg) else -1
abbrev vX0_ofNode_tg (cA : ClassId) (r0 : Nat) (r1 : Nat) (r2 : Nat) (r3 : Nat) (r4 : Nat) (r5 : Nat) (r6 : Nat) (row : Nat → Nat) (rs : Nat) (tg : Nat → Nat) (st : Nat → Nat) (ln : Nat → Nat) (pa : Nat → Int32) (nd : Nat) (ar : Nat → Nat) (lv : Nat) (of : Int32) (node : Int32) : Unit → va_W := fun (u : Unit) => wR cA r0 r1 r2 r3 r4 r5 r6 row rs tg st ln pa nd ar lv of
abbrev qX0_ofNode_tg (dC : Nat → ClassId) (dI : Nat → Nat → Nat) (cA : ClassId) (A : Nat → Prop) (r0 : Nat) (r1 : Nat) (r2 : Nat) (r3 : Nat) (r4 : Nat) (r5 : Nat) (r6 : Nat) (row : Nat → Nat) (rs : Nat) (tg : Nat → Nat) (st : Nat → Nat) (ln : Nat → Nat) (pa : Nat → Int32) (nd : Nat) (ar : Nat → Nat) (lv : Nat) (of : Int32) (node : Int32) : Array Value → State → Outcome → State → Prop := va_Qi (pX0_ofNode_tg r0 r1 r2 r3 r4 r5 r6 row rs tg st ln pa nd ar lv of node) (fun u => cAft dC dI cA A (vX0_ofNode_tg cA r0 r1 r2 r3 r4 r5 r6 row rs tg st ln pa nd ar lv of node u)) A
set_option maxHeartbeats 4000000 in
set_option maxRecDepth 100000 in
theorem k_X0_ofNode_tg (l : Launch) (dC : Nat → ClassId) (dI : Nat → Nat → Nat) (cA : ClassId) (r0 : Nat) (r1 : Nat) (r2 : Nat) (r3 : Nat) (r4 : Nat) (r5 : Nat) (r6 : Nat) (row : Nat → Nat) (rs : Nat) (tg : Nat → Nat) (st : Nat → Nat) (ln : Nat → Nat) (pa : Nat → Int32) (nd : Nat) (ar : Nat → Nat) (lv : Nat) (of : Int32) (node : Int32) (sz : Nat) (hnd : nd ≤ 64) : Met l yX0_ofNode wsX0_ofNode ({ frames := 1, cells := 0, slots := 0, locals := 21 } : Room) (va_Pc [.ref r0, .ref r2, .int node] (cPre dC dI cA (wR cA r0 r1 r2 r3 r4 r5 r6 row rs tg st ln pa nd ar lv of) sz)) (qX0_ofNode_tg dC dI cA (va_A (wR cA r0 r1 r2 r3 r4 r5 r6 row rs tg st ln pa nd ar lv of) sz) r0 r1 r2 r3 r4 r5 r6 row rs tg st ln pa nd ar lv of node) 0 0 (va_A (wR cA r0 r1 r2 r3 r4 r5 r6 row rs tg st ln pa nd ar lv of) sz) := by
  refine Met.ofW (cc := cX0_ofNode) (maxL := 3) (ret := (some .int)) (by decide) rfl ?_
  intro p e s m args below meth c s₁ B hml hv
  obtain ⟨rfl, hsz, hP, hK, hD0⟩ := hv
  have hx := B.exec
  have hb := B.bytes
  have hr := B.returns
  have hts := atoms_spec (ws := wsX0_ofNode) B.pre
  have hown : s.vm.findClass RX0 = some m.cls := findClass_of_methodNamed B.named
  have hlocks := B.notSynchronized
  subst hsz
  have hD := hD0.self (sz := s.heap.size)
  generalize hAe : va_A (wR cA r0 r1 r2 r3 r4 r5 r6 row rs tg st ln pa nd ar lv of) s.heap.size = A at hD ⊢
  have hA : ∀ q : Nat, s.heap.size ≤ q → A q := fun q h => by rw [← hAe]; exact Or.inr h
  have hS : va_S A s.heap s.heap [] := va_S.rf
  have hl := lv_entry ([.ref r0, .ref r2, .int node]) (n := 3) (Nat.le_of_ble_eq_true rfl)
  rw [lg_entry_eq]
  generalize (lg_sl ([.ref r0, .ref r2, .int node]) ++ List.replicate (3 - (lg_sl ([.ref r0, .ref r2, .int node])).length) Slot.unset).toArray = ls at hl ⊢
  have hl : lv_has ls 3 [(0, .ref r0), (1, .ref r2), (2, .int node)] := hl
  have hinX0 : ∀ w ∈ wsX00, w ∈ wsX0_ofNode := fun _ h => List.mem_cons_of_mem _ (List.mem_append_right _ h)
  have hP : va_P (dC, dI) vwCl (wR cA r0 r1 r2 r3 r4 r5 r6 row rs tg st ln pa nd ar lv of) s.heap := hP
  refine lv_aload_n hx hb dX0_ofNode_0 rfl (lv_at hl 0 rfl) ?_
  refine lv_iload_n hx hb dX0_ofNode_1 rfl (lv_at hl 2 rfl) ?_
  refine cl_Vi (As := [.int node]) (rest := []) (wr := []) ⟨hx, hb, hml, hown, hts⟩ (k_X0_isNode l dC dI cA r0 r1 r2 r3 r4 r5 r6 row rs tg st ln pa nd ar lv of node _ ) (cwV 1 hts gX0_ofNode_X0_isNode rfl rfl rfl (by decide +kernel) ⟨Nat.le_of_ble_eq_true rfl, Nat.le_of_ble_eq_true rfl⟩) hK hP hD hS hA [0, 1, 2, 3, 4, 5, 6] [] rfl rfl (by decide) (by decide) (by decide) (ci := 0) (q0 := 0) rfl rfl rfl rfl hl.1 rfl (Nat.le_of_ble_eq_true rfl) dX0_ofNode_2 ⟨Nat.le_of_ble_eq_true rfl, Nat.le_of_ble_eq_true rfl⟩ (fun r_1 u_1 H locs hw_1 hP hD hS => ?_)
  have hP : va_P (dC, dI) vwCl (wR cA r0 r1 r2 r3 r4 r5 r6 row rs tg st ln pa nd ar lv of) H := hP
  have hD : va_D A (wR cA r0 r1 r2 r3 r4 r5 r6 row rs tg st ln pa nd ar lv of) := hD
  have hw_1 : r_1 = if isNd nd node then 1 else 0 := hw_1
  have hw_1 := hw_1.symm
  subst hw_1
  refine hl_ifb_eq (tgt := 14) hx hb dX0_ofNode_5 (by decide) (fun c_2 => ?_) (fun c_2 => ?_)
  · refine lv_iconst (v := (-1)) hx hb dX0_ofNode_14 (by decide) ?_
    have hP9 : va_P (dC, dI) vwCl (vX0_ofNode_tg cA r0 r1 r2 r3 r4 r5 r6 row rs tg st ln pa nd ar lv of node ()) _ := hP
    have hD9 : va_D A (vX0_ofNode_tg cA r0 r1 r2 r3 r4 r5 r6 row rs tg st ln pa nd ar lv of node ()) := hD
    have hq9 : pX0_ofNode_tg r0 r1 r2 r3 r4 r5 r6 row rs tg st ln pa nd ar lv of node ((-1)) () := (if_neg (by assumption)).symm
    exact W.iret (v := (-1)) hx hb hr (fun t ht hW => ⟨⟨(-1), (), rfl, hq9, by rw [ht]; exact hP9, va_K.moved hW.alike hK, hD9⟩, hS.F ht⟩) hS.2.2 dX0_ofNode_15
  · refine lv_aload_n hx hb dX0_ofNode_8 rfl (lv_at hl 1 rfl) ?_
    refine lv_iload_n hx hb dX0_ofNode_9 rfl (lv_at hl 2 rfl) ?_
    have hq := ‹isNd nd node›
    have hnl := cl_lt hq.1 (by omega) hq.2
    refine hl_top (cl_of hq.1) ?_
    refine hl_iald hx hb hK hP 2 0 rfl rfl (by omega) (by decide) dX0_ofNode_10 ?_
    refine lv_goto (tgt := 15) hx hb dX0_ofNode_11 (by decide) ?_
    have hP9 : va_P (dC, dI) vwCl (vX0_ofNode_tg cA r0 r1 r2 r3 r4 r5 r6 row rs tg st ln pa nd ar lv of node ()) _ := hP
    have hD9 : va_D A (vX0_ofNode_tg cA r0 r1 r2 r3 r4 r5 r6 row rs tg st ln pa nd ar lv of node ()) := hD
    have hq9 : pX0_ofNode_tg r0 r1 r2 r3 r4 r5 r6 row rs tg st ln pa nd ar lv of node (nI (tg node.toNatClampNeg)) () := (if_pos (by assumption)).symm
    exact W.iret (v := nI (tg node.toNatClampNeg)) hx hb hr (fun t ht hW => ⟨⟨nI (tg node.toNatClampNeg), (), rfl, hq9, by rw [ht]; exact hP9, va_K.moved hW.alike hK, hD9⟩, hS.F ht⟩) hS.2.2 dX0_ofNode_15
abbrev pX0_ofNode_st (r0 : Nat) (r1 : Nat) (r2 : Nat) (r3 : Nat) (r4 : Nat) (r5 : Nat) (r6 : Nat) (row : Nat → Nat) (rs : Nat) (tg : Nat → Nat) (st : Nat → Nat) (ln : Nat → Nat) (pa : Nat → Int32) (nd : Nat) (ar : Nat → Nat) (lv : Nat) (of : Int32) (node : Int32) : Int32 → Unit → Prop := fun (r : Int32) (u : Unit) => r = if isNd nd node then nI (st node.toNatClampNeg) else -1
abbrev vX0_ofNode_st (cA : ClassId) (r0 : Nat) (r1 : Nat) (r2 : Nat) (r3 : Nat) (r4 : Nat) (r5 : Nat) (r6 : Nat) (row : Nat → Nat) (rs : Nat) (tg : Nat → Nat) (st : Nat → Nat) (ln : Nat → Nat) (pa : Nat → Int32) (nd : Nat) (ar : Nat → Nat) (lv : Nat) (of : Int32) (node : Int32) : Unit → va_W := fun (u : Unit) => wR cA r0 r1 r2 r3 r4 r5 r6 row rs tg st ln pa nd ar lv of
abbrev qX0_ofNode_st (dC : Nat → ClassId) (dI : Nat → Nat → Nat) (cA : ClassId) (A : Nat → Prop) (r0 : Nat) (r1 : Nat) (r2 : Nat) (r3 : Nat) (r4 : Nat) (r5 : Nat) (r6 : Nat) (row : Nat → Nat) (rs : Nat) (tg : Nat → Nat) (st : Nat → Nat) (ln : Nat → Nat) (pa : Nat → Int32) (nd : Nat) (ar : Nat → Nat) (lv : Nat) (of : Int32) (node : Int32) : Array Value → State → Outcome → State → Prop := va_Qi (pX0_ofNode_st r0 r1 r2 r3 r4 r5 r6 row rs tg st ln pa nd ar lv of node) (fun u => cAft dC dI cA A (vX0_ofNode_st cA r0 r1 r2 r3 r4 r5 r6 row rs tg st ln pa nd ar lv of node u)) A
set_option maxHeartbeats 4000000 in
set_option maxRecDepth 100000 in
theorem k_X0_ofNode_st (l : Launch) (dC : Nat → ClassId) (dI : Nat → Nat → Nat) (cA : ClassId) (r0 : Nat) (r1 : Nat) (r2 : Nat) (r3 : Nat) (r4 : Nat) (r5 : Nat) (r6 : Nat) (row : Nat → Nat) (rs : Nat) (tg : Nat → Nat) (st : Nat → Nat) (ln : Nat → Nat) (pa : Nat → Int32) (nd : Nat) (ar : Nat → Nat) (lv : Nat) (of : Int32) (node : Int32) (sz : Nat) (hnd : nd ≤ 64) : Met l yX0_ofNode wsX0_ofNode ({ frames := 1, cells := 0, slots := 0, locals := 21 } : Room) (va_Pc [.ref r0, .ref r3, .int node] (cPre dC dI cA (wR cA r0 r1 r2 r3 r4 r5 r6 row rs tg st ln pa nd ar lv of) sz)) (qX0_ofNode_st dC dI cA (va_A (wR cA r0 r1 r2 r3 r4 r5 r6 row rs tg st ln pa nd ar lv of) sz) r0 r1 r2 r3 r4 r5 r6 row rs tg st ln pa nd ar lv of node) 0 0 (va_A (wR cA r0 r1 r2 r3 r4 r5 r6 row rs tg st ln pa nd ar lv of) sz) := by
  refine Met.ofW (cc := cX0_ofNode) (maxL := 3) (ret := (some .int)) (by decide) rfl ?_
  intro p e s m args below meth c s₁ B hml hv
  obtain ⟨rfl, hsz, hP, hK, hD0⟩ := hv
  have hx := B.exec
  have hb := B.bytes
  have hr := B.returns
  have hts := atoms_spec (ws := wsX0_ofNode) B.pre
  have hown : s.vm.findClass RX0 = some m.cls := findClass_of_methodNamed B.named
  have hlocks := B.notSynchronized
  subst hsz
  have hD := hD0.self (sz := s.heap.size)
  generalize hAe : va_A (wR cA r0 r1 r2 r3 r4 r5 r6 row rs tg st ln pa nd ar lv of) s.heap.size = A at hD ⊢
  have hA : ∀ q : Nat, s.heap.size ≤ q → A q := fun q h => by rw [← hAe]; exact Or.inr h
  have hS : va_S A s.heap s.heap [] := va_S.rf
  have hl := lv_entry ([.ref r0, .ref r3, .int node]) (n := 3) (Nat.le_of_ble_eq_true rfl)
  rw [lg_entry_eq]
  generalize (lg_sl ([.ref r0, .ref r3, .int node]) ++ List.replicate (3 - (lg_sl ([.ref r0, .ref r3, .int node])).length) Slot.unset).toArray = ls at hl ⊢
  have hl : lv_has ls 3 [(0, .ref r0), (1, .ref r3), (2, .int node)] := hl
  have hinX0 : ∀ w ∈ wsX00, w ∈ wsX0_ofNode := fun _ h => List.mem_cons_of_mem _ (List.mem_append_right _ h)
  have hP : va_P (dC, dI) vwCl (wR cA r0 r1 r2 r3 r4 r5 r6 row rs tg st ln pa nd ar lv of) s.heap := hP
  refine lv_aload_n hx hb dX0_ofNode_0 rfl (lv_at hl 0 rfl) ?_
  refine lv_iload_n hx hb dX0_ofNode_1 rfl (lv_at hl 2 rfl) ?_
  refine cl_Vi (As := [.int node]) (rest := []) (wr := []) ⟨hx, hb, hml, hown, hts⟩ (k_X0_isNode l dC dI cA r0 r1 r2 r3 r4 r5 r6 row rs tg st ln pa nd ar lv of node _ ) (cwV 1 hts gX0_ofNode_X0_isNode rfl rfl rfl (by decide +kernel) ⟨Nat.le_of_ble_eq_true rfl, Nat.le_of_ble_eq_true rfl⟩) hK hP hD hS hA [0, 1, 2, 3, 4, 5, 6] [] rfl rfl (by decide) (by decide) (by decide) (ci := 0) (q0 := 0) rfl rfl rfl rfl hl.1 rfl (Nat.le_of_ble_eq_true rfl) dX0_ofNode_2 ⟨Nat.le_of_ble_eq_true rfl, Nat.le_of_ble_eq_true rfl⟩ (fun r_1 u_1 H locs hw_1 hP hD hS => ?_)
  have hP : va_P (dC, dI) vwCl (wR cA r0 r1 r2 r3 r4 r5 r6 row rs tg st ln pa nd ar lv of) H := hP
  have hD : va_D A (wR cA r0 r1 r2 r3 r4 r5 r6 row rs tg st ln pa nd ar lv of) := hD
  have hw_1 : r_1 = if isNd nd node then 1 else 0 := hw_1
  have hw_1 := hw_1.symm
  subst hw_1
  refine hl_ifb_eq (tgt := 14) hx hb dX0_ofNode_5 (by decide) (fun c_2 => ?_) (fun c_2 => ?_)
  · refine lv_iconst (v := (-1)) hx hb dX0_ofNode_14 (by decide) ?_
    have hP9 : va_P (dC, dI) vwCl (vX0_ofNode_st cA r0 r1 r2 r3 r4 r5 r6 row rs tg st ln pa nd ar lv of node ()) _ := hP
    have hD9 : va_D A (vX0_ofNode_st cA r0 r1 r2 r3 r4 r5 r6 row rs tg st ln pa nd ar lv of node ()) := hD
    have hq9 : pX0_ofNode_st r0 r1 r2 r3 r4 r5 r6 row rs tg st ln pa nd ar lv of node ((-1)) () := (if_neg (by assumption)).symm
    exact W.iret (v := (-1)) hx hb hr (fun t ht hW => ⟨⟨(-1), (), rfl, hq9, by rw [ht]; exact hP9, va_K.moved hW.alike hK, hD9⟩, hS.F ht⟩) hS.2.2 dX0_ofNode_15
  · refine lv_aload_n hx hb dX0_ofNode_8 rfl (lv_at hl 1 rfl) ?_
    refine lv_iload_n hx hb dX0_ofNode_9 rfl (lv_at hl 2 rfl) ?_
    have hq := ‹isNd nd node›
    have hnl := cl_lt hq.1 (by omega) hq.2
    refine hl_top (cl_of hq.1) ?_
    refine hl_iald hx hb hK hP 3 0 rfl rfl (by omega) (by decide) dX0_ofNode_10 ?_
    refine lv_goto (tgt := 15) hx hb dX0_ofNode_11 (by decide) ?_
    have hP9 : va_P (dC, dI) vwCl (vX0_ofNode_st cA r0 r1 r2 r3 r4 r5 r6 row rs tg st ln pa nd ar lv of node ()) _ := hP
    have hD9 : va_D A (vX0_ofNode_st cA r0 r1 r2 r3 r4 r5 r6 row rs tg st ln pa nd ar lv of node ()) := hD
    have hq9 : pX0_ofNode_st r0 r1 r2 r3 r4 r5 r6 row rs tg st ln pa nd ar lv of node (nI (st node.toNatClampNeg)) () := (if_pos (by assumption)).symm
    exact W.iret (v := nI (st node.toNatClampNeg)) hx hb hr (fun t ht hW => ⟨⟨nI (st node.toNatClampNeg), (), rfl, hq9, by rw [ht]; exact hP9, va_K.moved hW.alike hK, hD9⟩, hS.F ht⟩) hS.2.2 dX0_ofNode_15
abbrev pX0_ofNode_ln (r0 : Nat) (r1 : Nat) (r2 : Nat) (r3 : Nat) (r4 : Nat) (r5 : Nat) (r6 : Nat) (row : Nat → Nat) (rs : Nat) (tg : Nat → Nat) (st : Nat → Nat) (ln : Nat → Nat) (pa : Nat → Int32) (nd : Nat) (ar : Nat → Nat) (lv : Nat) (of : Int32) (node : Int32) : Int32 → Unit → Prop := fun (r : Int32) (u : Unit) => r = if isNd nd node then nI (ln node.toNatClampNeg) else -1
abbrev vX0_ofNode_ln (cA : ClassId) (r0 : Nat) (r1 : Nat) (r2 : Nat) (r3 : Nat) (r4 : Nat) (r5 : Nat) (r6 : Nat) (row : Nat → Nat) (rs : Nat) (tg : Nat → Nat) (st : Nat → Nat) (ln : Nat → Nat) (pa : Nat → Int32) (nd : Nat) (ar : Nat → Nat) (lv : Nat) (of : Int32) (node : Int32) : Unit → va_W := fun (u : Unit) => wR cA r0 r1 r2 r3 r4 r5 r6 row rs tg st ln pa nd ar lv of
abbrev qX0_ofNode_ln (dC : Nat → ClassId) (dI : Nat → Nat → Nat) (cA : ClassId) (A : Nat → Prop) (r0 : Nat) (r1 : Nat) (r2 : Nat) (r3 : Nat) (r4 : Nat) (r5 : Nat) (r6 : Nat) (row : Nat → Nat) (rs : Nat) (tg : Nat → Nat) (st : Nat → Nat) (ln : Nat → Nat) (pa : Nat → Int32) (nd : Nat) (ar : Nat → Nat) (lv : Nat) (of : Int32) (node : Int32) : Array Value → State → Outcome → State → Prop := va_Qi (pX0_ofNode_ln r0 r1 r2 r3 r4 r5 r6 row rs tg st ln pa nd ar lv of node) (fun u => cAft dC dI cA A (vX0_ofNode_ln cA r0 r1 r2 r3 r4 r5 r6 row rs tg st ln pa nd ar lv of node u)) A
set_option maxHeartbeats 4000000 in
set_option maxRecDepth 100000 in
theorem k_X0_ofNode_ln (l : Launch) (dC : Nat → ClassId) (dI : Nat → Nat → Nat) (cA : ClassId) (r0 : Nat) (r1 : Nat) (r2 : Nat) (r3 : Nat) (r4 : Nat) (r5 : Nat) (r6 : Nat) (row : Nat → Nat) (rs : Nat) (tg : Nat → Nat) (st : Nat → Nat) (ln : Nat → Nat) (pa : Nat → Int32) (nd : Nat) (ar : Nat → Nat) (lv : Nat) (of : Int32) (node : Int32) (sz : Nat) (hnd : nd ≤ 64) : Met l yX0_ofNode wsX0_ofNode ({ frames := 1, cells := 0, slots := 0, locals := 21 } : Room) (va_Pc [.ref r0, .ref r4, .int node] (cPre dC dI cA (wR cA r0 r1 r2 r3 r4 r5 r6 row rs tg st ln pa nd ar lv of) sz)) (qX0_ofNode_ln dC dI cA (va_A (wR cA r0 r1 r2 r3 r4 r5 r6 row rs tg st ln pa nd ar lv of) sz) r0 r1 r2 r3 r4 r5 r6 row rs tg st ln pa nd ar lv of node) 0 0 (va_A (wR cA r0 r1 r2 r3 r4 r5 r6 row rs tg st ln pa nd ar lv of) sz) := by
  refine Met.ofW (cc := cX0_ofNode) (maxL := 3) (ret := (some .int)) (by decide) rfl ?_
  intro p e s m args below meth c s₁ B hml hv
  obtain ⟨rfl, hsz, hP, hK, hD0⟩ := hv
  have hx := B.exec
  have hb := B.bytes
  have hr := B.returns
  have hts := atoms_spec (ws := wsX0_ofNode) B.pre
  have hown : s.vm.findClass RX0 = some m.cls := findClass_of_methodNamed B.named
  have hlocks := B.notSynchronized
  subst hsz
  have hD := hD0.self (sz := s.heap.size)
  generalize hAe : va_A (wR cA r0 r1 r2 r3 r4 r5 r6 row rs tg st ln pa nd ar lv of) s.heap.size = A at hD ⊢
  have hA : ∀ q : Nat, s.heap.size ≤ q → A q := fun q h => by rw [← hAe]; exact Or.inr h
  have hS : va_S A s.heap s.heap [] := va_S.rf
  have hl := lv_entry ([.ref r0, .ref r4, .int node]) (n := 3) (Nat.le_of_ble_eq_true rfl)
  rw [lg_entry_eq]
  generalize (lg_sl ([.ref r0, .ref r4, .int node]) ++ List.replicate (3 - (lg_sl ([.ref r0, .ref r4, .int node])).length) Slot.unset).toArray = ls at hl ⊢
  have hl : lv_has ls 3 [(0, .ref r0), (1, .ref r4), (2, .int node)] := hl
  have hinX0 : ∀ w ∈ wsX00, w ∈ wsX0_ofNode := fun _ h => List.mem_cons_of_mem _ (List.mem_append_right _ h)
  have hP : va_P (dC, dI) vwCl (wR cA r0 r1 r2 r3 r4 r5 r6 row rs tg st ln pa nd ar lv of) s.heap := hP
  refine lv_aload_n hx hb dX0_ofNode_0 rfl (lv_at hl 0 rfl) ?_
  refine lv_iload_n hx hb dX0_ofNode_1 rfl (lv_at hl 2 rfl) ?_
  refine cl_Vi (As := [.int node]) (rest := []) (wr := []) ⟨hx, hb, hml, hown, hts⟩ (k_X0_isNode l dC dI cA r0 r1 r2 r3 r4 r5 r6 row rs tg st ln pa nd ar lv of node _ ) (cwV 1 hts gX0_ofNode_X0_isNode rfl rfl rfl (by decide +kernel) ⟨Nat.le_of_ble_eq_true rfl, Nat.le_of_ble_eq_true rfl⟩) hK hP hD hS hA [0, 1, 2, 3, 4, 5, 6] [] rfl rfl (by decide) (by decide) (by decide) (ci := 0) (q0 := 0) rfl rfl rfl rfl hl.1 rfl (Nat.le_of_ble_eq_true rfl) dX0_ofNode_2 ⟨Nat.le_of_ble_eq_true rfl, Nat.le_of_ble_eq_true rfl⟩ (fun r_1 u_1 H locs hw_1 hP hD hS => ?_)
  have hP : va_P (dC, dI) vwCl (wR cA r0 r1 r2 r3 r4 r5 r6 row rs tg st ln pa nd ar lv of) H := hP
  have hD : va_D A (wR cA r0 r1 r2 r3 r4 r5 r6 row rs tg st ln pa nd ar lv of) := hD
  have hw_1 : r_1 = if isNd nd node then 1 else 0 := hw_1
  have hw_1 := hw_1.symm
  subst hw_1
  refine hl_ifb_eq (tgt := 14) hx hb dX0_ofNode_5 (by decide) (fun c_2 => ?_) (fun c_2 => ?_)
  · refine lv_iconst (v := (-1)) hx hb dX0_ofNode_14 (by decide) ?_
    have hP9 : va_P (dC, dI) vwCl (vX0_ofNode_ln cA r0 r1 r2 r3 r4 r5 r6 row rs tg st ln pa nd ar lv of node ()) _ := hP
    have hD9 : va_D A (vX0_ofNode_ln cA r0 r1 r2 r3 r4 r5 r6 row rs tg st ln pa nd ar lv of node ()) := hD
    have hq9 : pX0_ofNode_ln r0 r1 r2 r3 r4 r5 r6 row rs tg st ln pa nd ar lv of node ((-1)) () := (if_neg (by assumption)).symm
    exact W.iret (v := (-1)) hx hb hr (fun t ht hW => ⟨⟨(-1), (), rfl, hq9, by rw [ht]; exact hP9, va_K.moved hW.alike hK, hD9⟩, hS.F ht⟩) hS.2.2 dX0_ofNode_15
  · refine lv_aload_n hx hb dX0_ofNode_8 rfl (lv_at hl 1 rfl) ?_
    refine lv_iload_n hx hb dX0_ofNode_9 rfl (lv_at hl 2 rfl) ?_
    have hq := ‹isNd nd node›
    have hnl := cl_lt hq.1 (by omega) hq.2
    refine hl_top (cl_of hq.1) ?_
    refine hl_iald hx hb hK hP 4 0 rfl rfl (by omega) (by decide) dX0_ofNode_10 ?_
    refine lv_goto (tgt := 15) hx hb dX0_ofNode_11 (by decide) ?_
    have hP9 : va_P (dC, dI) vwCl (vX0_ofNode_ln cA r0 r1 r2 r3 r4 r5 r6 row rs tg st ln pa nd ar lv of node ()) _ := hP
    have hD9 : va_D A (vX0_ofNode_ln cA r0 r1 r2 r3 r4 r5 r6 row rs tg st ln pa nd ar lv of node ()) := hD
    have hq9 : pX0_ofNode_ln r0 r1 r2 r3 r4 r5 r6 row rs tg st ln pa nd ar lv of node (nI (ln node.toNatClampNeg)) () := (if_pos (by assumption)).symm
    exact W.iret (v := nI (ln node.toNatClampNeg)) hx hb hr (fun t ht hW => ⟨⟨nI (ln node.toNatClampNeg), (), rfl, hq9, by rw [ht]; exact hP9, va_K.moved hW.alike hK, hD9⟩, hS.F ht⟩) hS.2.2 dX0_ofNode_15
abbrev pX0_ofNode_pa (r0 : Nat) (r1 : Nat) (r2 : Nat) (r3 : Nat) (r4 : Nat) (r5 : Nat) (r6 : Nat) (row : Nat → Nat) (rs : Nat) (tg : Nat → Nat) (st : Nat → Nat) (ln : Nat → Nat) (pa : Nat → Int32) (nd : Nat) (ar : Nat → Nat) (lv : Nat) (of : Int32) (node : Int32) : Int32 → Unit → Prop := fun (r : Int32) (u : Unit) => r = if isNd nd node then pa node.toNatClampNeg else -1
abbrev vX0_ofNode_pa (cA : ClassId) (r0 : Nat) (r1 : Nat) (r2 : Nat) (r3 : Nat) (r4 : Nat) (r5 : Nat) (r6 : Nat) (row : Nat → Nat) (rs : Nat) (tg : Nat → Nat) (st : Nat → Nat) (ln : Nat → Nat) (pa : Nat → Int32) (nd : Nat) (ar : Nat → Nat) (lv : Nat) (of : Int32) (node : Int32) : Unit → va_W := fun (u : Unit) => wR cA r0 r1 r2 r3 r4 r5 r6 row rs tg st ln pa nd ar lv of
abbrev qX0_ofNode_pa (dC : Nat → ClassId) (dI : Nat → Nat → Nat) (cA : ClassId) (A : Nat → Prop) (r0 : Nat) (r1 : Nat) (r2 : Nat) (r3 : Nat) (r4 : Nat) (r5 : Nat) (r6 : Nat) (row : Nat → Nat) (rs : Nat) (tg : Nat → Nat) (st : Nat → Nat) (ln : Nat → Nat) (pa : Nat → Int32) (nd : Nat) (ar : Nat → Nat) (lv : Nat) (of : Int32) (node : Int32) : Array Value → State → Outcome → State → Prop := va_Qi (pX0_ofNode_pa r0 r1 r2 r3 r4 r5 r6 row rs tg st ln pa nd ar lv of node) (fun u => cAft dC dI cA A (vX0_ofNode_pa cA r0 r1 r2 r3 r4 r5 r6 row rs tg st ln pa nd ar lv of node u)) A
set_option maxHeartbeats 4000000 in
set_option maxRecDepth 100000 in
theorem k_X0_ofNode_pa (l : Launch) (dC : Nat → ClassId) (dI : Nat → Nat → Nat) (cA : ClassId) (r0 : Nat) (r1 : Nat) (r2 : Nat) (r3 : Nat) (r4 : Nat) (r5 : Nat) (r6 : Nat) (row : Nat → Nat) (rs : Nat) (tg : Nat → Nat) (st : Nat → Nat) (ln : Nat → Nat) (pa : Nat → Int32) (nd : Nat) (ar : Nat → Nat) (lv : Nat) (of : Int32) (node : Int32) (sz : Nat) (hnd : nd ≤ 64) : Met l yX0_ofNode wsX0_ofNode ({ frames := 1, cells := 0, slots := 0, locals := 21 } : Room) (va_Pc [.ref r0, .ref r5, .int node] (cPre dC dI cA (wR cA r0 r1 r2 r3 r4 r5 r6 row rs tg st ln pa nd ar lv of) sz)) (qX0_ofNode_pa dC dI cA (va_A (wR cA r0 r1 r2 r3 r4 r5 r6 row rs tg st ln pa nd ar lv of) sz) r0 r1 r2 r3 r4 r5 r6 row rs tg st ln pa nd ar lv of node) 0 0 (va_A (wR cA r0 r1 r2 r3 r4 r5 r6 row rs tg st ln pa nd ar lv of) sz) := by
  refine Met.ofW (cc := cX0_ofNode) (maxL := 3) (ret := (some .int)) (by decide) rfl ?_
  intro p e s m args below meth c s₁ B hml hv
  obtain ⟨rfl, hsz, hP, hK, hD0⟩ := hv
  have hx := B.exec
  have hb := B.bytes
  have hr := B.returns
  have hts := atoms_spec (ws := wsX0_ofNode) B.pre
  have hown : s.vm.findClass RX0 = some m.cls := findClass_of_methodNamed B.named
  have hlocks := B.notSynchronized
  subst hsz
  have hD := hD0.self (sz := s.heap.size)
  generalize hAe : va_A (wR cA r0 r1 r2 r3 r4 r5 r6 row rs tg st ln pa nd ar lv of) s.heap.size = A at hD ⊢
  have hA : ∀ q : Nat, s.heap.size ≤ q → A q := fun q h => by rw [← hAe]; exact Or.inr h
  have hS : va_S A s.heap s.heap [] := va_S.rf
  have hl := lv_entry ([.ref r0, .ref r5, .int node]) (n := 3) (Nat.le_of_ble_eq_true rfl)
  rw [lg_entry_eq]
  generalize (lg_sl ([.ref r0, .ref r5, .int node]) ++ List.replicate (3 - (lg_sl ([.ref r0, .ref r5, .int node])).length) Slot.unset).toArray = ls at hl ⊢
  have hl : lv_has ls 3 [(0, .ref r0), (1, .ref r5), (2, .int node)] := hl
  have hinX0 : ∀ w ∈ wsX00, w ∈ wsX0_ofNode := fun _ h => List.mem_cons_of_mem _ (List.mem_append_right _ h)
  have hP : va_P (dC, dI) vwCl (wR cA r0 r1 r2 r3 r4 r5 r6 row rs tg st ln pa nd ar lv of) s.heap := hP
  refine lv_aload_n hx hb dX0_ofNode_0 rfl (lv_at hl 0 rfl) ?_
  refine lv_iload_n hx hb dX0_ofNode_1 rfl (lv_at hl 2 rfl) ?_
  refine cl_Vi (As := [.int node]) (rest := []) (wr := []) ⟨hx, hb, hml, hown, hts⟩ (k_X0_isNode l dC dI cA r0 r1 r2 r3 r4 r5 r6 row rs tg st ln pa nd ar lv of node _ ) (cwV 1 hts gX0_ofNode_X0_isNode rfl rfl rfl (by decide +kernel) ⟨Nat.le_of_ble_eq_true rfl, Nat.le_of_ble_eq_true rfl⟩) hK hP hD hS hA [0, 1, 2, 3, 4, 5, 6] [] rfl rfl (by decide) (by decide) (by decide) (ci := 0) (q0 := 0) rfl rfl rfl rfl hl.1 rfl (Nat.le_of_ble_eq_true rfl) dX0_ofNode_2 ⟨Nat.le_of_ble_eq_true rfl, Nat.le_of_ble_eq_true rfl⟩ (fun r_1 u_1 H locs hw_1 hP hD hS => ?_)
  have hP : va_P (dC, dI) vwCl (wR cA r0 r1 r2 r3 r4 r5 r6 row rs tg st ln pa nd ar lv of) H := hP
  have hD : va_D A (wR cA r0 r1 r2 r3 r4 r5 r6 row rs tg st ln pa nd ar lv of) := hD
  have hw_1 : r_1 = if isNd nd node then 1 else 0 := hw_1
  have hw_1 := hw_1.symm
  subst hw_1
  refine hl_ifb_eq (tgt := 14) hx hb dX0_ofNode_5 (by decide) (fun c_2 => ?_) (fun c_2 => ?_)
  · refine lv_iconst (v := (-1)) hx hb dX0_ofNode_14 (by decide) ?_
    have hP9 : va_P (dC, dI) vwCl (vX0_ofNode_pa cA r0 r1 r2 r3 r4 r5 r6 row rs tg st ln pa nd ar lv of node ()) _ := hP
    have hD9 : va_D A (vX0_ofNode_pa cA r0 r1 r2 r3 r4 r5 r6 row rs tg st ln pa nd ar lv of node ()) := hD
    have hq9 : pX0_ofNode_pa r0 r1 r2 r3 r4 r5 r6 row rs tg st ln pa nd ar lv of node ((-1)) () := (if_neg (by assumption)).symm
    exact W.iret (v := (-1)) hx hb hr (fun t ht hW => ⟨⟨(-1), (), rfl, hq9, by rw [ht]; exact hP9, va_K.moved hW.alike hK, hD9⟩, hS.F ht⟩) hS.2.2 dX0_ofNode_15
  · refine lv_aload_n hx hb dX0_ofNode_8 rfl (lv_at hl 1 rfl) ?_
    refine lv_iload_n hx hb dX0_ofNode_9 rfl (lv_at hl 2 rfl) ?_
    have hq := ‹isNd nd node›
    have hnl := cl_lt hq.1 (by omega) hq.2
    refine hl_top (cl_of hq.1) ?_
    refine hl_ialdI hx hb hK hP 5 0 rfl rfl (by omega) (by decide) dX0_ofNode_10 ?_
    refine lv_goto (tgt := 15) hx hb dX0_ofNode_11 (by decide) ?_
    have hP9 : va_P (dC, dI) vwCl (vX0_ofNode_pa cA r0 r1 r2 r3 r4 r5 r6 row rs tg st ln pa nd ar lv of node ()) _ := hP
    have hD9 : va_D A (vX0_ofNode_pa cA r0 r1 r2 r3 r4 r5 r6 row rs tg st ln pa nd ar lv of node ()) := hD
    have hq9 : pX0_ofNode_pa r0 r1 r2 r3 r4 r5 r6 row rs tg st ln pa nd ar lv of node ((pa node.toNatClampNeg)) () := (if_pos (by assumption)).symm
    exact W.iret (v := (pa node.toNatClampNeg)) hx hb hr (fun t ht hW => ⟨⟨(pa node.toNatClampNeg), (), rfl, hq9, by rw [ht]; exact hP9, va_K.moved hW.alike hK, hD9⟩, hS.F ht⟩) hS.2.2 dX0_ofNode_15
abbrev pX0_isSmallInteger (r0 : Nat) (r1 : Nat) (r2 : Nat) (r3 : Nat) (r4 : Nat) (r5 : Nat) (r6 : Nat) (row : Nat → Nat) (rs : Nat) (tg : Nat → Nat) (st : Nat → Nat) (ln : Nat → Nat) (pa : Nat → Int32) (nd : Nat) (ar : Nat → Nat) (lv : Nat) (of : Int32) (node : Int32) : Int32 → Unit → Prop := fun (r : Int32) (u : Unit) => r = if isSm nd tg ln node then 1 else 0
abbrev vX0_isSmallInteger (cA : ClassId) (r0 : Nat) (r1 : Nat) (r2 : Nat) (r3 : Nat) (r4 : Nat) (r5 : Nat) (r6 : Nat) (row : Nat → Nat) (rs : Nat) (tg : Nat → Nat) (st : Nat → Nat) (ln : Nat → Nat) (pa : Nat → Int32) (nd : Nat) (ar : Nat → Nat) (lv : Nat) (of : Int32) (node : Int32) : Unit → va_W := fun (u : Unit) => wR cA r0 r1 r2 r3 r4 r5 r6 row rs tg st ln pa nd ar lv of
abbrev qX0_isSmallInteger (dC : Nat → ClassId) (dI : Nat → Nat → Nat) (cA : ClassId) (A : Nat → Prop) (r0 : Nat) (r1 : Nat) (r2 : Nat) (r3 : Nat) (r4 : Nat) (r5 : Nat) (r6 : Nat) (row : Nat → Nat) (rs : Nat) (tg : Nat → Nat) (st : Nat → Nat) (ln : Nat → Nat) (pa : Nat → Int32) (nd : Nat) (ar : Nat → Nat) (lv : Nat) (of : Int32) (node : Int32) : Array Value → State → Outcome → State → Prop := va_Qi (pX0_isSmallInteger r0 r1 r2 r3 r4 r5 r6 row rs tg st ln pa nd ar lv of node) (fun u => cAft dC dI cA A (vX0_isSmallInteger cA r0 r1 r2 r3 r4 r5 r6 row rs tg st ln pa nd ar lv of node u)) A
set_option maxHeartbeats 4000000 in
set_option maxRecDepth 100000 in
theorem k_X0_isSmallInteger (l : Launch) (dC : Nat → ClassId) (dI : Nat → Nat → Nat) (cA : ClassId) (r0 : Nat) (r1 : Nat) (r2 : Nat) (r3 : Nat) (r4 : Nat) (r5 : Nat) (r6 : Nat) (row : Nat → Nat) (rs : Nat) (tg : Nat → Nat) (st : Nat → Nat) (ln : Nat → Nat) (pa : Nat → Int32) (nd : Nat) (ar : Nat → Nat) (lv : Nat) (of : Int32) (node : Int32) (sz : Nat) (hnd : nd ≤ 64) (htg : ∀ j, tg j < 256) (hln : ∀ j, ln j < 65536) : Met l yX0_isSmallInteger wsX0_isSmallInteger ({ frames := 1, cells := 0, slots := 0, locals := 21 } : Room) (va_Pc [.ref r0, .int node] (cPre dC dI cA (wR cA r0 r1 r2 r3 r4 r5 r6 row rs tg st ln pa nd ar lv of) sz)) (qX0_isSmallInteger dC dI cA (va_A (wR cA r0 r1 r2 r3 r4 r5 r6 row rs tg st ln pa nd ar lv of) sz) r0 r1 r2 r3 r4 r5 r6 row rs tg st ln pa nd ar lv of node) 0 0 (va_A (wR cA r0 r1 r2 r3 r4 r5 r6 row rs tg st ln pa nd ar lv of) sz) := by
  refine Met.ofW (cc := cX0_isSmallInteger) (maxL := 2) (ret := (some .boolean)) (by decide) rfl ?_
  intro p e s m args below meth c s₁ B hml hv
  obtain ⟨rfl, hsz, hP, hK, hD0⟩ := hv
  have hx := B.exec
  have hb := B.bytes
  have hr := B.returns
  have hts := atoms_spec (ws := wsX0_isSmallInteger) B.pre
  have hown : s.vm.findClass RX0 = some m.cls := findClass_of_methodNamed B.named
  have hlocks := B.notSynchronized
  subst hsz
  have hD := hD0.self (sz := s.heap.size)
  generalize hAe : va_A (wR cA r0 r1 r2 r3 r4 r5 r6 row rs tg st ln pa nd ar lv of) s.heap.size = A at hD ⊢
  have hA : ∀ q : Nat, s.heap.size ≤ q → A q := fun q h => by rw [← hAe]; exact Or.inr h
  have hS : va_S A s.heap s.heap [] := va_S.rf
  have hl := lv_entry ([.ref r0, .int node]) (n := 2) (Nat.le_of_ble_eq_true rfl)
  rw [lg_entry_eq]
  generalize (lg_sl ([.ref r0, .int node]) ++ List.replicate (2 - (lg_sl ([.ref r0, .int node])).length) Slot.unset).toArray = ls at hl ⊢
  have hl : lv_has ls 2 [(0, .ref r0), (1, .int node)] := hl
  have hinX0 : ∀ w ∈ wsX00, w ∈ wsX0_isSmallInteger := fun _ h => List.mem_cons_of_mem _ (List.mem_append_right _ h)
  have hf_19 := hts (.fieldLink RX0 19 "DerDesk$Reader" "tags" "[I") (by decide +kernel)
  have hf_25 := hts (.fieldLink RX0 25 "DerDesk$Reader" "lengths" "[I") (by decide +kernel)
  have hP : va_P (dC, dI) vwCl (wR cA r0 r1 r2 r3 r4 r5 r6 row rs tg st ln pa nd ar lv of) s.heap := hP
  refine lv_aload_n hx hb dX0_isSmallInteger_0 rfl (lv_at hl 0 rfl) ?_
  refine lv_iload_n hx hb dX0_isSmallInteger_1 rfl (lv_at hl 1 rfl) ?_
  refine cl_Vi (As := [.int node]) (rest := []) (wr := []) ⟨hx, hb, hml, hown, hts⟩ (k_X0_isNode l dC dI cA r0 r1 r2 r3 r4 r5 r6 row rs tg st ln pa nd ar lv of node _ ) (cwV 1 hts gX0_isSmallInteger_X0_isNode rfl rfl rfl (by decide +kernel) ⟨Nat.le_of_ble_eq_true rfl, Nat.le_of_ble_eq_true rfl⟩) hK hP hD hS hA [0, 1, 2, 3, 4, 5, 6] [] rfl rfl (by decide) (by decide) (by decide) (ci := 0) (q0 := 0) rfl rfl rfl rfl hl.1 rfl (Nat.le_of_ble_eq_true rfl) dX0_isSmallInteger_2 ⟨Nat.le_of_ble_eq_true rfl, Nat.le_of_ble_eq_true rfl⟩ (fun r_1 u_1 H locs hw_1 hP hD hS => ?_)
  have hP : va_P (dC, dI) vwCl (wR cA r0 r1 r2 r3 r4 r5 r6 row rs tg st ln pa nd ar lv of) H := hP
  have hD : va_D A (wR cA r0 r1 r2 r3 r4 r5 r6 row rs tg st ln pa nd ar lv of) := hD
  have hw_1 : r_1 = if isNd nd node then 1 else 0 := hw_1
  have hw_1 := hw_1.symm
  subst hw_1
  refine hl_ifb_eq (tgt := 32) hx hb dX0_isSmallInteger_5 (by decide) (fun c_2 => ?_) (fun c_2 => ?_)
  · refine lv_iconst (v := nI 0) hx hb dX0_isSmallInteger_32 (by decide) ?_
    have hP9 : va_P (dC, dI) vwCl (vX0_isSmallInteger cA r0 r1 r2 r3 r4 r5 r6 row rs tg st ln pa nd ar lv of node ()) _ := hP
    have hD9 : va_D A (vX0_isSmallInteger cA r0 r1 r2 r3 r4 r5 r6 row rs tg st ln pa nd ar lv of node ()) := hD
    have hq9 : pX0_isSmallInteger r0 r1 r2 r3 r4 r5 r6 row rs tg st ln pa nd ar lv of node (nI 0) () := (if_neg (by unfold isSm; first | exact ⟨hq.1, hq.2, by assumption, by omega⟩ | (intro h; omega) | grind)).symm
    exact W.zret (v := nI 0) hx hb hr rfl (fun t ht hW => ⟨⟨nI 0, (), rfl, hq9, by rw [ht]; exact hP9, va_K.moved hW.alike hK, hD9⟩, hS.F ht⟩) hS.2.2 dX0_isSmallInteger_33
  · refine lv_aload_n hx hb dX0_isSmallInteger_8 rfl (lv_at hl 0 rfl) ?_
    refine va_get (D := (dC, dI)) (ci := 0) (v := .ref r2) (C := RX0) (T := TX0) (N := 10) hx hb hts hinX0 hown hK hP 0 rfl rfl 2 (by decide) hf_19 (fun _ h9 => h9) rfl dX0_isSmallInteger_9 ?_
    refine lv_iload_n hx hb dX0_isSmallInteger_12 rfl (lv_at hl 1 rfl) ?_
    have hq := ‹isNd nd node›
    have hnl := cl_lt hq.1 (by omega) hq.2
    refine hl_top (cl_of hq.1) ?_
    refine hl_iald hx hb hK hP 2 0 rfl rfl (by omega) (by decide) dX0_isSmallInteger_13 ?_
    have hv_3 := htg node.toNatClampNeg
    refine lv_iconst (v := nI 2) hx hb dX0_isSmallInteger_14 (by decide) ?_
    refine hl_icmp_ne (tgt := 32) hx hb dX0_isSmallInteger_15 (by decide) (by omega) (by omega) (fun c_4 => ?_) (fun c_4 => ?_)
    · refine lv_iconst (v := nI 0) hx hb dX0_isSmallInteger_32 (by decide) ?_
      have hP9 : va_P (dC, dI) vwCl (vX0_isSmallInteger cA r0 r1 r2 r3 r4 r5 r6 row rs tg st ln pa nd ar lv of node ()) _ := hP
      have hD9 : va_D A (vX0_isSmallInteger cA r0 r1 r2 r3 r4 r5 r6 row rs tg st ln pa nd ar lv of node ()) := hD
      have hq9 : pX0_isSmallInteger r0 r1 r2 r3 r4 r5 r6 row rs tg st ln pa nd ar lv of node (nI 0) () := (if_neg (by unfold isSm; first | exact ⟨hq.1, hq.2, by assumption, by omega⟩ | (intro h; omega) | grind)).symm
      exact W.zret (v := nI 0) hx hb hr rfl (fun t ht hW => ⟨⟨nI 0, (), rfl, hq9, by rw [ht]; exact hP9, va_K.moved hW.alike hK, hD9⟩, hS.F ht⟩) hS.2.2 dX0_isSmallInteger_33
    · refine lv_aload_n hx hb dX0_isSmallInteger_18 rfl (lv_at hl 0 rfl) ?_
      refine va_get (D := (dC, dI)) (ci := 0) (v := .ref r4) (C := RX0) (T := TX0) (N := 10) hx hb hts hinX0 hown hK hP 0 rfl rfl 4 (by decide) hf_25 (fun _ h9 => h9) rfl dX0_isSmallInteger_19 ?_
      refine lv_iload_n hx hb dX0_isSmallInteger_22 rfl (lv_at hl 1 rfl) ?_
      refine hl_top (cl_of hq.1) ?_
      refine hl_iald hx hb hK hP 4 0 rfl rfl (by omega) (by decide) dX0_isSmallInteger_23 ?_
      have hv_5 := hln node.toNatClampNeg
      refine lv_iconst (v := nI 4) hx hb dX0_isSmallInteger_24 (by decide) ?_
      refine hl_icmp_gt (tgt := 32) hx hb dX0_isSmallInteger_25 (by decide) (by omega) (by omega) (fun c_6 => ?_) (fun c_6 => ?_)
      · refine lv_iconst (v := nI 0) hx hb dX0_isSmallInteger_32 (by decide) ?_
        have hP9 : va_P (dC, dI) vwCl (vX0_isSmallInteger cA r0 r1 r2 r3 r4 r5 r6 row rs tg st ln pa nd ar lv of node ()) _ := hP
        have hD9 : va_D A (vX0_isSmallInteger cA r0 r1 r2 r3 r4 r5 r6 row rs tg st ln pa nd ar lv of node ()) := hD
        have hq9 : pX0_isSmallInteger r0 r1 r2 r3 r4 r5 r6 row rs tg st ln pa nd ar lv of node (nI 0) () := (if_neg (by unfold isSm; first | exact ⟨hq.1, hq.2, by assumption, by omega⟩ | (intro h; omega) | grind)).symm
        exact W.zret (v := nI 0) hx hb hr rfl (fun t ht hW => ⟨⟨nI 0, (), rfl, hq9, by rw [ht]; exact hP9, va_K.moved hW.alike hK, hD9⟩, hS.F ht⟩) hS.2.2 dX0_isSmallInteger_33
      · refine lv_iconst (v := nI 1) hx hb dX0_isSmallInteger_28 (by decide) ?_
        refine lv_goto (tgt := 33) hx hb dX0_isSmallInteger_29 (by decide) ?_
        have hP9 : va_P (dC, dI) vwCl (vX0_isSmallInteger cA r0 r1 r2 r3 r4 r5 r6 row rs tg st ln pa nd ar lv of node ()) _ := hP
        have hD9 : va_D A (vX0_isSmallInteger cA r0 r1 r2 r3 r4 r5 r6 row rs tg st ln pa nd ar lv of node ()) := hD
        have hq9 : pX0_isSmallInteger r0 r1 r2 r3 r4 r5 r6 row rs tg st ln pa nd ar lv of node (nI 1) () := (if_pos (by unfold isSm; first | exact ⟨hq.1, hq.2, by assumption, by omega⟩ | (intro h; omega) | grind)).symm
        exact W.zret (v := nI 1) hx hb hr rfl (fun t ht hW => ⟨⟨nI 1, (), rfl, hq9, by rw [ht]; exact hP9, va_K.moved hW.alike hK, hD9⟩, hS.F ht⟩) hS.2.2 dX0_isSmallInteger_33
abbrev pX0_numberAt (r0 : Nat) (r1 : Nat) (r2 : Nat) (r3 : Nat) (r4 : Nat) (r5 : Nat) (r6 : Nat) (row : Nat → Nat) (rs : Nat) (tg : Nat → Nat) (st : Nat → Nat) (ln : Nat → Nat) (pa : Nat → Int32) (nd : Nat) (ar : Nat → Nat) (lv : Nat) (of : Int32) (pl : Nat) (cnt : Nat) : Int32 → Unit → Prop := fun (r : Int32) (u : Unit) => r = nI (numN row pl cnt)
abbrev vX0_numberAt (cA : ClassId) (r0 : Nat) (r1 : Nat) (r2 : Nat) (r3 : Nat) (r4 : Nat) (r5 : Nat) (r6 : Nat) (row : Nat → Nat) (rs : Nat) (tg : Nat → Nat) (st : Nat → Nat) (ln : Nat → Nat) (pa : Nat → Int32) (nd : Nat) (ar : Nat → Nat) (lv : Nat) (of : Int32) (pl : Nat) (cnt : Nat) : Unit → va_W := fun (u : Unit) => wR cA r0 r1 r2 r3 r4 r5 r6 row rs tg st ln pa nd ar lv of
abbrev qX0_numberAt (dC : Nat → ClassId) (dI : Nat → Nat → Nat) (cA : ClassId) (A : Nat → Prop) (r0 : Nat) (r1 : Nat) (r2 : Nat) (r3 : Nat) (r4 : Nat) (r5 : Nat) (r6 : Nat) (row : Nat → Nat) (rs : Nat) (tg : Nat → Nat) (st : Nat → Nat) (ln : Nat → Nat) (pa : Nat → Int32) (nd : Nat) (ar : Nat → Nat) (lv : Nat) (of : Int32) (pl : Nat) (cnt : Nat) : Array Value → State → Outcome → State → Prop := va_Qi (pX0_numberAt r0 r1 r2 r3 r4 r5 r6 row rs tg st ln pa nd ar lv of pl cnt) (fun u => cAft dC dI cA A (vX0_numberAt cA r0 r1 r2 r3 r4 r5 r6 row rs tg st ln pa nd ar lv of pl cnt u)) A
set_option maxHeartbeats 4000000 in
set_option maxRecDepth 100000 in
theorem k_X0_numberAt (l : Launch) (dC : Nat → ClassId) (dI : Nat → Nat → Nat) (cA : ClassId) (r0 : Nat) (r1 : Nat) (r2 : Nat) (r3 : Nat) (r4 : Nat) (r5 : Nat) (r6 : Nat) (row : Nat → Nat) (rs : Nat) (tg : Nat → Nat) (st : Nat → Nat) (ln : Nat → Nat) (pa : Nat → Int32) (nd : Nat) (ar : Nat → Nat) (lv : Nat) (of : Int32) (pl : Nat) (cnt : Nat) (sz : Nat) (hrow : ∀ j, row j < 256) (hcnt : cnt ≤ 4) (hpc : pl + cnt ≤ 300) : Met l yX0_numberAt wsX0_numberAt ({ frames := 0, cells := 0, slots := 0, locals := 0 } : Room) (va_Pc [.ref r0, .int (nI pl), .int (nI cnt)] (cPre dC dI cA (wR cA r0 r1 r2 r3 r4 r5 r6 row rs tg st ln pa nd ar lv of) sz)) (qX0_numberAt dC dI cA (va_A (wR cA r0 r1 r2 r3 r4 r5 r6 row rs tg st ln pa nd ar lv of) sz) r0 r1 r2 r3 r4 r5 r6 row rs tg st ln pa nd ar lv of pl cnt) 0 0 (va_A (wR cA r0 r1 r2 r3 r4 r5 r6 row rs tg st ln pa nd ar lv of) sz) := by
  refine Met.ofW (cc := cX0_numberAt) (maxL := 5) (ret := (some .int)) (by decide) rfl ?_
  intro p e s m args below meth c s₁ B hml hv
  obtain ⟨rfl, hsz, hP, hK, hD0⟩ := hv
  have hx := B.exec
  have hb := B.bytes
  have hr := B.returns
  have hts := atoms_spec (ws := wsX0_numberAt) B.pre
  have hown : s.vm.findClass RX0 = some m.cls := findClass_of_methodNamed B.named
  have hlocks := B.notSynchronized
  subst hsz
  have hD := hD0.self (sz := s.heap.size)
  generalize hAe : va_A (wR cA r0 r1 r2 r3 r4 r5 r6 row rs tg st ln pa nd ar lv of) s.heap.size = A at hD ⊢
  have hA : ∀ q : Nat, s.heap.size ≤ q → A q := fun q h => by rw [← hAe]; exact Or.inr h
  have hS : va_S A s.heap s.heap [] := va_S.rf
  have hl := lv_entry ([.ref r0, .int (nI pl), .int (nI cnt)]) (n := 5) (Nat.le_of_ble_eq_true rfl)
  rw [lg_entry_eq]
  generalize (lg_sl ([.ref r0, .int (nI pl), .int (nI cnt)]) ++ List.replicate (5 - (lg_sl ([.ref r0, .int (nI pl), .int (nI cnt)])).length) Slot.unset).toArray = ls at hl ⊢
  have hl : lv_has ls 5 [(0, .ref r0), (1, .int (nI pl)), (2, .int (nI cnt))] := hl
  have hinX0 : ∀ w ∈ wsX00, w ∈ wsX0_numberAt := fun _ h => List.mem_cons_of_mem _ (List.mem_append_right _ h)
  have hf_9 := hts (.fieldLink RX0 9 "DerDesk$Reader" "row" "[I") (by decide +kernel)
  have hP : va_P (dC, dI) vwCl (wR cA r0 r1 r2 r3 r4 r5 r6 row rs tg st ln pa nd ar lv of) s.heap := hP
  refine lv_iconst (v := nI 0) hx hb dX0_numberAt_0 (by decide) ?_
  refine lv_istore_n (lv' := [(3, .int (nI 0)), (0, .ref r0), (1, .int (nI pl)), (2, .int (nI cnt))]) hx hb dX0_numberAt_1 rfl hl (by decide) rfl (fun ls hl => ?_)
  refine lv_iconst (v := nI 0) hx hb dX0_numberAt_2 (by decide) ?_
  refine lv_istore (lv' := [(4, .int (nI 0)), (3, .int (nI 0)), (0, .ref r0), (1, .int (nI pl)), (2, .int (nI cnt))]) hx hb dX0_numberAt_3 hl (by decide) rfl (fun ls hl => ?_)
  have lp_5 : ∀ (nf : Nat) (i : Nat) (nm : Nat), cnt - i < nf → (i ≤ cnt) → (nm = numN row pl i) → ∀ (H : Heap) (locs : List Loc) (ls : Array Slot), va_P (dC, dI) vwCl (wR cA r0 r1 r2 r3 r4 r5 r6 row rs tg st ln pa nd ar lv of) H → va_D A (wR cA r0 r1 r2 r3 r4 r5 r6 row rs tg st ln pa nd ar lv of) → va_S A s.heap H locs → lv_has ls 5 [(4, .int (nI i)), (3, .int (nI nm)), (0, .ref r0), (1, .int (nI pl)), (2, .int (nI cnt))] → W p l e (headSpec wsX0_numberAt ({ frames := 0, cells := 0, slots := 0, locals := 0 } : Room)).room s m ([.ref r0, .int (nI pl), .int (nI cnt)] : List Value).toArray below meth c H locs 0 0 (MQ below (qX0_numberAt dC dI cA A r0 r1 r2 r3 r4 r5 r6 row rs tg st ln pa nd ar lv of pl cnt) ([.ref r0, .int (nI pl), .int (nI cnt)] : List Value).toArray s 0 0 A) (F0 m 5 ls []) := by
    intro nf
    induction nf with
    | zero =>
      intro i nm hm
      exact absurd hm (Nat.not_lt_zero _)
    | succ nf ih_5 =>
      intro i nm hm hi hnm H locs ls hP hD hS hl
      refine lv_iload hx hb dX0_numberAt_5 (lv_at hl 0 rfl) ?_
      refine lv_iload_n hx hb dX0_numberAt_7 rfl (lv_at hl 4 rfl) ?_
      refine hl_icmp_ge (tgt := 32) hx hb dX0_numberAt_8 (by decide) (by omega) (by omega) (fun c_2 => ?_) (fun c_2 => ?_)
      · refine lv_iload_n hx hb dX0_numberAt_32 rfl (lv_at hl 1 rfl) ?_
        have hP9 : va_P (dC, dI) vwCl (vX0_numberAt cA r0 r1 r2 r3 r4 r5 r6 row rs tg st ln pa nd ar lv of pl cnt ()) _ := hP
        have hD9 : va_D A (vX0_numberAt cA r0 r1 r2 r3 r4 r5 r6 row rs tg st ln pa nd ar lv of pl cnt ()) := hD
        have hq9 : pX0_numberAt r0 r1 r2 r3 r4 r5 r6 row rs tg st ln pa nd ar lv of pl cnt (nI nm) () := by have ei : i = cnt := (by omega); rw [hnm, ei]
        exact W.iret (v := nI nm) hx hb hr (fun t ht hW => ⟨⟨nI nm, (), rfl, hq9, by rw [ht]; exact hP9, va_K.moved hW.alike hK, hD9⟩, hS.F ht⟩) hS.2.2 dX0_numberAt_33
      · refine lv_iload_n hx hb dX0_numberAt_11 rfl (lv_at hl 1 rfl) ?_
        refine lv_bipush (v := nI 8) hx hb dX0_numberAt_12 (by decide) ?_
        refine lv_ishl hx hb dX0_numberAt_14 ?_
        refine lv_aload_n hx hb dX0_numberAt_15 rfl (lv_at hl 2 rfl) ?_
        refine va_get (D := (dC, dI)) (ci := 0) (v := .ref r1) (C := RX0) (T := TX0) (N := 10) hx hb hts hinX0 hown hK hP 0 rfl rfl 0 (by decide) hf_9 (fun _ h9 => h9) rfl dX0_numberAt_16 ?_
        refine lv_iload_n hx hb dX0_numberAt_19 rfl (lv_at hl 3 rfl) ?_
        refine lv_iload hx hb dX0_numberAt_20 (lv_at hl 0 rfl) ?_
        refine hl_iadd hx hb dX0_numberAt_22 ?_
        refine hl_iald hx hb hK hP 1 0 rfl rfl (by omega) (by decide) dX0_numberAt_23 ?_
        have hv_3 := hrow (pl + i)
        refine lv_ior hx hb dX0_numberAt_24 ?_
        have h24 := num24 hrow (p := pl) (k := i) (by omega)
        rw [← hnm] at h24
        refine hl_top (num_step (a := nm) (b := row (pl + i)) (by omega) (hrow _)) ?_
        refine lv_istore_n (lv' := [(3, .int (nI (nm * 256 + row (pl + i)))), (4, .int (nI i)), (0, .ref r0), (1, .int (nI pl)), (2, .int (nI cnt))]) hx hb dX0_numberAt_25 rfl hl (by decide) rfl (fun ls hl => ?_)
        refine lv_iinc (v := (nI (i + 1))) (lv' := [(4, .int (nI (i + 1))), (3, .int (nI (nm * 256 + row (pl + i)))), (0, .ref r0), (1, .int (nI pl)), (2, .int (nI cnt))]) hx hb dX0_numberAt_26 hl (k := 1) rfl (nI_inc i 1) (by decide) rfl (fun ls hl => ?_)
        refine lv_goto (tgt := 5) hx hb dX0_numberAt_29 (by decide) ?_
        exact ih_5 (i + 1) (nm * 256 + row (pl + i)) (by omega) (by omega) (by rw [hnm]; rfl) _ _ _ hP hD hS (lv_sub hl [0, 1, 2, 3, 4] rfl)
  exact lp_5 (cnt - 0 + 1) 0 0 (Nat.lt_succ_self _) (by omega) rfl _ _ _ hP hD hS (lv_sub hl [0, 1, 2, 3, 4] rfl)
abbrev pX0_smallInteger (r0 : Nat) (r1 : Nat) (r2 : Nat) (r3 : Nat) (r4 : Nat) (r5 : Nat) (r6 : Nat) (row : Nat → Nat) (rs : Nat) (tg : Nat → Nat) (st : Nat → Nat) (ln : Nat → Nat) (pa : Nat → Int32) (nd : Nat) (ar : Nat → Nat) (lv : Nat) (of : Int32) (node : Int32) : Int32 → Unit → Prop := fun (r : Int32) (u : Unit) => r = if isSm nd tg ln node then siVal row (st node.toNatClampNeg) (ln node.toNatClampNeg) else 0
abbrev vX0_smallInteger (cA : ClassId) (r0 : Nat) (r1 : Nat) (r2 : Nat) (r3 : Nat) (r4 : Nat) (r5 : Nat) (r6 : Nat) (row : Nat → Nat) (rs : Nat) (tg : Nat → Nat) (st : Nat → Nat) (ln : Nat → Nat) (pa : Nat → Int32) (nd : Nat) (ar : Nat → Nat) (lv : Nat) (of : Int32) (node : Int32) : Unit → va_W := fun (u : Unit) => wR cA r0 r1 r2 r3 r4 r5 r6 row rs tg st ln pa nd ar lv of
abbrev qX0_smallInteger (dC : Nat → ClassId) (dI : Nat → Nat → Nat) (cA : ClassId) (A : Nat → Prop) (r0 : Nat) (r1 : Nat) (r2 : Nat) (r3 : Nat) (r4 : Nat) (r5 : Nat) (r6 : Nat) (row : Nat → Nat) (rs : Nat) (tg : Nat → Nat) (st : Nat → Nat) (ln : Nat → Nat) (pa : Nat → Int32) (nd : Nat) (ar : Nat → Nat) (lv : Nat) (of : Int32) (node : Int32) : Array Value → State → Outcome → State → Prop := va_Qi (pX0_smallInteger r0 r1 r2 r3 r4 r5 r6 row rs tg st ln pa nd ar lv of node) (fun u => cAft dC dI cA A (vX0_smallInteger cA r0 r1 r2 r3 r4 r5 r6 row rs tg st ln pa nd ar lv of node u)) A
set_option maxHeartbeats 4000000 in
set_option maxRecDepth 100000 in
theorem k_X0_smallInteger (l : Launch) (dC : Nat → ClassId) (dI : Nat → Nat → Nat) (cA : ClassId) (r0 : Nat) (r1 : Nat) (r2 : Nat) (r3 : Nat) (r4 : Nat) (r5 : Nat) (r6 : Nat) (row : Nat → Nat) (rs : Nat) (tg : Nat → Nat) (st : Nat → Nat) (ln : Nat → Nat) (pa : Nat → Int32) (nd : Nat) (ar : Nat → Nat) (lv : Nat) (of : Int32) (node : Int32) (sz : Nat) (hnd : nd ≤ 64) (hrow : ∀ j, row j < 256) (htg : ∀ j, tg j < 256) (hln : ∀ j, ln j < 65536) (hse : ∀ j, j < nd → st j + ln j ≤ 300) : Met l yX0_smallInteger wsX0_smallInteger ({ frames := 2, cells := 0, slots := 0, locals := 42 } : Room) (va_Pc [.ref r0, .int node] (cPre dC dI cA (wR cA r0 r1 r2 r3 r4 r5 r6 row rs tg st ln pa nd ar lv of) sz)) (qX0_smallInteger dC dI cA (va_A (wR cA r0 r1 r2 r3 r4 r5 r6 row rs tg st ln pa nd ar lv of) sz) r0 r1 r2 r3 r4 r5 r6 row rs tg st ln pa nd ar lv of node) 0 0 (va_A (wR cA r0 r1 r2 r3 r4 r5 r6 row rs tg st ln pa nd ar lv of) sz) := by
  refine Met.ofW (cc := cX0_smallInteger) (maxL := 3) (ret := (some .int)) (by decide) rfl ?_
  intro p e s m args below meth c s₁ B hml hv
  obtain ⟨rfl, hsz, hP, hK, hD0⟩ := hv
  have hx := B.exec
  have hb := B.bytes
  have hr := B.returns
  have hts := atoms_spec (ws := wsX0_smallInteger) B.pre
  have hown : s.vm.findClass RX0 = some m.cls := findClass_of_methodNamed B.named
  have hlocks := B.notSynchronized
  subst hsz
  have hD := hD0.self (sz := s.heap.size)
  generalize hAe : va_A (wR cA r0 r1 r2 r3 r4 r5 r6 row rs tg st ln pa nd ar lv of) s.heap.size = A at hD ⊢
  have hA : ∀ q : Nat, s.heap.size ≤ q → A q := fun q h => by rw [← hAe]; exact Or.inr h
  have hS : va_S A s.heap s.heap [] := va_S.rf
  have hl := lv_entry ([.ref r0, .int node]) (n := 3) (Nat.le_of_ble_eq_true rfl)
  rw [lg_entry_eq]
  generalize (lg_sl ([.ref r0, .int node]) ++ List.replicate (3 - (lg_sl ([.ref r0, .int node])).length) Slot.unset).toArray = ls at hl ⊢
  have hl : lv_has ls 3 [(0, .ref r0), (1, .int node)] := hl
  have hinX0 : ∀ w ∈ wsX00, w ∈ wsX0_smallInteger := fun _ h => List.mem_cons_of_mem _ (List.mem_append_right _ h)
  have hf_22 := hts (.fieldLink RX0 22 "DerDesk$Reader" "starts" "[I") (by decide +kernel)
  have hf_25 := hts (.fieldLink RX0 25 "DerDesk$Reader" "lengths" "[I") (by decide +kernel)
  have hP : va_P (dC, dI) vwCl (wR cA r0 r1 r2 r3 r4 r5 r6 row rs tg st ln pa nd ar lv of) s.heap := hP
  refine lv_aload_n hx hb dX0_smallInteger_0 rfl (lv_at hl 0 rfl) ?_
  refine lv_iload_n hx hb dX0_smallInteger_1 rfl (lv_at hl 1 rfl) ?_
  refine cl_Vi (As := [.int node]) (rest := []) (wr := []) ⟨hx, hb, hml, hown, hts⟩ (k_X0_isSmallInteger l dC dI cA r0 r1 r2 r3 r4 r5 r6 row rs tg st ln pa nd ar lv of node _ (by omega) htg hln) (cwV 1 hts gX0_smallInteger_X0_isSmallInteger rfl rfl rfl (by decide +kernel) ⟨Nat.le_of_ble_eq_true rfl, Nat.le_of_ble_eq_true rfl⟩) hK hP hD hS hA [0, 1, 2, 3, 4, 5, 6] [] rfl rfl (by decide) (by decide) (by decide) (ci := 0) (q0 := 0) rfl rfl rfl rfl hl.1 rfl (Nat.le_of_ble_eq_true rfl) dX0_smallInteger_2 ⟨Nat.le_of_ble_eq_true rfl, Nat.le_of_ble_eq_true rfl⟩ (fun r_1 u_1 H locs hw_1 hP hD hS => ?_)
  have hP : va_P (dC, dI) vwCl (wR cA r0 r1 r2 r3 r4 r5 r6 row rs tg st ln pa nd ar lv of) H := hP
  have hD : va_D A (wR cA r0 r1 r2 r3 r4 r5 r6 row rs tg st ln pa nd ar lv of) := hD
  have hw_1 : r_1 = if isSm nd tg ln node then 1 else 0 := hw_1
  have hw_1 := hw_1.symm
  subst hw_1
  refine hl_ifb_ne (tgt := 10) hx hb dX0_smallInteger_5 (by decide) (fun c_2 => ?_) (fun c_2 => ?_)
  · refine lv_bipush (v := nI 32) hx hb dX0_smallInteger_10 (by decide) ?_
    refine lv_bipush (v := nI 8) hx hb dX0_smallInteger_12 (by decide) ?_
    refine lv_aload_n hx hb dX0_smallInteger_14 rfl (lv_at hl 0 rfl) ?_
    refine va_get (D := (dC, dI)) (ci := 0) (v := .ref r4) (C := RX0) (T := TX0) (N := 10) hx hb hts hinX0 hown hK hP 0 rfl rfl 4 (by decide) hf_25 (fun _ h9 => h9) rfl dX0_smallInteger_15 ?_
    refine lv_iload_n hx hb dX0_smallInteger_18 rfl (lv_at hl 1 rfl) ?_
    have hq := ‹isSm nd tg ln node›
    have hnl := cl_lt hq.1 (by omega) hq.2.1
    have hl4 := hq.2.2.2
    have hse1 := hse _ hnl
    refine hl_top (cl_of hq.1) ?_
    refine hl_iald hx hb hK hP 4 0 rfl rfl (by omega) (by decide) dX0_smallInteger_19 ?_
    have hv_3 := hln node.toNatClampNeg
    refine hl_imul hx hb dX0_smallInteger_20 ?_
    refine hl_isub hx hb (by omega) dX0_smallInteger_21 ?_
    refine lv_istore_n (lv' := [(2, .int (nI (32 - (8 * (ln node.toNatClampNeg))))), (0, .ref r0), (1, .int node)]) hx hb dX0_smallInteger_22 rfl hl (by decide) rfl (fun ls hl => ?_)
    refine lv_aload_n hx hb dX0_smallInteger_23 rfl (lv_at hl 1 rfl) ?_
    refine lv_aload_n hx hb dX0_smallInteger_24 rfl (lv_at hl 1 rfl) ?_
    refine va_get (D := (dC, dI)) (ci := 0) (v := .ref r3) (C := RX0) (T := TX0) (N := 10) hx hb hts hinX0 hown hK hP 0 rfl rfl 3 (by decide) hf_22 (fun _ h9 => h9) rfl dX0_smallInteger_25 ?_
    refine lv_iload_n hx hb dX0_smallInteger_28 rfl (lv_at hl 2 rfl) ?_
    refine hl_top (cl_of hq.1) ?_
    refine hl_iald hx hb hK hP 3 0 rfl rfl (by omega) (by decide) dX0_smallInteger_29 ?_
    refine lv_aload_n hx hb dX0_smallInteger_30 rfl (lv_at hl 1 rfl) ?_
    refine va_get (D := (dC, dI)) (ci := 0) (v := .ref r4) (C := RX0) (T := TX0) (N := 10) hx hb hts hinX0 hown hK hP 0 rfl rfl 4 (by decide) hf_25 (fun _ h9 => h9) rfl dX0_smallInteger_31 ?_
    refine lv_iload_n hx hb dX0_smallInteger_34 rfl (lv_at hl 2 rfl) ?_
    refine hl_top (cl_of hq.1) ?_
    refine hl_iald hx hb hK hP 4 0 rfl rfl (by omega) (by decide) dX0_smallInteger_35 ?_
    have hv_4 := hln node.toNatClampNeg
    refine cl_Vi (As := [.int (nI (st node.toNatClampNeg)), .int (nI (ln node.toNatClampNeg))]) (rest := []) (wr := []) ⟨hx, hb, hml, hown, hts⟩ (k_X0_numberAt l dC dI cA r0 r1 r2 r3 r4 r5 r6 row rs tg st ln pa nd ar lv of (st node.toNatClampNeg) (ln node.toNatClampNeg) _ hrow (by omega) (by omega)) (cwV 2 hts gX0_smallInteger_X0_numberAt rfl rfl rfl (by decide +kernel) ⟨Nat.le_of_ble_eq_true rfl, Nat.le_of_ble_eq_true rfl⟩) hK hP hD hS hA [0, 1, 2, 3, 4, 5, 6] [] rfl rfl (by decide) (by decide) (by decide) (ci := 0) (q0 := 0) rfl rfl rfl rfl hl.1 rfl (Nat.le_of_ble_eq_true rfl) dX0_smallInteger_36 ⟨Nat.le_of_ble_eq_true rfl, Nat.le_of_ble_eq_true rfl⟩ (fun r_5 u_5 H locs hw_5 hP hD hS => ?_)
    have hP : va_P (dC, dI) vwCl (wR cA r0 r1 r2 r3 r4 r5 r6 row rs tg st ln pa nd ar lv of) H := hP
    have hD : va_D A (wR cA r0 r1 r2 r3 r4 r5 r6 row rs tg st ln pa nd ar lv of) := hD
    have hw_5 : r_5 = nI (numN row (st node.toNatClampNeg) (ln node.toNatClampNeg)) := hw_5
    have hw_5 := hw_5.symm
    subst hw_5
    refine lv_iload_n hx hb dX0_smallInteger_39 rfl (lv_at hl 0 rfl) ?_
    refine lv_ishl hx hb dX0_smallInteger_40 ?_
    refine lv_iload_n hx hb dX0_smallInteger_41 rfl (lv_at hl 0 rfl) ?_
    refine lv_ishr hx hb dX0_smallInteger_42 ?_
    have hP9 : va_P (dC, dI) vwCl (vX0_smallInteger cA r0 r1 r2 r3 r4 r5 r6 row rs tg st ln pa nd ar lv of node ()) _ := hP
    have hD9 : va_D A (vX0_smallInteger cA r0 r1 r2 r3 r4 r5 r6 row rs tg st ln pa nd ar lv of node ()) := hD
    have hq9 : pX0_smallInteger r0 r1 r2 r3 r4 r5 r6 row rs tg st ln pa nd ar lv of node (((nI (numN row (st node.toNatClampNeg) (ln node.toNatClampNeg)) <<< (nI (32 - (8 * (ln node.toNatClampNeg))) &&& 31)) >>> (nI (32 - (8 * (ln node.toNatClampNeg))) &&& 31))) () := (if_pos (by assumption)).symm
    exact W.iret (v := ((nI (numN row (st node.toNatClampNeg) (ln node.toNatClampNeg)) <<< (nI (32 - (8 * (ln node.toNatClampNeg))) &&& 31)) >>> (nI (32 - (8 * (ln node.toNatClampNeg))) &&& 31))) hx hb hr (fun t ht hW => ⟨⟨((nI (numN row (st node.toNatClampNeg) (ln node.toNatClampNeg)) <<< (nI (32 - (8 * (ln node.toNatClampNeg))) &&& 31)) >>> (nI (32 - (8 * (ln node.toNatClampNeg))) &&& 31)), (), rfl, hq9, by rw [ht]; exact hP9, va_K.moved hW.alike hK, hD9⟩, hS.F ht⟩) hS.2.2 dX0_smallInteger_43
  · refine lv_iconst (v := nI 0) hx hb dX0_smallInteger_8 (by decide) ?_
    have hP9 : va_P (dC, dI) vwCl (vX0_smallInteger cA r0 r1 r2 r3 r4 r5 r6 row rs tg st ln pa nd ar lv of node ()) _ := hP
    have hD9 : va_D A (vX0_smallInteger cA r0 r1 r2 r3 r4 r5 r6 row rs tg st ln pa nd ar lv of node ()) := hD
    have hq9 : pX0_smallInteger r0 r1 r2 r3 r4 r5 r6 row rs tg st ln pa nd ar lv of node (nI 0) () := (if_neg (by assumption)).symm
    exact W.iret (v := nI 0) hx hb hr (fun t ht hW => ⟨⟨nI 0, (), rfl, hq9, by rw [ht]; exact hP9, va_K.moved hW.alike hK, hD9⟩, hS.F ht⟩) hS.2.2 dX0_smallInteger_9
abbrev pX0_offendByCutLength (r0 : Nat) (r1 : Nat) (r2 : Nat) (r3 : Nat) (r4 : Nat) (r5 : Nat) (r6 : Nat) (row : Nat → Nat) (rs : Nat) (tg : Nat → Nat) (st : Nat → Nat) (ln : Nat → Nat) (pa : Nat → Int32) (nd : Nat) (ar : Nat → Nat) (lv : Nat) (of : Int32) (pl : Nat) : Int32 → Int32 → Prop := fun (r : Int32) (of2 : Int32) => (r, of2) = cutE lv rs pl
abbrev vX0_offendByCutLength (cA : ClassId) (r0 : Nat) (r1 : Nat) (r2 : Nat) (r3 : Nat) (r4 : Nat) (r5 : Nat) (r6 : Nat) (row : Nat → Nat) (rs : Nat) (tg : Nat → Nat) (st : Nat → Nat) (ln : Nat → Nat) (pa : Nat → Int32) (nd : Nat) (ar : Nat → Nat) (lv : Nat) (of : Int32) (pl : Nat) : Int32 → va_W := fun (of2 : Int32) => wR cA r0 r1 r2 r3 r4 r5 r6 row rs tg st ln pa nd ar lv of2
abbrev qX0_offendByCutLength (dC : Nat → ClassId) (dI : Nat → Nat → Nat) (cA : ClassId) (A : Nat → Prop) (r0 : Nat) (r1 : Nat) (r2 : Nat) (r3 : Nat) (r4 : Nat) (r5 : Nat) (r6 : Nat) (row : Nat → Nat) (rs : Nat) (tg : Nat → Nat) (st : Nat → Nat) (ln : Nat → Nat) (pa : Nat → Int32) (nd : Nat) (ar : Nat → Nat) (lv : Nat) (of : Int32) (pl : Nat) : Array Value → State → Outcome → State → Prop := va_Qi (pX0_offendByCutLength r0 r1 r2 r3 r4 r5 r6 row rs tg st ln pa nd ar lv of pl) (fun u => cAft dC dI cA A (vX0_offendByCutLength cA r0 r1 r2 r3 r4 r5 r6 row rs tg st ln pa nd ar lv of pl u)) A
set_option maxHeartbeats 4000000 in
set_option maxRecDepth 100000 in
theorem k_X0_offendByCutLength (l : Launch) (dC : Nat → ClassId) (dI : Nat → Nat → Nat) (cA : ClassId) (r0 : Nat) (r1 : Nat) (r2 : Nat) (r3 : Nat) (r4 : Nat) (r5 : Nat) (r6 : Nat) (row : Nat → Nat) (rs : Nat) (tg : Nat → Nat) (st : Nat → Nat) (ln : Nat → Nat) (pa : Nat → Int32) (nd : Nat) (ar : Nat → Nat) (lv : Nat) (of : Int32) (pl : Nat) (sz : Nat) (hlv : lv ≤ 16) : Met l yX0_offendByCutLength wsX0_offendByCutLength ({ frames := 1, cells := 0, slots := 0, locals := 22 } : Room) (va_Pc [.ref r0, .int (nI pl)] (cPre dC dI cA (wR cA r0 r1 r2 r3 r4 r5 r6 row rs tg st ln pa nd ar lv of) sz)) (qX0_offendByCutLength dC dI cA (va_A (wR cA r0 r1 r2 r3 r4 r5 r6 row rs tg st ln pa nd ar lv of) sz) r0 r1 r2 r3 r4 r5 r6 row rs tg st ln pa nd ar lv of pl) 0 0 (va_A (wR cA r0 r1 r2 r3 r4 r5 r6 row rs tg st ln pa nd ar lv of) sz) := by
  refine Met.ofW (cc := cX0_offendByCutLength) (maxL := 2) (ret := (some .int)) (by decide) rfl ?_
  intro p e s m args below meth c s₁ B hml hv
  obtain ⟨rfl, hsz, hP, hK, hD0⟩ := hv
  have hx := B.exec
  have hb := B.bytes
  have hr := B.returns
  have hts := atoms_spec (ws := wsX0_offendByCutLength) B.pre
  have hown : s.vm.findClass RX0 = some m.cls := findClass_of_methodNamed B.named
  have hlocks := B.notSynchronized
  subst hsz
  have hD := hD0.self (sz := s.heap.size)
  generalize hAe : va_A (wR cA r0 r1 r2 r3 r4 r5 r6 row rs tg st ln pa nd ar lv of) s.heap.size = A at hD ⊢
  have hA : ∀ q : Nat, s.heap.size ≤ q → A q := fun q h => by rw [← hAe]; exact Or.inr h
  have hS : va_S A s.heap s.heap [] := va_S.rf
  have hl := lv_entry ([.ref r0, .int (nI pl)]) (n := 2) (Nat.le_of_ble_eq_true rfl)
  rw [lg_entry_eq]
  generalize (lg_sl ([.ref r0, .int (nI pl)]) ++ List.replicate (2 - (lg_sl ([.ref r0, .int (nI pl)])).length) Slot.unset).toArray = ls at hl ⊢
  have hl : lv_has ls 2 [(0, .ref r0), (1, .int (nI pl))] := hl
  have hinX0 : ∀ w ∈ wsX00, w ∈ wsX0_offendByCutLength := fun _ h => List.mem_cons_of_mem _ (List.mem_append_right _ h)
  have hf_15 := hts (.fieldLink RX0 15 "DerDesk$Reader" "rowSize" "I") (by decide +kernel)
  have hf_37 := hts (.fieldLink RX0 37 "DerDesk$Reader" "level" "I") (by decide +kernel)
  have hP : va_P (dC, dI) vwCl (wR cA r0 r1 r2 r3 r4 r5 r6 row rs tg st ln pa nd ar lv of) s.heap := hP
  refine lv_aload_n hx hb dX0_offendByCutLength_0 rfl (lv_at hl 0 rfl) ?_
  refine va_get (D := (dC, dI)) (ci := 0) (v := .int (nI lv)) (C := RX0) (T := TX0) (N := 10) hx hb hts hinX0 hown hK hP 0 rfl rfl 8 (by decide) hf_37 (fun _ h9 => h9) rfl dX0_offendByCutLength_1 ?_
  refine hl_if_ne (tgt := 19) hx hb dX0_offendByCutLength_4 (by decide) (by omega) (fun c_1 => ?_) (fun c_1 => ?_)
  · refine lv_aload_n hx hb dX0_offendByCutLength_19 rfl (lv_at hl 0 rfl) ?_
    refine lv_bipush (v := (-4)) hx hb dX0_offendByCutLength_20 (by decide) ?_
    refine lv_iload_n hx hb dX0_offendByCutLength_22 rfl (lv_at hl 1 rfl) ?_
    refine cl_Vi (As := [.int (-4), .int (nI pl)]) (rest := []) (wr := []) ⟨hx, hb, hml, hown, hts⟩ (k_X0_offend l dC dI cA r0 r1 r2 r3 r4 r5 r6 row rs tg st ln pa nd ar lv of (-4) (nI pl) _ ) (cwV 2 hts gX0_offendByCutLength_X0_offend rfl rfl rfl (by decide +kernel) ⟨Nat.le_of_ble_eq_true rfl, Nat.le_of_ble_eq_true rfl⟩) hK hP hD hS hA [0, 1, 2, 3, 4, 5, 6] [] rfl rfl (by decide) (by decide) (by decide) (ci := 0) (q0 := 0) rfl rfl rfl rfl hl.1 rfl (Nat.le_of_ble_eq_true rfl) dX0_offendByCutLength_23 ⟨Nat.le_of_ble_eq_true rfl, Nat.le_of_ble_eq_true rfl⟩ (fun r_2 u_2 H locs hw_2 hP hD hS => ?_)
    obtain ⟨of2_2, eu_2⟩ : ∃ z, z = u_2 := ⟨_, rfl⟩
    subst eu_2
    have hP : va_P (dC, dI) vwCl (wR cA r0 r1 r2 r3 r4 r5 r6 row rs tg st ln pa nd ar lv of2_2) H := hP
    have hD : va_D A (wR cA r0 r1 r2 r3 r4 r5 r6 row rs tg st ln pa nd ar lv of2_2) := hD
    have hw_2 : r_2 = (-4) ∧ of2_2 = (nI pl) := hw_2
    obtain ⟨e0_2, e1_2⟩ := hw_2
    have e0_2 := e0_2.symm
    subst e0_2
    have e1_2 := e1_2.symm
    subst e1_2
    have hP9 : va_P (dC, dI) vwCl (vX0_offendByCutLength cA r0 r1 r2 r3 r4 r5 r6 row rs tg st ln pa nd ar lv of pl (nI pl)) _ := hP
    have hD9 : va_D A (vX0_offendByCutLength cA r0 r1 r2 r3 r4 r5 r6 row rs tg st ln pa nd ar lv of pl (nI pl)) := hD
    have hq9 : pX0_offendByCutLength r0 r1 r2 r3 r4 r5 r6 row rs tg st ln pa nd ar lv of pl ((-4)) (nI pl) := by show (_, _) = cutE lv rs pl; unfold cutE; first | rw [if_pos (by assumption)] | rw [if_neg (by assumption)]
    exact W.iret (v := (-4)) hx hb hr (fun t ht hW => ⟨⟨(-4), (nI pl), rfl, hq9, by rw [ht]; exact hP9, va_K.moved hW.alike hK, hD9⟩, hS.F ht⟩) hS.2.2 dX0_offendByCutLength_26
  · refine lv_aload_n hx hb dX0_offendByCutLength_7 rfl (lv_at hl 0 rfl) ?_
    refine lv_iconst (v := (-1)) hx hb dX0_offendByCutLength_8 (by decide) ?_
    refine lv_aload_n hx hb dX0_offendByCutLength_9 rfl (lv_at hl 0 rfl) ?_
    refine va_get (D := (dC, dI)) (ci := 0) (v := .int (nI rs)) (C := RX0) (T := TX0) (N := 10) hx hb hts hinX0 hown hK hP 0 rfl rfl 1 (by decide) hf_15 (fun _ h9 => h9) rfl dX0_offendByCutLength_10 ?_
    refine cl_Vi (As := [.int (-1), .int (nI rs)]) (rest := []) (wr := []) ⟨hx, hb, hml, hown, hts⟩ (k_X0_offend l dC dI cA r0 r1 r2 r3 r4 r5 r6 row rs tg st ln pa nd ar lv of (-1) (nI rs) _ ) (cwV 2 hts gX0_offendByCutLength_X0_offend rfl rfl rfl (by decide +kernel) ⟨Nat.le_of_ble_eq_true rfl, Nat.le_of_ble_eq_true rfl⟩) hK hP hD hS hA [0, 1, 2, 3, 4, 5, 6] [] rfl rfl (by decide) (by decide) (by decide) (ci := 0) (q0 := 0) rfl rfl rfl rfl hl.1 rfl (Nat.le_of_ble_eq_true rfl) dX0_offendByCutLength_13 ⟨Nat.le_of_ble_eq_true rfl, Nat.le_of_ble_eq_true rfl⟩ (fun r_3 u_3 H locs hw_3 hP hD hS => ?_)
    obtain ⟨of2_3, eu_3⟩ : ∃ z, z = u_3 := ⟨_, rfl⟩
    subst eu_3
    have hP : va_P (dC, dI) vwCl (wR cA r0 r1 r2 r3 r4 r5 r6 row rs tg st ln pa nd ar lv of2_3) H := hP
    have hD : va_D A (wR cA r0 r1 r2 r3 r4 r5 r6 row rs tg st ln pa nd ar lv of2_3) := hD
    have hw_3 : r_3 = (-1) ∧ of2_3 = (nI rs) := hw_3
    obtain ⟨e0_3, e1_3⟩ := hw_3
    have e0_3 := e0_3.symm
    subst e0_3
    have e1_3 := e1_3.symm
    subst e1_3
    refine lv_goto (tgt := 26) hx hb dX0_offendByCutLength_16 (by decide) ?_
    have hP9 : va_P (dC, dI) vwCl (vX0_offendByCutLength cA r0 r1 r2 r3 r4 r5 r6 row rs tg st ln pa nd ar lv of pl (nI rs)) _ := hP
    have hD9 : va_D A (vX0_offendByCutLength cA r0 r1 r2 r3 r4 r5 r6 row rs tg st ln pa nd ar lv of pl (nI rs)) := hD
    have hq9 : pX0_offendByCutLength r0 r1 r2 r3 r4 r5 r6 row rs tg st ln pa nd ar lv of pl ((-1)) (nI rs) := by show (_, _) = cutE lv rs pl; unfold cutE; first | rw [if_pos (by assumption)] | rw [if_neg (by assumption)]
    exact W.iret (v := (-1)) hx hb hr (fun t ht hW => ⟨⟨(-1), (nI rs), rfl, hq9, by rw [ht]; exact hP9, va_K.moved hW.alike hK, hD9⟩, hS.F ht⟩) hS.2.2 dX0_offendByCutLength_26
end
section
/-! what reading is, without a machine -/
def idS (row : Nat → Nat) (rs nd lv place : Nat) : Option (Int32 × Int32) := if rs ≤ place then some (-1, nI rs) else if ¬ isId (nI (row place)) then some (-2, nI place) else if 64 ≤ nd ∨ 16 ≤ lv then some (-7, nI place) else none
def parI (lv : Nat) (ar : Nat → Nat) : Int32 := if lv = 0 then -1 else nI (ar (lv - 1))
def lenS (row : Nat → Nat) (L lv rs place : Nat) : (Int32 × Int32) ⊕ (Nat × Nat) :=
  if L ≤ place + 1 then .inl (cutE lv rs place)
  else if row (place + 1) = 128 ∨ 130 < row (place + 1) then .inl (-3, nI (place + 1))
  else if row (place + 1) < 128 then .inr (row (place + 1), place + 1 + 0 + 1)
  else if L ≤ place + 1 + (row (place + 1) - 128) then .inl (cutE lv rs place)
  else if ¬ lenSz (numN row (place + 1 + 1) (row (place + 1) - 128)) = 1 + (row (place + 1) - 128) then .inl (-3, nI (place + 1))
  else .inr (numN row (place + 1 + 1) (row (place + 1) - 128), place + 1 + (row (place + 1) - 128) + 1)
def conS (tag : Nat) (row : Nat → Nat) (a n L place : Nat) : Option (Int32 × Int32) := if L - a < n then some (-4, nI place) else if ¬ okC tag row a n = true then some (-5, nI place) else none
def valS (row : Nat → Nat) (rs nd lv : Nat) (ar st ln : Nat → Nat) (place : Nat) : (Int32 × Int32) ⊕ (Nat × Nat) :=
  match idS row rs nd lv place with
  | some e => .inl e
  | none => match lenS row (limN rs lv ar st ln) lv rs place with
    | .inl e => .inl e
    | .inr x => match conS (row place) row x.2 x.1 (limN rs lv ar st ln) place with
      | some e => .inl e
      | none => .inr x
def popN (st ln ar : Nat → Nat) (pl : Nat) : Nat → Nat
  | 0 => 0
  | k + 1 => if st (ar k) + ln (ar k) = pl then popN st ln ar pl k else k + 1
theorem popN_go {st ln ar : Nat → Nat} {pl k : Nat} (h0 : 0 < k) (h : st (ar (k - 1)) + ln (ar (k - 1)) = pl) : popN st ln ar pl k = popN st ln ar pl (k - 1) := by
  obtain ⟨j, rfl⟩ : ∃ j, k = j + 1 := ⟨k - 1, by omega⟩
  have h : st (ar j) + ln (ar j) = pl := h
  show (if st (ar j) + ln (ar j) = pl then popN st ln ar pl j else j + 1) = _
  rw [if_pos h]; rfl
theorem popN_stop {st ln ar : Nat → Nat} {pl k : Nat} (h : k = 0 ∨ ¬ st (ar (k - 1)) + ln (ar (k - 1)) = pl) : popN st ln ar pl k = k := by
  cases k with
  | zero => rfl
  | succ j =>
    show (if st (ar j) + ln (ar j) = pl then popN st ln ar pl j else j + 1) = _
    rw [if_neg]
    rcases h with h | h
    · omega
    · exact h
theorem popN_le (st ln ar : Nat → Nat) (pl : Nat) : ∀ k, popN st ln ar pl k ≤ k
  | 0 => Nat.le_refl 0
  | k + 1 => by
    show (if st (ar k) + ln (ar k) = pl then popN st ln ar pl k else k + 1) ≤ k + 1
    have := popN_le st ln ar pl k
    split <;> omega
theorem popN_ne (st ln ar : Nat → Nat) (pl : Nat) : ∀ k, 0 < popN st ln ar pl k → ¬ st (ar (popN st ln ar pl k - 1)) + ln (ar (popN st ln ar pl k - 1)) = pl
  | 0 => fun h => absurd h (Nat.lt_irrefl 0)
  | k + 1 => by
    by_cases q : st (ar k) + ln (ar k) = pl
    · have e : popN st ln ar pl (k + 1) = popN st ln ar pl k := by
        show (if st (ar k) + ln (ar k) = pl then popN st ln ar pl k else k + 1) = _
        rw [if_pos q]
      rw [e]
      exact popN_ne st ln ar pl k
    · have e : popN st ln ar pl (k + 1) = k + 1 := by
        show (if st (ar k) + ln (ar k) = pl then popN st ln ar pl k else k + 1) = _
        rw [if_neg q]
      rw [e]
      intro _
      exact q
theorem cutE_ne {lv rs pl : Nat} {r o : Int32} (h : (r, o) = cutE lv rs pl) : r ≠ 0 := by
  unfold cutE at h
  split at h <;> (cases h; decide)
theorem num16 {f : Nat → Nat} (hf : ∀ j, f j < 256) {p k : Nat} (hk : k ≤ 2) : numN f p k < 65536 := by
  refine Nat.lt_of_lt_of_le (numN_lt hf p k) ?_
  rcases (show k = 0 ∨ k = 1 ∨ k = 2 by omega) with rfl | rfl | rfl <;> decide
def PInv (rs place nd lv : Nat) (tg st ln ar : Nat → Nat) : Prop :=
  nd ≤ 64 ∧ lv ≤ 16 ∧ place ≤ rs ∧ (∀ j, tg j < 256) ∧ (∀ j, st j < 1000) ∧ (∀ j, ln j < 65536) ∧ (∀ j, ar j < 64) ∧ (∀ j, j < lv → ar j < nd) ∧ (∀ j, j < nd → st j + ln j ≤ rs) ∧ (∀ j, j + 1 < lv → st (ar (j + 1)) + ln (ar (j + 1)) ≤ st (ar j) + ln (ar j)) ∧ (0 < lv → place < st (ar (lv - 1)) + ln (ar (lv - 1)))
theorem PInv.lim {rs place nd lv : Nat} {tg st ln ar : Nat → Nat} (h : PInv rs place nd lv tg st ln ar) : limN rs lv ar st ln ≤ rs := by
  obtain ⟨h1, h2, h3, h4, h5, h6, h7, h8, h9, h10, h11⟩ := h
  unfold limN
  split
  · exact Nat.le_refl _
  · exact h9 _ (h8 _ (by omega))
theorem idS_none {row : Nat → Nat} {rs nd lv place : Nat} (h : idS row rs nd lv place = none) : place < rs ∧ isId (nI (row place)) ∧ nd < 64 ∧ lv < 16 := by
  unfold idS at h
  by_cases h1 : rs ≤ place
  · rw [if_pos h1] at h; cases h
  · rw [if_neg h1] at h
    by_cases h2 : ¬ isId (nI (row place))
    · rw [if_pos h2] at h; cases h
    · rw [if_neg h2] at h
      by_cases h3 : 64 ≤ nd ∨ 16 ≤ lv
      · rw [if_pos h3] at h; cases h
      · exact ⟨by omega, Classical.byContradiction h2, by omega, by omega⟩
theorem lenS_ok {row : Nat → Nat} (hrow : ∀ j, row j < 256) {L lv rs place : Nat} {x : Nat × Nat} (h : lenS row L lv rs place = .inr x) : place + 1 < x.2 ∧ x.2 ≤ L ∧ x.1 < 65536 := by
  unfold lenS at h
  have hb := hrow (place + 1)
  by_cases h1 : L ≤ place + 1
  · rw [if_pos h1] at h; cases h
  rw [if_neg h1] at h
  by_cases h2 : row (place + 1) = 128 ∨ 130 < row (place + 1)
  · rw [if_pos h2] at h; cases h
  rw [if_neg h2] at h
  by_cases h3 : row (place + 1) < 128
  · rw [if_pos h3] at h; cases h; exact ⟨by omega, by omega, by omega⟩
  rw [if_neg h3] at h
  by_cases h4 : L ≤ place + 1 + (row (place + 1) - 128)
  · rw [if_pos h4] at h; cases h
  rw [if_neg h4] at h
  by_cases h5 : ¬ lenSz (numN row (place + 1 + 1) (row (place + 1) - 128)) = 1 + (row (place + 1) - 128)
  · rw [if_pos h5] at h; cases h
  rw [if_neg h5] at h
  have h := Sum.inr.inj h
  subst h
  have hn := num16 hrow (p := place + 1 + 1) (k := row (place + 1) - 128) (by omega)
  refine ⟨?_, ?_, ?_⟩
  · show place + 1 < place + 1 + (row (place + 1) - 128) + 1
    omega
  · show place + 1 + (row (place + 1) - 128) + 1 ≤ L
    omega
  · simpa using hn
theorem conS_none {tag : Nat} {row : Nat → Nat} {a n L place : Nat} (h : conS tag row a n L place = none) : n ≤ L - a ∧ okC tag row a n = true := by
  unfold conS at h
  by_cases h1 : L - a < n
  · rw [if_pos h1] at h; cases h
  rw [if_neg h1] at h
  by_cases h2 : ¬ okC tag row a n = true
  · rw [if_pos h2] at h; cases h
  · exact ⟨by omega, Classical.byContradiction h2⟩
theorem valS_ok {row : Nat → Nat} (hrow : ∀ j, row j < 256) {rs nd lv place : Nat} {ar st ln : Nat → Nat} {x : Nat × Nat} (h : valS row rs nd lv ar st ln place = .inr x) :
    place < rs ∧ isId (nI (row place)) ∧ nd < 64 ∧ lv < 16 ∧ place + 1 < x.2 ∧ x.2 + x.1 ≤ limN rs lv ar st ln ∧ x.1 < 65536 ∧ okC (row place) row x.2 x.1 = true := by
  unfold valS at h
  cases h1 : idS row rs nd lv place with
  | some e => rw [h1] at h; cases h
  | none =>
    rw [h1] at h
    cases h2 : lenS row (limN rs lv ar st ln) lv rs place with
    | inl e => rw [h2] at h; cases h
    | inr y =>
      rw [h2] at h
      cases h3 : conS (row place) row y.2 y.1 (limN rs lv ar st ln) place with
      | some e => simp only [h3] at h; cases h
      | none =>
        simp only [h3] at h
        cases h
        obtain ⟨a1, a2, a3, a4⟩ := idS_none h1
        obtain ⟨b1, b2, b3⟩ := lenS_ok hrow h2
        obtain ⟨c1, c2⟩ := conS_none h3
        exact ⟨a1, a2, a3, a4, b1, by omega, b3, c2⟩
/-- the state while a row is read: the place, the nodes' number, the level, identifiers, starts, lengths, what is around, parents -/
abbrev PS : Type := Nat × Nat × Nat × (Nat → Nat) × (Nat → Nat) × (Nat → Nat) × (Nat → Nat) × (Nat → Int32)
def nxA (row : Nat → Nat) (place nd lv : Nat) (ar : Nat → Nat) : Nat → Nat := if row place = 48 then va_up ar lv nd else ar
def nxL (row : Nat → Nat) (place lv : Nat) : Nat := if row place = 48 then lv + 1 else lv
def nxP (row : Nat → Nat) (place : Nat) (x : Nat × Nat) : Nat := if row place = 48 then x.2 else x.2 + x.1
def nxV (row : Nat → Nat) (place nd lv : Nat) (st ln ar : Nat → Nat) (x : Nat × Nat) : Nat := popN (va_up st nd x.2) (va_up ln nd x.1) (nxA row place nd lv ar) (nxP row place x) (nxL row place lv)
def nxS (row : Nat → Nat) (place nd lv : Nat) (tg st ln ar : Nat → Nat) (pa : Nat → Int32) (x : Nat × Nat) : PS :=
  (nxP row place x, nd + 1, nxV row place nd lv st ln ar x, va_up tg nd (row place), va_up st nd x.2, va_up ln nd x.1, nxA row place nd lv ar, upd pa nd (parI lv ar))
def runS (row : Nat → Nat) (rs : Nat) : Nat → PS → (Int32 × Int32) ⊕ PS
  | 0, s => .inr s
  | f + 1, (place, nd, lv, tg, st, ln, ar, pa) => match valS row rs nd lv ar st ln place with
    | .inl e => .inl e
    | .inr x => if nxV row place nd lv st ln ar x = 0 then (if nxP row place x < rs then .inl (-6, nI (nxP row place x)) else .inr (nxS row place nd lv tg st ln ar pa x)) else runS row rs f (nxS row place nd lv tg st ln ar pa x)
theorem PInv.next {row : Nat → Nat} (hrow : ∀ j, row j < 256) {rs place nd lv : Nat} {tg st ln ar : Nat → Nat} {x : Nat × Nat} (hrs : rs ≤ 300) (h : PInv rs place nd lv tg st ln ar) (hv : valS row rs nd lv ar st ln place = .inr x) :
    PInv rs (nxP row place x) (nd + 1) (nxV row place nd lv st ln ar x) (va_up tg nd (row place)) (va_up st nd x.2) (va_up ln nd x.1) (nxA row place nd lv ar) := by
  obtain ⟨v1, v2, v3, v4, v5, v6, v7, v8⟩ := valS_ok hrow hv
  have hlim := h.lim
  obtain ⟨h1, h2, h3, h4, h5, h6, h7, h8, h9, h10, h11⟩ := h
  have hA : ∀ j, nxA row place nd lv ar j < 64 := by
    intro j
    unfold nxA
    split
    · exact up_lt h7 v3 j
    · exact h7 j
  have hA2 : ∀ j, j < nxL row place lv → nxA row place nd lv ar j < nd + 1 := by
    intro j hj
    unfold nxA
    unfold nxL at hj
    split at hj
    · rename_i q
      rw [if_pos q]
      by_cases e : j = lv
      · rw [e, up_eq]; omega
      · rw [up_ne _ _ e]
        have := h8 j (by omega)
        omega
    · rename_i q
      rw [if_neg q]
      have := h8 j hj
      omega
  -- ends of what is around, behind the new node
  have hE : ∀ j, j < lv → va_up st nd x.2 (ar j) + va_up ln nd x.1 (ar j) = st (ar j) + ln (ar j) := by
    intro j hj
    have := h8 j hj
    rw [up_ne st x.2 (by omega), up_ne ln x.1 (by omega)]
  have hlimE : 0 < lv → limN rs lv ar st ln = st (ar (lv - 1)) + ln (ar (lv - 1)) := fun q => by
    unfold limN
    rw [if_neg (by omega)]
  have hN : ∀ j, j + 1 < nxL row place lv → va_up st nd x.2 (nxA row place nd lv ar (j + 1)) + va_up ln nd x.1 (nxA row place nd lv ar (j + 1)) ≤ va_up st nd x.2 (nxA row place nd lv ar j) + va_up ln nd x.1 (nxA row place nd lv ar j) := by
    intro j hj
    unfold nxA
    unfold nxL at hj
    split at hj
    · rename_i q
      rw [if_pos q]
      rw [up_ne ar nd (show j ≠ lv by omega), hE j (by omega)]
      by_cases e : j + 1 = lv
      · rw [e, up_eq, up_eq, up_eq]
        have := hlimE (by omega)
        rw [← e] at this
        simp only [Nat.add_sub_cancel] at this
        rw [← e] at v6
        omega
      · rw [up_ne ar nd e, hE (j + 1) (by omega)]
        exact h10 j (by omega)
    · rename_i q
      rw [if_neg q, hE j (by omega), hE (j + 1) hj]
      exact h10 j hj
  have hT : 0 < nxL row place lv → nxP row place x ≤ va_up st nd x.2 (nxA row place nd lv ar (nxL row place lv - 1)) + va_up ln nd x.1 (nxA row place nd lv ar (nxL row place lv - 1)) := by
    unfold nxL nxP nxA
    split
    · intro _
      rw [Nat.add_sub_cancel, up_eq, up_eq, up_eq]
      omega
    · intro q
      rw [hE _ (by omega)]
      have := hlimE q
      omega
  have hT2 : ∀ k j, nxL row place lv = j + 1 + k → nxP row place x ≤ va_up st nd x.2 (nxA row place nd lv ar j) + va_up ln nd x.1 (nxA row place nd lv ar j) := by
    intro k
    induction k with
    | zero =>
      intro j hj
      have := hT (by omega)
      rw [hj] at this
      exact this
    | succ k ih =>
      intro j hj
      exact Nat.le_trans (ih (j + 1) (by omega)) (hN j (by omega))
  have hVle : nxV row place nd lv st ln ar x ≤ nxL row place lv := popN_le _ _ _ _ _
  have hLle : nxL row place lv ≤ 16 := by unfold nxL; split <;> omega
  have hPle : nxP row place x ≤ rs := by unfold nxP; split <;> omega
  refine ⟨by omega, by omega, hPle, up_lt h4 (hrow _), up_lt h5 (by omega), up_lt h6 v7, hA, fun j hj => hA2 j (by omega), ?_, fun j hj => hN j (by omega), ?_⟩
  · intro j hj
    by_cases e : j = nd
    · rw [e, up_eq, up_eq]; omega
    · rw [up_ne st x.2 e, up_ne ln x.1 e]
      exact h9 j (by omega)
  · intro q
    have hne := popN_ne (va_up st nd x.2) (va_up ln nd x.1) (nxA row place nd lv ar) (nxP row place x) (nxL row place lv) q
    have hle := hT2 (nxL row place lv - nxV row place nd lv st ln ar x) (nxV row place nd lv st ln ar x - 1) (by omega)
    exact Nat.lt_of_le_of_ne hle (fun z => hne z.symm)
theorem run_err {row : Nat → Nat} {rs f place nd lv : Nat} {tg st ln ar : Nat → Nat} {pa : Nat → Int32} {x : Int32 × Int32} (h : valS row rs nd lv ar st ln place = .inl x) : runS row rs (f + 1) (place, nd, lv, tg, st, ln, ar, pa) = .inl x := by
  simp only [runS, h]
theorem run_go {row : Nat → Nat} {rs f place nd lv : Nat} {tg st ln ar : Nat → Nat} {pa : Nat → Int32} {x : Nat × Nat} (h : valS row rs nd lv ar st ln place = .inr x) (h0 : ¬ nxV row place nd lv st ln ar x = 0) : runS row rs (f + 1) (place, nd, lv, tg, st, ln, ar, pa) = runS row rs f (nxS row place nd lv tg st ln ar pa x) := by
  simp only [runS, h, if_neg h0]
theorem run_end {row : Nat → Nat} {rs f place nd lv : Nat} {tg st ln ar : Nat → Nat} {pa : Nat → Int32} {x : Nat × Nat} (h : valS row rs nd lv ar st ln place = .inr x) (h0 : nxV row place nd lv st ln ar x = 0) (h1 : nxP row place x < rs) : runS row rs (f + 1) (place, nd, lv, tg, st, ln, ar, pa) = .inl (-6, nI (nxP row place x)) := by
  simp only [runS, h, if_pos h0, if_pos h1]
theorem run_ok {row : Nat → Nat} {rs f place nd lv : Nat} {tg st ln ar : Nat → Nat} {pa : Nat → Int32} {x : Nat × Nat} (h : valS row rs nd lv ar st ln place = .inr x) (h0 : nxV row place nd lv st ln ar x = 0) (h1 : ¬ nxP row place x < rs) : runS row rs (f + 1) (place, nd, lv, tg, st, ln, ar, pa) = .inr (nxS row place nd lv tg st ln ar pa x) := by
  simp only [runS, h, if_pos h0, if_neg h1]
theorem PInv.start {rs : Nat} {tg st ln ar : Nat → Nat} (htg : ∀ j, tg j < 256) (hst : ∀ j, st j < 1000) (hln : ∀ j, ln j < 65536) (har : ∀ j, ar j < 64) : PInv rs 0 0 0 tg st ln ar :=
  ⟨by omega, by omega, by omega, htg, hst, hln, har, fun j hj => absurd hj (by omega), fun j hj => absurd hj (by omega), fun j hj => absurd hj (by omega), fun h => absurd h (by omega)⟩
theorem limN_up {rs lv nd : Nat} {ar st ln : Nat → Nat} (h : ∀ j, j < lv → ar j < nd) (a n : Nat) : limN rs lv ar (va_up st nd a) (va_up ln nd n) = limN rs lv ar st ln := by
  unfold limN
  split
  · rfl
  · have := h (lv - 1) (by omega)
    rw [up_ne st a (by omega), up_ne ln n (by omega)]
end
section
abbrev pX0_readIdentifier (r0 : Nat) (r1 : Nat) (r2 : Nat) (r3 : Nat) (r4 : Nat) (r5 : Nat) (r6 : Nat) (row : Nat → Nat) (rs : Nat) (tg : Nat → Nat) (st : Nat → Nat) (ln : Nat → Nat) (pa : Nat → Int32) (nd : Nat) (ar : Nat → Nat) (lv : Nat) (of : Int32) (pl : Nat) : Int32 → Int32 × (Nat → Nat) × (Nat → Int32) → Prop := fun (r : Int32) (u : Int32 × (Nat → Nat) × (Nat → Int32)) => match u with | (of2, tg2, pa2) => (idS row rs nd lv pl = none ∧ r = nI 0 ∧ of2 = of ∧ tg2 = va_up tg nd (row pl) ∧ pa2 = upd pa nd (parI lv ar)) ∨ (idS row rs nd lv pl = some (r, of2) ∧ r ≠ 0 ∧ tg2 = tg ∧ pa2 = pa)
abbrev vX0_readIdentifier (cA : ClassId) (r0 : Nat) (r1 : Nat) (r2 : Nat) (r3 : Nat) (r4 : Nat) (r5 : Nat) (r6 : Nat) (row : Nat → Nat) (rs : Nat) (tg : Nat → Nat) (st : Nat → Nat) (ln : Nat → Nat) (pa : Nat → Int32) (nd : Nat) (ar : Nat → Nat) (lv : Nat) (of : Int32) (pl : Nat) : Int32 × (Nat → Nat) × (Nat → Int32) → va_W := fun (u : Int32 × (Nat → Nat) × (Nat → Int32)) => match u with | (of2, tg2, pa2) => wR cA r0 r1 r2 r3 r4 r5 r6 row rs tg2 st ln pa2 nd ar lv of2
abbrev qX0_readIdentifier (dC : Nat → ClassId) (dI : Nat → Nat → Nat) (cA : ClassId) (A : Nat → Prop) (r0 : Nat) (r1 : Nat) (r2 : Nat) (r3 : Nat) (r4 : Nat) (r5 : Nat) (r6 : Nat) (row : Nat → Nat) (rs : Nat) (tg : Nat → Nat) (st : Nat → Nat) (ln : Nat → Nat) (pa : Nat → Int32) (nd : Nat) (ar : Nat → Nat) (lv : Nat) (of : Int32) (pl : Nat) : Array Value → State → Outcome → State → Prop := va_Qi (pX0_readIdentifier r0 r1 r2 r3 r4 r5 r6 row rs tg st ln pa nd ar lv of pl) (fun u => cAft dC dI cA A (vX0_readIdentifier cA r0 r1 r2 r3 r4 r5 r6 row rs tg st ln pa nd ar lv of pl u)) A
set_option maxHeartbeats 4000000 in
set_option maxRecDepth 100000 in
theorem k_X0_readIdentifier (l : Launch) (dC : Nat → ClassId) (dI : Nat → Nat → Nat) (cA : ClassId) (r0 : Nat) (r1 : Nat) (r2 : Nat) (r3 : Nat) (r4 : Nat) (r5 : Nat) (r6 : Nat) (row : Nat → Nat) (rs : Nat) (tg : Nat → Nat) (st : Nat → Nat) (ln : Nat → Nat) (pa : Nat → Int32) (nd : Nat) (ar : Nat → Nat) (lv : Nat) (of : Int32) (pl : Nat) (sz : Nat) (hrow : ∀ j, row j < 256) (htg : ∀ j, tg j < 256) (hst : ∀ j, st j < 1000) (hln : ∀ j, ln j < 65536) (har : ∀ j, ar j < 64) (hrs : rs ≤ 300) (hnd : nd ≤ 64) (hlv : lv ≤ 16) (hpl : pl ≤ 300) : Met l yX0_readIdentifier wsX0_readIdentifier ({ frames := 1, cells := 0, slots := 0, locals := 22 } : Room) (va_Pc [.ref r0, .int (nI pl)] (cPre dC dI cA (wR cA r0 r1 r2 r3 r4 r5 r6 row rs tg st ln pa nd ar lv of) sz)) (qX0_readIdentifier dC dI cA (va_A (wR cA r0 r1 r2 r3 r4 r5 r6 row rs tg st ln pa nd ar lv of) sz) r0 r1 r2 r3 r4 r5 r6 row rs tg st ln pa nd ar lv of pl) 0 0 (va_A (wR cA r0 r1 r2 r3 r4 r5 r6 row rs tg st ln pa nd ar lv of) sz) := by
  refine Met.ofW (cc := cX0_readIdentifier) (maxL := 2) (ret := (some .int)) (by decide) rfl ?_
  intro p e s m args below meth c s₁ B hml hv
  obtain ⟨rfl, hsz, hP, hK, hD0⟩ := hv
  have hx := B.exec
  have hb := B.bytes
  have hr := B.returns
  have hts := atoms_spec (ws := wsX0_readIdentifier) B.pre
  have hown : s.vm.findClass RX0 = some m.cls := findClass_of_methodNamed B.named
  have hlocks := B.notSynchronized
  subst hsz
  have hD := hD0.self (sz := s.heap.size)
  generalize hAe : va_A (wR cA r0 r1 r2 r3 r4 r5 r6 row rs tg st ln pa nd ar lv of) s.heap.size = A at hD ⊢
  have hA : ∀ q : Nat, s.heap.size ≤ q → A q := fun q h => by rw [← hAe]; exact Or.inr h
  have hS : va_S A s.heap s.heap [] := va_S.rf
  have hl := lv_entry ([.ref r0, .int (nI pl)]) (n := 2) (Nat.le_of_ble_eq_true rfl)
  rw [lg_entry_eq]
  generalize (lg_sl ([.ref r0, .int (nI pl)]) ++ List.replicate (2 - (lg_sl ([.ref r0, .int (nI pl)])).length) Slot.unset).toArray = ls at hl ⊢
  have hl : lv_has ls 2 [(0, .ref r0), (1, .int (nI pl))] := hl
  have hinX0 : ∀ w ∈ wsX00, w ∈ wsX0_readIdentifier := fun _ h => List.mem_cons_of_mem _ (List.mem_append_right _ h)
  have hf_9 := hts (.fieldLink RX0 9 "DerDesk$Reader" "row" "[I") (by decide +kernel)
  have hf_15 := hts (.fieldLink RX0 15 "DerDesk$Reader" "rowSize" "I") (by decide +kernel)
  have hf_19 := hts (.fieldLink RX0 19 "DerDesk$Reader" "tags" "[I") (by decide +kernel)
  have hf_28 := hts (.fieldLink RX0 28 "DerDesk$Reader" "parents" "[I") (by decide +kernel)
  have hf_31 := hts (.fieldLink RX0 31 "DerDesk$Reader" "nodes" "I") (by decide +kernel)
  have hf_34 := hts (.fieldLink RX0 34 "DerDesk$Reader" "around" "[I") (by decide +kernel)
  have hf_37 := hts (.fieldLink RX0 37 "DerDesk$Reader" "level" "I") (by decide +kernel)
  have hP : va_P (dC, dI) vwCl (wR cA r0 r1 r2 r3 r4 r5 r6 row rs tg st ln pa nd ar lv of) s.heap := hP
  refine lv_iload_n hx hb dX0_readIdentifier_0 rfl (lv_at hl 1 rfl) ?_
  refine lv_aload_n hx hb dX0_readIdentifier_1 rfl (lv_at hl 0 rfl) ?_
  refine va_get (D := (dC, dI)) (ci := 0) (v := .int (nI rs)) (C := RX0) (T := TX0) (N := 10) hx hb hts hinX0 hown hK hP 0 rfl rfl 1 (by decide) hf_15 (fun _ h9 => h9) rfl dX0_readIdentifier_2 ?_
  refine hl_icmp_lt (tgt := 18) hx hb dX0_readIdentifier_5 (by decide) (by omega) (by omega) (fun c_1 => ?_) (fun c_1 => ?_)
  · refine lv_aload_n hx hb dX0_readIdentifier_18 rfl (lv_at hl 0 rfl) ?_
    refine va_get (D := (dC, dI)) (ci := 0) (v := .ref r1) (C := RX0) (T := TX0) (N := 10) hx hb hts hinX0 hown hK hP 0 rfl rfl 0 (by decide) hf_9 (fun _ h9 => h9) rfl dX0_readIdentifier_19 ?_
    refine lv_iload_n hx hb dX0_readIdentifier_22 rfl (lv_at hl 1 rfl) ?_
    refine hl_iald hx hb hK hP 1 0 rfl rfl (by omega) (by decide) dX0_readIdentifier_23 ?_
    have hv_2 := hrow pl
    refine cl_Si (As := [.int (nI (row pl))]) (rest := []) (wr := [(r0, .inr (0, [.ref r1, .int (nI rs), .ref r2, .ref r3, .ref r4, .ref r5, .int (nI nd), .ref r6, .int (nI lv), .int of])), (r1, .inl (cA, 300, .inl (nA row))), (r2, .inl (cA, 64, .inl (nA tg))), (r3, .inl (cA, 64, .inl (nA st))), (r4, .inl (cA, 64, .inl (nA ln))), (r5, .inl (cA, 64, .inl (pa))), (r6, .inl (cA, 16, .inl (nA ar)))]) ⟨hx, hb, hml, hown, hts⟩ (k_X1_isIdentifier l dC dI cA (nI (row pl)) _ ) (va_cwS 1 hts gX0_readIdentifier_X1_isIdentifier rfl rfl rfl (by decide +kernel) ⟨Nat.le_of_ble_eq_true rfl, Nat.le_of_ble_eq_true rfl⟩) hK hP hD hS hA [] [0, 1, 2, 3, 4, 5, 6] rfl rfl (by decide) (by decide) (by decide) rfl hl.1 rfl (Nat.le_of_ble_eq_true rfl) dX0_readIdentifier_24 ⟨Nat.le_of_ble_eq_true rfl, Nat.le_of_ble_eq_true rfl⟩ (fun r_3 u_3 H locs hw_3 hP hD hS => ?_)
    have hP : va_P (dC, dI) vwCl (wR cA r0 r1 r2 r3 r4 r5 r6 row rs tg st ln pa nd ar lv of) H := hP
    have hD : va_D A (wR cA r0 r1 r2 r3 r4 r5 r6 row rs tg st ln pa nd ar lv of) := hD
    have hw_3 : r_3 = if isId (nI (row pl)) then 1 else 0 := hw_3
    have hw_3 := hw_3.symm
    subst hw_3
    refine hl_ifb_ne (tgt := 38) hx hb dX0_readIdentifier_27 (by decide) (fun c_4 => ?_) (fun c_4 => ?_)
    · refine lv_aload_n hx hb dX0_readIdentifier_38 rfl (lv_at hl 0 rfl) ?_
      refine va_get (D := (dC, dI)) (ci := 0) (v := .int (nI nd)) (C := RX0) (T := TX0) (N := 10) hx hb hts hinX0 hown hK hP 0 rfl rfl 6 (by decide) hf_31 (fun _ h9 => h9) rfl dX0_readIdentifier_39 ?_
      refine lv_bipush (v := nI 64) hx hb dX0_readIdentifier_42 (by decide) ?_
      refine hl_icmp_ge (tgt := 56) hx hb dX0_readIdentifier_44 (by decide) (by omega) (by omega) (fun c_5 => ?_) (fun c_5 => ?_)
      · refine lv_aload_n hx hb dX0_readIdentifier_56 rfl (lv_at hl 0 rfl) ?_
        refine lv_bipush (v := (-7)) hx hb dX0_readIdentifier_57 (by decide) ?_
        refine lv_iload_n hx hb dX0_readIdentifier_59 rfl (lv_at hl 1 rfl) ?_
        refine cl_Vi (As := [.int (-7), .int (nI pl)]) (rest := []) (wr := []) ⟨hx, hb, hml, hown, hts⟩ (k_X0_offend l dC dI cA r0 r1 r2 r3 r4 r5 r6 row rs tg st ln pa nd ar lv of (-7) (nI pl) _ ) (cwV 2 hts gX0_readIdentifier_X0_offend rfl rfl rfl (by decide +kernel) ⟨Nat.le_of_ble_eq_true rfl, Nat.le_of_ble_eq_true rfl⟩) hK hP hD hS hA [0, 1, 2, 3, 4, 5, 6] [] rfl rfl (by decide) (by decide) (by decide) (ci := 0) (q0 := 0) rfl rfl rfl rfl hl.1 rfl (Nat.le_of_ble_eq_true rfl) dX0_readIdentifier_60 ⟨Nat.le_of_ble_eq_true rfl, Nat.le_of_ble_eq_true rfl⟩ (fun r_6 u_6 H locs hw_6 hP hD hS => ?_)
        obtain ⟨of2_6, eu_6⟩ : ∃ z, z = u_6 := ⟨_, rfl⟩
        subst eu_6
        have hP : va_P (dC, dI) vwCl (wR cA r0 r1 r2 r3 r4 r5 r6 row rs tg st ln pa nd ar lv of2_6) H := hP
        have hD : va_D A (wR cA r0 r1 r2 r3 r4 r5 r6 row rs tg st ln pa nd ar lv of2_6) := hD
        have hw_6 : r_6 = (-7) ∧ of2_6 = (nI pl) := hw_6
        obtain ⟨e0_6, e1_6⟩ := hw_6
        have e0_6 := e0_6.symm
        subst e0_6
        have e1_6 := e1_6.symm
        subst e1_6
        have hP9 : va_P (dC, dI) vwCl (vX0_readIdentifier cA r0 r1 r2 r3 r4 r5 r6 row rs tg st ln pa nd ar lv of pl ((nI pl), tg, pa)) _ := hP
        have hD9 : va_D A (vX0_readIdentifier cA r0 r1 r2 r3 r4 r5 r6 row rs tg st ln pa nd ar lv of pl ((nI pl), tg, pa)) := hD
        have hq9 : pX0_readIdentifier r0 r1 r2 r3 r4 r5 r6 row rs tg st ln pa nd ar lv of pl ((-7)) ((nI pl), tg, pa) := Or.inr ⟨by unfold idS; rw [if_neg (by omega), if_neg (fun h => h (by assumption)), if_pos (by omega)], by decide, rfl, rfl⟩
        exact W.iret (v := (-7)) hx hb hr (fun t ht hW => ⟨⟨(-7), ((nI pl), tg, pa), rfl, hq9, by rw [ht]; exact hP9, va_K.moved hW.alike hK, hD9⟩, hS.F ht⟩) hS.2.2 dX0_readIdentifier_63
      · refine lv_aload_n hx hb dX0_readIdentifier_47 rfl (lv_at hl 0 rfl) ?_
        refine va_get (D := (dC, dI)) (ci := 0) (v := .int (nI lv)) (C := RX0) (T := TX0) (N := 10) hx hb hts hinX0 hown hK hP 0 rfl rfl 8 (by decide) hf_37 (fun _ h9 => h9) rfl dX0_readIdentifier_48 ?_
        refine lv_bipush (v := nI 16) hx hb dX0_readIdentifier_51 (by decide) ?_
        refine hl_icmp_lt (tgt := 64) hx hb dX0_readIdentifier_53 (by decide) (by omega) (by omega) (fun c_7 => ?_) (fun c_7 => ?_)
        · refine lv_aload_n hx hb dX0_readIdentifier_64 rfl (lv_at hl 0 rfl) ?_
          refine va_get (D := (dC, dI)) (ci := 0) (v := .ref r2) (C := RX0) (T := TX0) (N := 10) hx hb hts hinX0 hown hK hP 0 rfl rfl 2 (by decide) hf_19 (fun _ h9 => h9) rfl dX0_readIdentifier_65 ?_
          refine lv_aload_n hx hb dX0_readIdentifier_68 rfl (lv_at hl 0 rfl) ?_
          refine va_get (D := (dC, dI)) (ci := 0) (v := .int (nI nd)) (C := RX0) (T := TX0) (N := 10) hx hb hts hinX0 hown hK hP 0 rfl rfl 6 (by decide) hf_31 (fun _ h9 => h9) rfl dX0_readIdentifier_69 ?_
          refine lv_aload_n hx hb dX0_readIdentifier_72 rfl (lv_at hl 0 rfl) ?_
          refine va_get (D := (dC, dI)) (ci := 0) (v := .ref r1) (C := RX0) (T := TX0) (N := 10) hx hb hts hinX0 hown hK hP 0 rfl rfl 0 (by decide) hf_9 (fun _ h9 => h9) rfl dX0_readIdentifier_73 ?_
          refine lv_iload_n hx hb dX0_readIdentifier_76 rfl (lv_at hl 1 rfl) ?_
          refine hl_iald hx hb hK hP 1 0 rfl rfl (by omega) (by decide) dX0_readIdentifier_77 ?_
          have hv_8 := hrow pl
          refine hl_iast hx hb hK hP hD hS 2 0 rfl rfl (by omega) (by decide) dX0_readIdentifier_78 (fun H locs hP hD hS => ?_)
          have hP : va_P (dC, dI) vwCl (wR cA r0 r1 r2 r3 r4 r5 r6 row rs (va_up tg nd (row pl)) st ln pa nd ar lv of) H := hP
          have hD : va_D A (wR cA r0 r1 r2 r3 r4 r5 r6 row rs (va_up tg nd (row pl)) st ln pa nd ar lv of) := hD
          have hB_9 := up_lt htg (k := nd) (x := (row pl)) (by omega)
          refine lv_aload_n hx hb dX0_readIdentifier_79 rfl (lv_at hl 0 rfl) ?_
          refine va_get (D := (dC, dI)) (ci := 0) (v := .ref r5) (C := RX0) (T := TX0) (N := 10) hx hb hts hinX0 hown hK hP 0 rfl rfl 5 (by decide) hf_28 (fun _ h9 => h9) rfl dX0_readIdentifier_80 ?_
          refine lv_aload_n hx hb dX0_readIdentifier_83 rfl (lv_at hl 0 rfl) ?_
          refine va_get (D := (dC, dI)) (ci := 0) (v := .int (nI nd)) (C := RX0) (T := TX0) (N := 10) hx hb hts hinX0 hown hK hP 0 rfl rfl 6 (by decide) hf_31 (fun _ h9 => h9) rfl dX0_readIdentifier_84 ?_
          refine lv_aload_n hx hb dX0_readIdentifier_87 rfl (lv_at hl 0 rfl) ?_
          refine va_get (D := (dC, dI)) (ci := 0) (v := .int (nI lv)) (C := RX0) (T := TX0) (N := 10) hx hb hts hinX0 hown hK hP 0 rfl rfl 8 (by decide) hf_37 (fun _ h9 => h9) rfl dX0_readIdentifier_88 ?_
          refine hl_if_ne (tgt := 98) hx hb dX0_readIdentifier_91 (by decide) (by omega) (fun c_10 => ?_) (fun c_10 => ?_)
          · refine lv_aload_n hx hb dX0_readIdentifier_98 rfl (lv_at hl 0 rfl) ?_
            refine va_get (D := (dC, dI)) (ci := 0) (v := .ref r6) (C := RX0) (T := TX0) (N := 10) hx hb hts hinX0 hown hK hP 0 rfl rfl 7 (by decide) hf_34 (fun _ h9 => h9) rfl dX0_readIdentifier_99 ?_
            refine lv_aload_n hx hb dX0_readIdentifier_102 rfl (lv_at hl 0 rfl) ?_
            refine va_get (D := (dC, dI)) (ci := 0) (v := .int (nI lv)) (C := RX0) (T := TX0) (N := 10) hx hb hts hinX0 hown hK hP 0 rfl rfl 8 (by decide) hf_37 (fun _ h9 => h9) rfl dX0_readIdentifier_103 ?_
            refine lv_iconst (v := nI 1) hx hb dX0_readIdentifier_106 (by decide) ?_
            refine hl_isub hx hb (by omega) dX0_readIdentifier_107 ?_
            refine hl_iald hx hb hK hP 6 0 rfl rfl (by omega) (by decide) dX0_readIdentifier_108 ?_
            have hv_11 := har (lv - 1)
            refine hl_iastI hx hb hK hP hD hS 5 0 rfl rfl (by omega) (by decide) dX0_readIdentifier_109 (fun H locs hP hD hS => ?_)
            have hP : va_P (dC, dI) vwCl (wR cA r0 r1 r2 r3 r4 r5 r6 row rs (va_up tg nd (row pl)) st ln (upd pa nd (nI (ar (lv - 1)))) nd ar lv of) H := hP
            have hD : va_D A (wR cA r0 r1 r2 r3 r4 r5 r6 row rs (va_up tg nd (row pl)) st ln (upd pa nd (nI (ar (lv - 1)))) nd ar lv of) := hD
            refine lv_iconst (v := nI 0) hx hb dX0_readIdentifier_110 (by decide) ?_
            have hP9 : va_P (dC, dI) vwCl (vX0_readIdentifier cA r0 r1 r2 r3 r4 r5 r6 row rs tg st ln pa nd ar lv of pl (of, va_up tg nd (row pl), upd pa nd (nI (ar (lv - 1))))) _ := hP
            have hD9 : va_D A (vX0_readIdentifier cA r0 r1 r2 r3 r4 r5 r6 row rs tg st ln pa nd ar lv of pl (of, va_up tg nd (row pl), upd pa nd (nI (ar (lv - 1))))) := hD
            have hq9 : pX0_readIdentifier r0 r1 r2 r3 r4 r5 r6 row rs tg st ln pa nd ar lv of pl (nI 0) (of, va_up tg nd (row pl), upd pa nd (nI (ar (lv - 1)))) := Or.inl ⟨by unfold idS; rw [if_neg (by omega), if_neg (fun h => h (by assumption)), if_neg (by omega)], rfl, rfl, rfl, by unfold parI; first | rw [if_pos (by assumption)] | rw [if_neg (by assumption)]⟩
            exact W.iret (v := nI 0) hx hb hr (fun t ht hW => ⟨⟨nI 0, (of, va_up tg nd (row pl), upd pa nd (nI (ar (lv - 1)))), rfl, hq9, by rw [ht]; exact hP9, va_K.moved hW.alike hK, hD9⟩, hS.F ht⟩) hS.2.2 dX0_readIdentifier_111
          · refine lv_iconst (v := (-1)) hx hb dX0_readIdentifier_94 (by decide) ?_
            refine lv_goto (tgt := 109) hx hb dX0_readIdentifier_95 (by decide) ?_
            refine hl_iastI hx hb hK hP hD hS 5 0 rfl rfl (by omega) (by decide) dX0_readIdentifier_109 (fun H locs hP hD hS => ?_)
            have hP : va_P (dC, dI) vwCl (wR cA r0 r1 r2 r3 r4 r5 r6 row rs (va_up tg nd (row pl)) st ln (upd pa nd (-1)) nd ar lv of) H := hP
            have hD : va_D A (wR cA r0 r1 r2 r3 r4 r5 r6 row rs (va_up tg nd (row pl)) st ln (upd pa nd (-1)) nd ar lv of) := hD
            refine lv_iconst (v := nI 0) hx hb dX0_readIdentifier_110 (by decide) ?_
            have hP9 : va_P (dC, dI) vwCl (vX0_readIdentifier cA r0 r1 r2 r3 r4 r5 r6 row rs tg st ln pa nd ar lv of pl (of, va_up tg nd (row pl), upd pa nd (-1))) _ := hP
            have hD9 : va_D A (vX0_readIdentifier cA r0 r1 r2 r3 r4 r5 r6 row rs tg st ln pa nd ar lv of pl (of, va_up tg nd (row pl), upd pa nd (-1))) := hD
            have hq9 : pX0_readIdentifier r0 r1 r2 r3 r4 r5 r6 row rs tg st ln pa nd ar lv of pl (nI 0) (of, va_up tg nd (row pl), upd pa nd (-1)) := Or.inl ⟨by unfold idS; rw [if_neg (by omega), if_neg (fun h => h (by assumption)), if_neg (by omega)], rfl, rfl, rfl, by unfold parI; first | rw [if_pos (by assumption)] | rw [if_neg (by assumption)]⟩
            exact W.iret (v := nI 0) hx hb hr (fun t ht hW => ⟨⟨nI 0, (of, va_up tg nd (row pl), upd pa nd (-1)), rfl, hq9, by rw [ht]; exact hP9, va_K.moved hW.alike hK, hD9⟩, hS.F ht⟩) hS.2.2 dX0_readIdentifier_111
        · refine lv_aload_n hx hb dX0_readIdentifier_56 rfl (lv_at hl 0 rfl) ?_
          refine lv_bipush (v := (-7)) hx hb dX0_readIdentifier_57 (by decide) ?_
          refine lv_iload_n hx hb dX0_readIdentifier_59 rfl (lv_at hl 1 rfl) ?_
          refine cl_Vi (As := [.int (-7), .int (nI pl)]) (rest := []) (wr := []) ⟨hx, hb, hml, hown, hts⟩ (k_X0_offend l dC dI cA r0 r1 r2 r3 r4 r5 r6 row rs tg st ln pa nd ar lv of (-7) (nI pl) _ ) (cwV 2 hts gX0_readIdentifier_X0_offend rfl rfl rfl (by decide +kernel) ⟨Nat.le_of_ble_eq_true rfl, Nat.le_of_ble_eq_true rfl⟩) hK hP hD hS hA [0, 1, 2, 3, 4, 5, 6] [] rfl rfl (by decide) (by decide) (by decide) (ci := 0) (q0 := 0) rfl rfl rfl rfl hl.1 rfl (Nat.le_of_ble_eq_true rfl) dX0_readIdentifier_60 ⟨Nat.le_of_ble_eq_true rfl, Nat.le_of_ble_eq_true rfl⟩ (fun r_12 u_12 H locs hw_12 hP hD hS => ?_)
          obtain ⟨of2_12, eu_12⟩ : ∃ z, z = u_12 := ⟨_, rfl⟩
          subst eu_12
          have hP : va_P (dC, dI) vwCl (wR cA r0 r1 r2 r3 r4 r5 r6 row rs tg st ln pa nd ar lv of2_12) H := hP
          have hD : va_D A (wR cA r0 r1 r2 r3 r4 r5 r6 row rs tg st ln pa nd ar lv of2_12) := hD
          have hw_12 : r_12 = (-7) ∧ of2_12 = (nI pl) := hw_12
          obtain ⟨e0_12, e1_12⟩ := hw_12
          have e0_12 := e0_12.symm
          subst e0_12
          have e1_12 := e1_12.symm
          subst e1_12
          have hP9 : va_P (dC, dI) vwCl (vX0_readIdentifier cA r0 r1 r2 r3 r4 r5 r6 row rs tg st ln pa nd ar lv of pl ((nI pl), tg, pa)) _ := hP
          have hD9 : va_D A (vX0_readIdentifier cA r0 r1 r2 r3 r4 r5 r6 row rs tg st ln pa nd ar lv of pl ((nI pl), tg, pa)) := hD
          have hq9 : pX0_readIdentifier r0 r1 r2 r3 r4 r5 r6 row rs tg st ln pa nd ar lv of pl ((-7)) ((nI pl), tg, pa) := Or.inr ⟨by unfold idS; rw [if_neg (by omega), if_neg (fun h => h (by assumption)), if_pos (by omega)], by decide, rfl, rfl⟩
          exact W.iret (v := (-7)) hx hb hr (fun t ht hW => ⟨⟨(-7), ((nI pl), tg, pa), rfl, hq9, by rw [ht]; exact hP9, va_K.moved hW.alike hK, hD9⟩, hS.F ht⟩) hS.2.2 dX0_readIdentifier_63
    · refine lv_aload_n hx hb dX0_readIdentifier_30 rfl (lv_at hl 0 rfl) ?_
      refine lv_bipush (v := (-2)) hx hb dX0_readIdentifier_31 (by decide) ?_
      refine lv_iload_n hx hb dX0_readIdentifier_33 rfl (lv_at hl 1 rfl) ?_
      refine cl_Vi (As := [.int (-2), .int (nI pl)]) (rest := []) (wr := []) ⟨hx, hb, hml, hown, hts⟩ (k_X0_offend l dC dI cA r0 r1 r2 r3 r4 r5 r6 row rs tg st ln pa nd ar lv of (-2) (nI pl) _ ) (cwV 2 hts gX0_readIdentifier_X0_offend rfl rfl rfl (by decide +kernel) ⟨Nat.le_of_ble_eq_true rfl, Nat.le_of_ble_eq_true rfl⟩) hK hP hD hS hA [0, 1, 2, 3, 4, 5, 6] [] rfl rfl (by decide) (by decide) (by decide) (ci := 0) (q0 := 0) rfl rfl rfl rfl hl.1 rfl (Nat.le_of_ble_eq_true rfl) dX0_readIdentifier_34 ⟨Nat.le_of_ble_eq_true rfl, Nat.le_of_ble_eq_true rfl⟩ (fun r_13 u_13 H locs hw_13 hP hD hS => ?_)
      obtain ⟨of2_13, eu_13⟩ : ∃ z, z = u_13 := ⟨_, rfl⟩
      subst eu_13
      have hP : va_P (dC, dI) vwCl (wR cA r0 r1 r2 r3 r4 r5 r6 row rs tg st ln pa nd ar lv of2_13) H := hP
      have hD : va_D A (wR cA r0 r1 r2 r3 r4 r5 r6 row rs tg st ln pa nd ar lv of2_13) := hD
      have hw_13 : r_13 = (-2) ∧ of2_13 = (nI pl) := hw_13
      obtain ⟨e0_13, e1_13⟩ := hw_13
      have e0_13 := e0_13.symm
      subst e0_13
      have e1_13 := e1_13.symm
      subst e1_13
      have hP9 : va_P (dC, dI) vwCl (vX0_readIdentifier cA r0 r1 r2 r3 r4 r5 r6 row rs tg st ln pa nd ar lv of pl ((nI pl), tg, pa)) _ := hP
      have hD9 : va_D A (vX0_readIdentifier cA r0 r1 r2 r3 r4 r5 r6 row rs tg st ln pa nd ar lv of pl ((nI pl), tg, pa)) := hD
      have hq9 : pX0_readIdentifier r0 r1 r2 r3 r4 r5 r6 row rs tg st ln pa nd ar lv of pl ((-2)) ((nI pl), tg, pa) := Or.inr ⟨by unfold idS; rw [if_neg (by omega), if_pos (by assumption)], by decide, rfl, rfl⟩
      exact W.iret (v := (-2)) hx hb hr (fun t ht hW => ⟨⟨(-2), ((nI pl), tg, pa), rfl, hq9, by rw [ht]; exact hP9, va_K.moved hW.alike hK, hD9⟩, hS.F ht⟩) hS.2.2 dX0_readIdentifier_37
  · refine lv_aload_n hx hb dX0_readIdentifier_8 rfl (lv_at hl 0 rfl) ?_
    refine lv_iconst (v := (-1)) hx hb dX0_readIdentifier_9 (by decide) ?_
    refine lv_aload_n hx hb dX0_readIdentifier_10 rfl (lv_at hl 0 rfl) ?_
    refine va_get (D := (dC, dI)) (ci := 0) (v := .int (nI rs)) (C := RX0) (T := TX0) (N := 10) hx hb hts hinX0 hown hK hP 0 rfl rfl 1 (by decide) hf_15 (fun _ h9 => h9) rfl dX0_readIdentifier_11 ?_
    refine cl_Vi (As := [.int (-1), .int (nI rs)]) (rest := []) (wr := []) ⟨hx, hb, hml, hown, hts⟩ (k_X0_offend l dC dI cA r0 r1 r2 r3 r4 r5 r6 row rs tg st ln pa nd ar lv of (-1) (nI rs) _ ) (cwV 2 hts gX0_readIdentifier_X0_offend rfl rfl rfl (by decide +kernel) ⟨Nat.le_of_ble_eq_true rfl, Nat.le_of_ble_eq_true rfl⟩) hK hP hD hS hA [0, 1, 2, 3, 4, 5, 6] [] rfl rfl (by decide) (by decide) (by decide) (ci := 0) (q0 := 0) rfl rfl rfl rfl hl.1 rfl (Nat.le_of_ble_eq_true rfl) dX0_readIdentifier_14 ⟨Nat.le_of_ble_eq_true rfl, Nat.le_of_ble_eq_true rfl⟩ (fun r_14 u_14 H locs hw_14 hP hD hS => ?_)
    obtain ⟨of2_14, eu_14⟩ : ∃ z, z = u_14 := ⟨_, rfl⟩
    subst eu_14
    have hP : va_P (dC, dI) vwCl (wR cA r0 r1 r2 r3 r4 r5 r6 row rs tg st ln pa nd ar lv of2_14) H := hP
    have hD : va_D A (wR cA r0 r1 r2 r3 r4 r5 r6 row rs tg st ln pa nd ar lv of2_14) := hD
    have hw_14 : r_14 = (-1) ∧ of2_14 = (nI rs) := hw_14
    obtain ⟨e0_14, e1_14⟩ := hw_14
    have e0_14 := e0_14.symm
    subst e0_14
    have e1_14 := e1_14.symm
    subst e1_14
    have hP9 : va_P (dC, dI) vwCl (vX0_readIdentifier cA r0 r1 r2 r3 r4 r5 r6 row rs tg st ln pa nd ar lv of pl ((nI rs), tg, pa)) _ := hP
    have hD9 : va_D A (vX0_readIdentifier cA r0 r1 r2 r3 r4 r5 r6 row rs tg st ln pa nd ar lv of pl ((nI rs), tg, pa)) := hD
    have hq9 : pX0_readIdentifier r0 r1 r2 r3 r4 r5 r6 row rs tg st ln pa nd ar lv of pl ((-1)) ((nI rs), tg, pa) := Or.inr ⟨by unfold idS; rw [if_pos (by omega)], by decide, rfl, rfl⟩
    exact W.iret (v := (-1)) hx hb hr (fun t ht hW => ⟨⟨(-1), ((nI rs), tg, pa), rfl, hq9, by rw [ht]; exact hP9, va_K.moved hW.alike hK, hD9⟩, hS.F ht⟩) hS.2.2 dX0_readIdentifier_17
abbrev pX0_readLength (r0 : Nat) (r1 : Nat) (r2 : Nat) (r3 : Nat) (r4 : Nat) (r5 : Nat) (r6 : Nat) (row : Nat → Nat) (rs : Nat) (tg : Nat → Nat) (st : Nat → Nat) (ln : Nat → Nat) (pa : Nat → Int32) (nd : Nat) (ar : Nat → Nat) (lv : Nat) (of : Int32) (pl : Nat) : Int32 → Int32 × (Nat → Nat) × (Nat → Nat) × Nat × Nat → Prop := fun (r : Int32) (u : Int32 × (Nat → Nat) × (Nat → Nat) × Nat × Nat) => match u with | (of2, st2, ln2, xn, xa) => (lenS row (limN rs lv ar st ln) lv rs pl = .inr (xn, xa) ∧ r = nI 0 ∧ of2 = of ∧ st2 = va_up st nd xa ∧ ln2 = va_up ln nd xn) ∨ (lenS row (limN rs lv ar st ln) lv rs pl = .inl (r, of2) ∧ r ≠ 0 ∧ st2 = st ∧ ln2 = ln)
abbrev vX0_readLength (cA : ClassId) (r0 : Nat) (r1 : Nat) (r2 : Nat) (r3 : Nat) (r4 : Nat) (r5 : Nat) (r6 : Nat) (row : Nat → Nat) (rs : Nat) (tg : Nat → Nat) (st : Nat → Nat) (ln : Nat → Nat) (pa : Nat → Int32) (nd : Nat) (ar : Nat → Nat) (lv : Nat) (of : Int32) (pl : Nat) : Int32 × (Nat → Nat) × (Nat → Nat) × Nat × Nat → va_W := fun (u : Int32 × (Nat → Nat) × (Nat → Nat) × Nat × Nat) => match u with | (of2, st2, ln2, xn, xa) => wR cA r0 r1 r2 r3 r4 r5 r6 row rs tg st2 ln2 pa nd ar lv of2
abbrev qX0_readLength (dC : Nat → ClassId) (dI : Nat → Nat → Nat) (cA : ClassId) (A : Nat → Prop) (r0 : Nat) (r1 : Nat) (r2 : Nat) (r3 : Nat) (r4 : Nat) (r5 : Nat) (r6 : Nat) (row : Nat → Nat) (rs : Nat) (tg : Nat → Nat) (st : Nat → Nat) (ln : Nat → Nat) (pa : Nat → Int32) (nd : Nat) (ar : Nat → Nat) (lv : Nat) (of : Int32) (pl : Nat) : Array Value → State → Outcome → State → Prop := va_Qi (pX0_readLength r0 r1 r2 r3 r4 r5 r6 row rs tg st ln pa nd ar lv of pl) (fun u => cAft dC dI cA A (vX0_readLength cA r0 r1 r2 r3 r4 r5 r6 row rs tg st ln pa nd ar lv of pl u)) A
set_option maxHeartbeats 4000000 in
set_option maxRecDepth 100000 in
theorem k_X0_readLength (l : Launch) (dC : Nat → ClassId) (dI : Nat → Nat → Nat) (cA : ClassId) (r0 : Nat) (r1 : Nat) (r2 : Nat) (r3 : Nat) (r4 : Nat) (r5 : Nat) (r6 : Nat) (row : Nat → Nat) (rs : Nat) (tg : Nat → Nat) (st : Nat → Nat) (ln : Nat → Nat) (pa : Nat → Int32) (nd : Nat) (ar : Nat → Nat) (lv : Nat) (of : Int32) (pl : Nat) (sz : Nat) (hrow : ∀ j, row j < 256) (htg : ∀ j, tg j < 256) (hst : ∀ j, st j < 1000) (hln : ∀ j, ln j < 65536) (har : ∀ j, ar j < 64) (hnd : nd < 64) (hlv : lv ≤ 16) (hpl : pl ≤ 300) (hlim : limN rs lv ar st ln ≤ 300) : Met l yX0_readLength wsX0_readLength ({ frames := 2, cells := 0, slots := 0, locals := 43 } : Room) (va_Pc [.ref r0, .int (nI pl)] (cPre dC dI cA (wR cA r0 r1 r2 r3 r4 r5 r6 row rs tg st ln pa nd ar lv of) sz)) (qX0_readLength dC dI cA (va_A (wR cA r0 r1 r2 r3 r4 r5 r6 row rs tg st ln pa nd ar lv of) sz) r0 r1 r2 r3 r4 r5 r6 row rs tg st ln pa nd ar lv of pl) 0 0 (va_A (wR cA r0 r1 r2 r3 r4 r5 r6 row rs tg st ln pa nd ar lv of) sz) := by
  refine Met.ofW (cc := cX0_readLength) (maxL := 7) (ret := (some .int)) (by decide) rfl ?_
  intro p e s m args below meth c s₁ B hml hv
  obtain ⟨rfl, hsz, hP, hK, hD0⟩ := hv
  have hx := B.exec
  have hb := B.bytes
  have hr := B.returns
  have hts := atoms_spec (ws := wsX0_readLength) B.pre
  have hown : s.vm.findClass RX0 = some m.cls := findClass_of_methodNamed B.named
  have hlocks := B.notSynchronized
  subst hsz
  have hD := hD0.self (sz := s.heap.size)
  generalize hAe : va_A (wR cA r0 r1 r2 r3 r4 r5 r6 row rs tg st ln pa nd ar lv of) s.heap.size = A at hD ⊢
  have hA : ∀ q : Nat, s.heap.size ≤ q → A q := fun q h => by rw [← hAe]; exact Or.inr h
  have hS : va_S A s.heap s.heap [] := va_S.rf
  have hl := lv_entry ([.ref r0, .int (nI pl)]) (n := 7) (Nat.le_of_ble_eq_true rfl)
  rw [lg_entry_eq]
  generalize (lg_sl ([.ref r0, .int (nI pl)]) ++ List.replicate (7 - (lg_sl ([.ref r0, .int (nI pl)])).length) Slot.unset).toArray = ls at hl ⊢
  have hl : lv_has ls 7 [(0, .ref r0), (1, .int (nI pl))] := hl
  have hinX0 : ∀ w ∈ wsX00, w ∈ wsX0_readLength := fun _ h => List.mem_cons_of_mem _ (List.mem_append_right _ h)
  have hf_9 := hts (.fieldLink RX0 9 "DerDesk$Reader" "row" "[I") (by decide +kernel)
  have hf_22 := hts (.fieldLink RX0 22 "DerDesk$Reader" "starts" "[I") (by decide +kernel)
  have hf_25 := hts (.fieldLink RX0 25 "DerDesk$Reader" "lengths" "[I") (by decide +kernel)
  have hf_31 := hts (.fieldLink RX0 31 "DerDesk$Reader" "nodes" "I") (by decide +kernel)
  have hP : va_P (dC, dI) vwCl (wR cA r0 r1 r2 r3 r4 r5 r6 row rs tg st ln pa nd ar lv of) s.heap := hP
  refine lv_iload_n hx hb dX0_readLength_0 rfl (lv_at hl 1 rfl) ?_
  refine lv_iconst (v := nI 1) hx hb dX0_readLength_1 (by decide) ?_
  refine hl_iadd hx hb dX0_readLength_2 ?_
  refine lv_istore_n (lv' := [(2, .int (nI (pl + 1))), (0, .ref r0), (1, .int (nI pl))]) hx hb dX0_readLength_3 rfl hl (by decide) rfl (fun ls hl => ?_)
  refine lv_aload_n hx hb dX0_readLength_4 rfl (lv_at hl 1 rfl) ?_
  refine cl_Vi (As := []) (rest := []) (wr := []) ⟨hx, hb, hml, hown, hts⟩ (k_X0_limitHere l dC dI cA r0 r1 r2 r3 r4 r5 r6 row rs tg st ln pa nd ar lv of _ (by omega) (fun j _ => har j)) (cwV 0 hts gX0_readLength_X0_limitHere rfl rfl rfl (by decide +kernel) ⟨Nat.le_of_ble_eq_true rfl, Nat.le_of_ble_eq_true rfl⟩) hK hP hD hS hA [0, 1, 2, 3, 4, 5, 6] [] rfl rfl (by decide) (by decide) (by decide) (ci := 0) (q0 := 0) rfl rfl rfl rfl hl.1 rfl (Nat.le_of_ble_eq_true rfl) dX0_readLength_5 ⟨Nat.le_of_ble_eq_true rfl, Nat.le_of_ble_eq_true rfl⟩ (fun r_1 u_1 H locs hw_1 hP hD hS => ?_)
  have hP : va_P (dC, dI) vwCl (wR cA r0 r1 r2 r3 r4 r5 r6 row rs tg st ln pa nd ar lv of) H := hP
  have hD : va_D A (wR cA r0 r1 r2 r3 r4 r5 r6 row rs tg st ln pa nd ar lv of) := hD
  have hw_1 : r_1 = nI (limN rs lv ar st ln) := hw_1
  have hw_1 := hw_1.symm
  subst hw_1
  refine lv_istore_n (lv' := [(3, .int (nI (limN rs lv ar st ln))), (2, .int (nI (pl + 1))), (0, .ref r0), (1, .int (nI pl))]) hx hb dX0_readLength_8 rfl hl (by decide) rfl (fun ls hl => ?_)
  refine lv_iload_n hx hb dX0_readLength_9 rfl (lv_at hl 1 rfl) ?_
  refine lv_iload_n hx hb dX0_readLength_10 rfl (lv_at hl 0 rfl) ?_
  refine hl_icmp_lt (tgt := 20) hx hb dX0_readLength_11 (by decide) (by omega) (by omega) (fun c_2 => ?_) (fun c_2 => ?_)
  · refine lv_aload_n hx hb dX0_readLength_20 rfl (lv_at hl 2 rfl) ?_
    refine va_get (D := (dC, dI)) (ci := 0) (v := .ref r1) (C := RX0) (T := TX0) (N := 10) hx hb hts hinX0 hown hK hP 0 rfl rfl 0 (by decide) hf_9 (fun _ h9 => h9) rfl dX0_readLength_21 ?_
    refine lv_iload_n hx hb dX0_readLength_24 rfl (lv_at hl 1 rfl) ?_
    refine hl_iald hx hb hK hP 1 0 rfl rfl (by omega) (by decide) dX0_readLength_25 ?_
    have hv_3 := hrow (pl + 1)
    refine lv_istore (lv' := [(4, .int (nI (row (pl + 1)))), (3, .int (nI (limN rs lv ar st ln))), (2, .int (nI (pl + 1))), (0, .ref r0), (1, .int (nI pl))]) hx hb dX0_readLength_26 hl (by decide) rfl (fun ls hl => ?_)
    refine lv_iload hx hb dX0_readLength_28 (lv_at hl 0 rfl) ?_
    refine lv_sipush (v := nI 128) hx hb dX0_readLength_30 (by decide) ?_
    refine hl_icmp_eq (tgt := 44) hx hb dX0_readLength_33 (by decide) (by omega) (by omega) (fun c_4 => ?_) (fun c_4 => ?_)
    · refine lv_aload_n hx hb dX0_readLength_44 rfl (lv_at hl 3 rfl) ?_
      refine lv_bipush (v := (-3)) hx hb dX0_readLength_45 (by decide) ?_
      refine lv_iload_n hx hb dX0_readLength_47 rfl (lv_at hl 2 rfl) ?_
      refine cl_Vi (As := [.int (-3), .int (nI (pl + 1))]) (rest := []) (wr := []) ⟨hx, hb, hml, hown, hts⟩ (k_X0_offend l dC dI cA r0 r1 r2 r3 r4 r5 r6 row rs tg st ln pa nd ar lv of (-3) (nI (pl + 1)) _ ) (cwV 2 hts gX0_readLength_X0_offend rfl rfl rfl (by decide +kernel) ⟨Nat.le_of_ble_eq_true rfl, Nat.le_of_ble_eq_true rfl⟩) hK hP hD hS hA [0, 1, 2, 3, 4, 5, 6] [] rfl rfl (by decide) (by decide) (by decide) (ci := 0) (q0 := 0) rfl rfl rfl rfl hl.1 rfl (Nat.le_of_ble_eq_true rfl) dX0_readLength_48 ⟨Nat.le_of_ble_eq_true rfl, Nat.le_of_ble_eq_true rfl⟩ (fun r_5 u_5 H locs hw_5 hP hD hS => ?_)
      obtain ⟨of2_5, eu_5⟩ : ∃ z, z = u_5 := ⟨_, rfl⟩
      subst eu_5
      have hP : va_P (dC, dI) vwCl (wR cA r0 r1 r2 r3 r4 r5 r6 row rs tg st ln pa nd ar lv of2_5) H := hP
      have hD : va_D A (wR cA r0 r1 r2 r3 r4 r5 r6 row rs tg st ln pa nd ar lv of2_5) := hD
      have hw_5 : r_5 = (-3) ∧ of2_5 = (nI (pl + 1)) := hw_5
      obtain ⟨e0_5, e1_5⟩ := hw_5
      have e0_5 := e0_5.symm
      subst e0_5
      have e1_5 := e1_5.symm
      subst e1_5
      have hP9 : va_P (dC, dI) vwCl (vX0_readLength cA r0 r1 r2 r3 r4 r5 r6 row rs tg st ln pa nd ar lv of pl ((nI (pl + 1)), st, ln, 0, 0)) _ := hP
      have hD9 : va_D A (vX0_readLength cA r0 r1 r2 r3 r4 r5 r6 row rs tg st ln pa nd ar lv of pl ((nI (pl + 1)), st, ln, 0, 0)) := hD
      have hq9 : pX0_readLength r0 r1 r2 r3 r4 r5 r6 row rs tg st ln pa nd ar lv of pl ((-3)) ((nI (pl + 1)), st, ln, 0, 0) := Or.inr ⟨by unfold lenS; rw [if_neg (by omega), if_pos (by omega)], by decide, rfl, rfl⟩
      exact W.iret (v := (-3)) hx hb hr (fun t ht hW => ⟨⟨(-3), ((nI (pl + 1)), st, ln, 0, 0), rfl, hq9, by rw [ht]; exact hP9, va_K.moved hW.alike hK, hD9⟩, hS.F ht⟩) hS.2.2 dX0_readLength_51
    · refine lv_iload hx hb dX0_readLength_36 (lv_at hl 0 rfl) ?_
      refine lv_sipush (v := nI 130) hx hb dX0_readLength_38 (by decide) ?_
      refine hl_icmp_le (tgt := 52) hx hb dX0_readLength_41 (by decide) (by omega) (by omega) (fun c_6 => ?_) (fun c_6 => ?_)
      · refine lv_iload hx hb dX0_readLength_52 (lv_at hl 0 rfl) ?_
        refine lv_sipush (v := nI 128) hx hb dX0_readLength_54 (by decide) ?_
        refine hl_icmp_ge (tgt := 64) hx hb dX0_readLength_57 (by decide) (by omega) (by omega) (fun c_7 => ?_) (fun c_7 => ?_)
        · refine lv_iload hx hb dX0_readLength_64 (lv_at hl 0 rfl) ?_
          refine lv_sipush (v := nI 128) hx hb dX0_readLength_66 (by decide) ?_
          refine hl_isub hx hb (by omega) dX0_readLength_69 ?_
          refine lv_istore (lv' := [(5, .int (nI ((row (pl + 1)) - 128))), (4, .int (nI (row (pl + 1)))), (3, .int (nI (limN rs lv ar st ln))), (2, .int (nI (pl + 1))), (0, .ref r0), (1, .int (nI pl))]) hx hb dX0_readLength_70 hl (by decide) rfl (fun ls hl => ?_)
          refine lv_iload_n hx hb dX0_readLength_72 rfl (lv_at hl 3 rfl) ?_
          refine lv_iload hx hb dX0_readLength_73 (lv_at hl 0 rfl) ?_
          refine hl_iadd hx hb dX0_readLength_75 ?_
          refine lv_iload_n hx hb dX0_readLength_76 rfl (lv_at hl 2 rfl) ?_
          refine hl_icmp_lt (tgt := 86) hx hb dX0_readLength_77 (by decide) (by omega) (by omega) (fun c_8 => ?_) (fun c_8 => ?_)
          · refine lv_iload hx hb dX0_readLength_86 (lv_at hl 0 rfl) ?_
            refine hl_if_ne (tgt := 96) hx hb dX0_readLength_88 (by decide) (by omega) (fun c_9 => ?_) (fun c_9 => absurd c_9 (by omega))
            refine lv_aload_n hx hb dX0_readLength_96 rfl (lv_at hl 4 rfl) ?_
            refine lv_iload_n hx hb dX0_readLength_97 rfl (lv_at hl 3 rfl) ?_
            refine lv_iconst (v := nI 1) hx hb dX0_readLength_98 (by decide) ?_
            refine hl_iadd hx hb dX0_readLength_99 ?_
            refine lv_iload hx hb dX0_readLength_100 (lv_at hl 0 rfl) ?_
            refine cl_Vi (As := [.int (nI ((pl + 1) + 1)), .int (nI ((row (pl + 1)) - 128))]) (rest := []) (wr := []) ⟨hx, hb, hml, hown, hts⟩ (k_X0_numberAt l dC dI cA r0 r1 r2 r3 r4 r5 r6 row rs tg st ln pa nd ar lv of ((pl + 1) + 1) ((row (pl + 1)) - 128) _ hrow (by omega) (by omega)) (cwV 2 hts gX0_readLength_X0_numberAt rfl rfl rfl (by decide +kernel) ⟨Nat.le_of_ble_eq_true rfl, Nat.le_of_ble_eq_true rfl⟩) hK hP hD hS hA [0, 1, 2, 3, 4, 5, 6] [] rfl rfl (by decide) (by decide) (by decide) (ci := 0) (q0 := 0) rfl rfl rfl rfl hl.1 rfl (Nat.le_of_ble_eq_true rfl) dX0_readLength_102 ⟨Nat.le_of_ble_eq_true rfl, Nat.le_of_ble_eq_true rfl⟩ (fun r_10 u_10 H locs hw_10 hP hD hS => ?_)
            have hP : va_P (dC, dI) vwCl (wR cA r0 r1 r2 r3 r4 r5 r6 row rs tg st ln pa nd ar lv of) H := hP
            have hD : va_D A (wR cA r0 r1 r2 r3 r4 r5 r6 row rs tg st ln pa nd ar lv of) := hD
            have hw_10 : r_10 = nI (numN row ((pl + 1) + 1) ((row (pl + 1)) - 128)) := hw_10
            have hw_10 := hw_10.symm
            subst hw_10
            have hn16 := num16 hrow (p := ((pl + 1) + 1)) (k := ((row (pl + 1)) - 128)) (by omega)
            refine lv_istore (lv' := [(6, .int (nI (numN row ((pl + 1) + 1) ((row (pl + 1)) - 128)))), (5, .int (nI ((row (pl + 1)) - 128))), (4, .int (nI (row (pl + 1)))), (3, .int (nI (limN rs lv ar st ln))), (2, .int (nI (pl + 1))), (0, .ref r0), (1, .int (nI pl))]) hx hb dX0_readLength_105 hl (by decide) rfl (fun ls hl => ?_)
            refine lv_iload hx hb dX0_readLength_107 (lv_at hl 0 rfl) ?_
            refine cl_Si (As := [.int (nI (numN row ((pl + 1) + 1) ((row (pl + 1)) - 128)))]) (rest := []) (wr := [(r0, .inr (0, [.ref r1, .int (nI rs), .ref r2, .ref r3, .ref r4, .ref r5, .int (nI nd), .ref r6, .int (nI lv), .int of])), (r1, .inl (cA, 300, .inl (nA row))), (r2, .inl (cA, 64, .inl (nA tg))), (r3, .inl (cA, 64, .inl (nA st))), (r4, .inl (cA, 64, .inl (nA ln))), (r5, .inl (cA, 64, .inl (pa))), (r6, .inl (cA, 16, .inl (nA ar)))]) ⟨hx, hb, hml, hown, hts⟩ (k_X1_lengthSize l dC dI cA (numN row ((pl + 1) + 1) ((row (pl + 1)) - 128)) _ (by omega)) (va_cwS 1 hts gX0_readLength_X1_lengthSize rfl rfl rfl (by decide +kernel) ⟨Nat.le_of_ble_eq_true rfl, Nat.le_of_ble_eq_true rfl⟩) hK hP hD hS hA [] [0, 1, 2, 3, 4, 5, 6] rfl rfl (by decide) (by decide) (by decide) rfl hl.1 rfl (Nat.le_of_ble_eq_true rfl) dX0_readLength_109 ⟨Nat.le_of_ble_eq_true rfl, Nat.le_of_ble_eq_true rfl⟩ (fun r_11 u_11 H locs hw_11 hP hD hS => ?_)
            have hP : va_P (dC, dI) vwCl (wR cA r0 r1 r2 r3 r4 r5 r6 row rs tg st ln pa nd ar lv of) H := hP
            have hD : va_D A (wR cA r0 r1 r2 r3 r4 r5 r6 row rs tg st ln pa nd ar lv of) := hD
            have hw_11 : r_11 = nI (lenSz (numN row ((pl + 1) + 1) ((row (pl + 1)) - 128))) := hw_11
            have hw_11 := hw_11.symm
            subst hw_11
            have hz_11 := lenSz_le (numN row ((pl + 1) + 1) ((row (pl + 1)) - 128))
            refine lv_iconst (v := nI 1) hx hb dX0_readLength_112 (by decide) ?_
            refine lv_iload hx hb dX0_readLength_113 (lv_at hl 1 rfl) ?_
            refine hl_iadd hx hb dX0_readLength_115 ?_
            refine hl_icmp_eq (tgt := 127) hx hb dX0_readLength_116 (by decide) (by omega) (by omega) (fun c_12 => ?_) (fun c_12 => ?_)
            · refine lv_aload_n hx hb dX0_readLength_127 rfl (lv_at hl 5 rfl) ?_
              refine va_get (D := (dC, dI)) (ci := 0) (v := .ref r3) (C := RX0) (T := TX0) (N := 10) hx hb hts hinX0 hown hK hP 0 rfl rfl 3 (by decide) hf_22 (fun _ h9 => h9) rfl dX0_readLength_128 ?_
              refine lv_aload_n hx hb dX0_readLength_131 rfl (lv_at hl 5 rfl) ?_
              refine va_get (D := (dC, dI)) (ci := 0) (v := .int (nI nd)) (C := RX0) (T := TX0) (N := 10) hx hb hts hinX0 hown hK hP 0 rfl rfl 6 (by decide) hf_31 (fun _ h9 => h9) rfl dX0_readLength_132 ?_
              refine lv_iload_n hx hb dX0_readLength_135 rfl (lv_at hl 4 rfl) ?_
              refine lv_iload hx hb dX0_readLength_136 (lv_at hl 1 rfl) ?_
              refine hl_iadd hx hb dX0_readLength_138 ?_
              refine lv_iconst (v := nI 1) hx hb dX0_readLength_139 (by decide) ?_
              refine hl_iadd hx hb dX0_readLength_140 ?_
              refine hl_iast hx hb hK hP hD hS 3 0 rfl rfl (by omega) (by decide) dX0_readLength_141 (fun H locs hP hD hS => ?_)
              have hP : va_P (dC, dI) vwCl (wR cA r0 r1 r2 r3 r4 r5 r6 row rs tg (va_up st nd (((pl + 1) + ((row (pl + 1)) - 128)) + 1)) ln pa nd ar lv of) H := hP
              have hD : va_D A (wR cA r0 r1 r2 r3 r4 r5 r6 row rs tg (va_up st nd (((pl + 1) + ((row (pl + 1)) - 128)) + 1)) ln pa nd ar lv of) := hD
              have hB_13 := up_lt hst (k := nd) (x := (((pl + 1) + ((row (pl + 1)) - 128)) + 1)) (by omega)
              refine lv_aload_n hx hb dX0_readLength_142 rfl (lv_at hl 5 rfl) ?_
              refine va_get (D := (dC, dI)) (ci := 0) (v := .ref r4) (C := RX0) (T := TX0) (N := 10) hx hb hts hinX0 hown hK hP 0 rfl rfl 4 (by decide) hf_25 (fun _ h9 => h9) rfl dX0_readLength_143 ?_
              refine lv_aload_n hx hb dX0_readLength_146 rfl (lv_at hl 5 rfl) ?_
              refine va_get (D := (dC, dI)) (ci := 0) (v := .int (nI nd)) (C := RX0) (T := TX0) (N := 10) hx hb hts hinX0 hown hK hP 0 rfl rfl 6 (by decide) hf_31 (fun _ h9 => h9) rfl dX0_readLength_147 ?_
              refine lv_iload hx hb dX0_readLength_150 (lv_at hl 0 rfl) ?_
              refine hl_iast hx hb hK hP hD hS 4 0 rfl rfl (by omega) (by decide) dX0_readLength_152 (fun H locs hP hD hS => ?_)
              have hP : va_P (dC, dI) vwCl (wR cA r0 r1 r2 r3 r4 r5 r6 row rs tg (va_up st nd (((pl + 1) + ((row (pl + 1)) - 128)) + 1)) (va_up ln nd (numN row ((pl + 1) + 1) ((row (pl + 1)) - 128))) pa nd ar lv of) H := hP
              have hD : va_D A (wR cA r0 r1 r2 r3 r4 r5 r6 row rs tg (va_up st nd (((pl + 1) + ((row (pl + 1)) - 128)) + 1)) (va_up ln nd (numN row ((pl + 1) + 1) ((row (pl + 1)) - 128))) pa nd ar lv of) := hD
              have hB_14 := up_lt hln (k := nd) (x := (numN row ((pl + 1) + 1) ((row (pl + 1)) - 128))) (by omega)
              refine lv_iconst (v := nI 0) hx hb dX0_readLength_153 (by decide) ?_
              have hP9 : va_P (dC, dI) vwCl (vX0_readLength cA r0 r1 r2 r3 r4 r5 r6 row rs tg st ln pa nd ar lv of pl (of, va_up st nd (((pl + 1) + ((row (pl + 1)) - 128)) + 1), va_up ln nd (numN row ((pl + 1) + 1) ((row (pl + 1)) - 128)), (numN row ((pl + 1) + 1) ((row (pl + 1)) - 128)), (((pl + 1) + ((row (pl + 1)) - 128)) + 1))) _ := hP
              have hD9 : va_D A (vX0_readLength cA r0 r1 r2 r3 r4 r5 r6 row rs tg st ln pa nd ar lv of pl (of, va_up st nd (((pl + 1) + ((row (pl + 1)) - 128)) + 1), va_up ln nd (numN row ((pl + 1) + 1) ((row (pl + 1)) - 128)), (numN row ((pl + 1) + 1) ((row (pl + 1)) - 128)), (((pl + 1) + ((row (pl + 1)) - 128)) + 1))) := hD
              have hq9 : pX0_readLength r0 r1 r2 r3 r4 r5 r6 row rs tg st ln pa nd ar lv of pl (nI 0) (of, va_up st nd (((pl + 1) + ((row (pl + 1)) - 128)) + 1), va_up ln nd (numN row ((pl + 1) + 1) ((row (pl + 1)) - 128)), (numN row ((pl + 1) + 1) ((row (pl + 1)) - 128)), (((pl + 1) + ((row (pl + 1)) - 128)) + 1)) := Or.inl ⟨by unfold lenS; rw [if_neg (by omega), if_neg (by omega), if_neg (by omega), if_neg (by omega), if_neg (fun h => h (by assumption))], rfl, rfl, rfl, rfl⟩
              exact W.iret (v := nI 0) hx hb hr (fun t ht hW => ⟨⟨nI 0, (of, va_up st nd (((pl + 1) + ((row (pl + 1)) - 128)) + 1), va_up ln nd (numN row ((pl + 1) + 1) ((row (pl + 1)) - 128)), (numN row ((pl + 1) + 1) ((row (pl + 1)) - 128)), (((pl + 1) + ((row (pl + 1)) - 128)) + 1)), rfl, hq9, by rw [ht]; exact hP9, va_K.moved hW.alike hK, hD9⟩, hS.F ht⟩) hS.2.2 dX0_readLength_154
            · refine lv_aload_n hx hb dX0_readLength_119 rfl (lv_at hl 5 rfl) ?_
              refine lv_bipush (v := (-3)) hx hb dX0_readLength_120 (by decide) ?_
              refine lv_iload_n hx hb dX0_readLength_122 rfl (lv_at hl 4 rfl) ?_
              refine cl_Vi (As := [.int (-3), .int (nI (pl + 1))]) (rest := []) (wr := []) ⟨hx, hb, hml, hown, hts⟩ (k_X0_offend l dC dI cA r0 r1 r2 r3 r4 r5 r6 row rs tg st ln pa nd ar lv of (-3) (nI (pl + 1)) _ ) (cwV 2 hts gX0_readLength_X0_offend rfl rfl rfl (by decide +kernel) ⟨Nat.le_of_ble_eq_true rfl, Nat.le_of_ble_eq_true rfl⟩) hK hP hD hS hA [0, 1, 2, 3, 4, 5, 6] [] rfl rfl (by decide) (by decide) (by decide) (ci := 0) (q0 := 0) rfl rfl rfl rfl hl.1 rfl (Nat.le_of_ble_eq_true rfl) dX0_readLength_123 ⟨Nat.le_of_ble_eq_true rfl, Nat.le_of_ble_eq_true rfl⟩ (fun r_15 u_15 H locs hw_15 hP hD hS => ?_)
              obtain ⟨of2_15, eu_15⟩ : ∃ z, z = u_15 := ⟨_, rfl⟩
              subst eu_15
              have hP : va_P (dC, dI) vwCl (wR cA r0 r1 r2 r3 r4 r5 r6 row rs tg st ln pa nd ar lv of2_15) H := hP
              have hD : va_D A (wR cA r0 r1 r2 r3 r4 r5 r6 row rs tg st ln pa nd ar lv of2_15) := hD
              have hw_15 : r_15 = (-3) ∧ of2_15 = (nI (pl + 1)) := hw_15
              obtain ⟨e0_15, e1_15⟩ := hw_15
              have e0_15 := e0_15.symm
              subst e0_15
              have e1_15 := e1_15.symm
              subst e1_15
              have hP9 : va_P (dC, dI) vwCl (vX0_readLength cA r0 r1 r2 r3 r4 r5 r6 row rs tg st ln pa nd ar lv of pl ((nI (pl + 1)), st, ln, 0, 0)) _ := hP
              have hD9 : va_D A (vX0_readLength cA r0 r1 r2 r3 r4 r5 r6 row rs tg st ln pa nd ar lv of pl ((nI (pl + 1)), st, ln, 0, 0)) := hD
              have hq9 : pX0_readLength r0 r1 r2 r3 r4 r5 r6 row rs tg st ln pa nd ar lv of pl ((-3)) ((nI (pl + 1)), st, ln, 0, 0) := Or.inr ⟨by unfold lenS; rw [if_neg (by omega), if_neg (by omega), if_neg (by omega), if_neg (by omega), if_pos (by assumption)], by decide, rfl, rfl⟩
              exact W.iret (v := (-3)) hx hb hr (fun t ht hW => ⟨⟨(-3), ((nI (pl + 1)), st, ln, 0, 0), rfl, hq9, by rw [ht]; exact hP9, va_K.moved hW.alike hK, hD9⟩, hS.F ht⟩) hS.2.2 dX0_readLength_126
          · refine lv_aload_n hx hb dX0_readLength_80 rfl (lv_at hl 4 rfl) ?_
            refine lv_iload_n hx hb dX0_readLength_81 rfl (lv_at hl 5 rfl) ?_
            refine cl_Vi (As := [.int (nI pl)]) (rest := []) (wr := []) ⟨hx, hb, hml, hown, hts⟩ (k_X0_offendByCutLength l dC dI cA r0 r1 r2 r3 r4 r5 r6 row rs tg st ln pa nd ar lv of pl _ (by omega)) (cwV 1 hts gX0_readLength_X0_offendByCutLength rfl rfl rfl (by decide +kernel) ⟨Nat.le_of_ble_eq_true rfl, Nat.le_of_ble_eq_true rfl⟩) hK hP hD hS hA [0, 1, 2, 3, 4, 5, 6] [] rfl rfl (by decide) (by decide) (by decide) (ci := 0) (q0 := 0) rfl rfl rfl rfl hl.1 rfl (Nat.le_of_ble_eq_true rfl) dX0_readLength_82 ⟨Nat.le_of_ble_eq_true rfl, Nat.le_of_ble_eq_true rfl⟩ (fun r_16 u_16 H locs hw_16 hP hD hS => ?_)
            obtain ⟨of2_16, eu_16⟩ : ∃ z, z = u_16 := ⟨_, rfl⟩
            subst eu_16
            have hP : va_P (dC, dI) vwCl (wR cA r0 r1 r2 r3 r4 r5 r6 row rs tg st ln pa nd ar lv of2_16) H := hP
            have hD : va_D A (wR cA r0 r1 r2 r3 r4 r5 r6 row rs tg st ln pa nd ar lv of2_16) := hD
            have hw_16 : (r_16, of2_16) = cutE lv rs pl := hw_16
            have hcut := hw_16
            have hP9 : va_P (dC, dI) vwCl (vX0_readLength cA r0 r1 r2 r3 r4 r5 r6 row rs tg st ln pa nd ar lv of pl (of2_16, st, ln, 0, 0)) _ := hP
            have hD9 : va_D A (vX0_readLength cA r0 r1 r2 r3 r4 r5 r6 row rs tg st ln pa nd ar lv of pl (of2_16, st, ln, 0, 0)) := hD
            have hq9 : pX0_readLength r0 r1 r2 r3 r4 r5 r6 row rs tg st ln pa nd ar lv of pl (r_16) (of2_16, st, ln, 0, 0) := Or.inr ⟨by unfold lenS; rw [if_neg (by omega), if_neg (by omega), if_neg (by omega), if_pos (by omega)]; exact congrArg _ hcut.symm, cutE_ne hcut, rfl, rfl⟩
            exact W.iret (v := r_16) hx hb hr (fun t ht hW => ⟨⟨r_16, (of2_16, st, ln, 0, 0), rfl, hq9, by rw [ht]; exact hP9, va_K.moved hW.alike hK, hD9⟩, hS.F ht⟩) hS.2.2 dX0_readLength_85
        · refine lv_iconst (v := nI 0) hx hb dX0_readLength_60 (by decide) ?_
          refine lv_goto (tgt := 70) hx hb dX0_readLength_61 (by decide) ?_
          refine lv_istore (lv' := [(5, .int (nI 0)), (4, .int (nI (row (pl + 1)))), (3, .int (nI (limN rs lv ar st ln))), (2, .int (nI (pl + 1))), (0, .ref r0), (1, .int (nI pl))]) hx hb dX0_readLength_70 hl (by decide) rfl (fun ls hl => ?_)
          refine lv_iload_n hx hb dX0_readLength_72 rfl (lv_at hl 3 rfl) ?_
          refine lv_iload hx hb dX0_readLength_73 (lv_at hl 0 rfl) ?_
          refine hl_iadd hx hb dX0_readLength_75 ?_
          refine lv_iload_n hx hb dX0_readLength_76 rfl (lv_at hl 2 rfl) ?_
          refine hl_icmp_lt (tgt := 86) hx hb dX0_readLength_77 (by decide) (by omega) (by omega) (fun c_17 => ?_) (fun c_17 => absurd (by omega) c_17)
          refine lv_iload hx hb dX0_readLength_86 (lv_at hl 0 rfl) ?_
          refine hl_if_ne (tgt := 96) hx hb dX0_readLength_88 (by decide) (by omega) (fun c_18 => absurd rfl c_18) (fun c_18 => ?_)
          refine lv_iload hx hb dX0_readLength_91 (lv_at hl 1 rfl) ?_
          refine lv_goto (tgt := 105) hx hb dX0_readLength_93 (by decide) ?_
          refine lv_istore (lv' := [(6, .int (nI (row (pl + 1)))), (5, .int (nI 0)), (4, .int (nI (row (pl + 1)))), (3, .int (nI (limN rs lv ar st ln))), (2, .int (nI (pl + 1))), (0, .ref r0), (1, .int (nI pl))]) hx hb dX0_readLength_105 hl (by decide) rfl (fun ls hl => ?_)
          refine lv_iload hx hb dX0_readLength_107 (lv_at hl 0 rfl) ?_
          refine cl_Si (As := [.int (nI (row (pl + 1)))]) (rest := []) (wr := [(r0, .inr (0, [.ref r1, .int (nI rs), .ref r2, .ref r3, .ref r4, .ref r5, .int (nI nd), .ref r6, .int (nI lv), .int of])), (r1, .inl (cA, 300, .inl (nA row))), (r2, .inl (cA, 64, .inl (nA tg))), (r3, .inl (cA, 64, .inl (nA st))), (r4, .inl (cA, 64, .inl (nA ln))), (r5, .inl (cA, 64, .inl (pa))), (r6, .inl (cA, 16, .inl (nA ar)))]) ⟨hx, hb, hml, hown, hts⟩ (k_X1_lengthSize l dC dI cA (row (pl + 1)) _ (by omega)) (va_cwS 1 hts gX0_readLength_X1_lengthSize rfl rfl rfl (by decide +kernel) ⟨Nat.le_of_ble_eq_true rfl, Nat.le_of_ble_eq_true rfl⟩) hK hP hD hS hA [] [0, 1, 2, 3, 4, 5, 6] rfl rfl (by decide) (by decide) (by decide) rfl hl.1 rfl (Nat.le_of_ble_eq_true rfl) dX0_readLength_109 ⟨Nat.le_of_ble_eq_true rfl, Nat.le_of_ble_eq_true rfl⟩ (fun r_19 u_19 H locs hw_19 hP hD hS => ?_)
          have hP : va_P (dC, dI) vwCl (wR cA r0 r1 r2 r3 r4 r5 r6 row rs tg st ln pa nd ar lv of) H := hP
          have hD : va_D A (wR cA r0 r1 r2 r3 r4 r5 r6 row rs tg st ln pa nd ar lv of) := hD
          have hw_19 : r_19 = nI (lenSz (row (pl + 1))) := hw_19
          have hw_19 := hw_19.symm
          subst hw_19
          have hz_19 := lenSz_le (row (pl + 1))
          refine lv_iconst (v := nI 1) hx hb dX0_readLength_112 (by decide) ?_
          refine lv_iload hx hb dX0_readLength_113 (lv_at hl 1 rfl) ?_
          refine lv_iadd hx hb dX0_readLength_115 ?_
          refine hl_top (show _ = nI 1 by decide) ?_
          refine hl_icmp_eq (tgt := 127) hx hb dX0_readLength_116 (by decide) (by omega) (by omega) (fun c_20 => ?_) (fun c_20 => absurd (by unfold lenSz; rw [if_pos (by omega)]) c_20)
          refine lv_aload_n hx hb dX0_readLength_127 rfl (lv_at hl 5 rfl) ?_
          refine va_get (D := (dC, dI)) (ci := 0) (v := .ref r3) (C := RX0) (T := TX0) (N := 10) hx hb hts hinX0 hown hK hP 0 rfl rfl 3 (by decide) hf_22 (fun _ h9 => h9) rfl dX0_readLength_128 ?_
          refine lv_aload_n hx hb dX0_readLength_131 rfl (lv_at hl 5 rfl) ?_
          refine va_get (D := (dC, dI)) (ci := 0) (v := .int (nI nd)) (C := RX0) (T := TX0) (N := 10) hx hb hts hinX0 hown hK hP 0 rfl rfl 6 (by decide) hf_31 (fun _ h9 => h9) rfl dX0_readLength_132 ?_
          refine lv_iload_n hx hb dX0_readLength_135 rfl (lv_at hl 4 rfl) ?_
          refine lv_iload hx hb dX0_readLength_136 (lv_at hl 1 rfl) ?_
          refine hl_iadd hx hb dX0_readLength_138 ?_
          refine lv_iconst (v := nI 1) hx hb dX0_readLength_139 (by decide) ?_
          refine hl_iadd hx hb dX0_readLength_140 ?_
          refine hl_iast hx hb hK hP hD hS 3 0 rfl rfl (by omega) (by decide) dX0_readLength_141 (fun H locs hP hD hS => ?_)
          have hP : va_P (dC, dI) vwCl (wR cA r0 r1 r2 r3 r4 r5 r6 row rs tg (va_up st nd (((pl + 1) + 0) + 1)) ln pa nd ar lv of) H := hP
          have hD : va_D A (wR cA r0 r1 r2 r3 r4 r5 r6 row rs tg (va_up st nd (((pl + 1) + 0) + 1)) ln pa nd ar lv of) := hD
          have hB_21 := up_lt hst (k := nd) (x := (((pl + 1) + 0) + 1)) (by omega)
          refine lv_aload_n hx hb dX0_readLength_142 rfl (lv_at hl 5 rfl) ?_
          refine va_get (D := (dC, dI)) (ci := 0) (v := .ref r4) (C := RX0) (T := TX0) (N := 10) hx hb hts hinX0 hown hK hP 0 rfl rfl 4 (by decide) hf_25 (fun _ h9 => h9) rfl dX0_readLength_143 ?_
          refine lv_aload_n hx hb dX0_readLength_146 rfl (lv_at hl 5 rfl) ?_
          refine va_get (D := (dC, dI)) (ci := 0) (v := .int (nI nd)) (C := RX0) (T := TX0) (N := 10) hx hb hts hinX0 hown hK hP 0 rfl rfl 6 (by decide) hf_31 (fun _ h9 => h9) rfl dX0_readLength_147 ?_
          refine lv_iload hx hb dX0_readLength_150 (lv_at hl 0 rfl) ?_
          refine hl_iast hx hb hK hP hD hS 4 0 rfl rfl (by omega) (by decide) dX0_readLength_152 (fun H locs hP hD hS => ?_)
          have hP : va_P (dC, dI) vwCl (wR cA r0 r1 r2 r3 r4 r5 r6 row rs tg (va_up st nd (((pl + 1) + 0) + 1)) (va_up ln nd (row (pl + 1))) pa nd ar lv of) H := hP
          have hD : va_D A (wR cA r0 r1 r2 r3 r4 r5 r6 row rs tg (va_up st nd (((pl + 1) + 0) + 1)) (va_up ln nd (row (pl + 1))) pa nd ar lv of) := hD
          have hB_22 := up_lt hln (k := nd) (x := (row (pl + 1))) (by omega)
          refine lv_iconst (v := nI 0) hx hb dX0_readLength_153 (by decide) ?_
          have hP9 : va_P (dC, dI) vwCl (vX0_readLength cA r0 r1 r2 r3 r4 r5 r6 row rs tg st ln pa nd ar lv of pl (of, va_up st nd (((pl + 1) + 0) + 1), va_up ln nd (row (pl + 1)), (row (pl + 1)), (((pl + 1) + 0) + 1))) _ := hP
          have hD9 : va_D A (vX0_readLength cA r0 r1 r2 r3 r4 r5 r6 row rs tg st ln pa nd ar lv of pl (of, va_up st nd (((pl + 1) + 0) + 1), va_up ln nd (row (pl + 1)), (row (pl + 1)), (((pl + 1) + 0) + 1))) := hD
          have hq9 : pX0_readLength r0 r1 r2 r3 r4 r5 r6 row rs tg st ln pa nd ar lv of pl (nI 0) (of, va_up st nd (((pl + 1) + 0) + 1), va_up ln nd (row (pl + 1)), (row (pl + 1)), (((pl + 1) + 0) + 1)) := Or.inl ⟨by unfold lenS; rw [if_neg (by omega), if_neg (by omega), if_pos (by omega)], rfl, rfl, rfl, rfl⟩
          exact W.iret (v := nI 0) hx hb hr (fun t ht hW => ⟨⟨nI 0, (of, va_up st nd (((pl + 1) + 0) + 1), va_up ln nd (row (pl + 1)), (row (pl + 1)), (((pl + 1) + 0) + 1)), rfl, hq9, by rw [ht]; exact hP9, va_K.moved hW.alike hK, hD9⟩, hS.F ht⟩) hS.2.2 dX0_readLength_154
      · refine lv_aload_n hx hb dX0_readLength_44 rfl (lv_at hl 3 rfl) ?_
        refine lv_bipush (v := (-3)) hx hb dX0_readLength_45 (by decide) ?_
        refine lv_iload_n hx hb dX0_readLength_47 rfl (lv_at hl 2 rfl) ?_
        refine cl_Vi (As := [.int (-3), .int (nI (pl + 1))]) (rest := []) (wr := []) ⟨hx, hb, hml, hown, hts⟩ (k_X0_offend l dC dI cA r0 r1 r2 r3 r4 r5 r6 row rs tg st ln pa nd ar lv of (-3) (nI (pl + 1)) _ ) (cwV 2 hts gX0_readLength_X0_offend rfl rfl rfl (by decide +kernel) ⟨Nat.le_of_ble_eq_true rfl, Nat.le_of_ble_eq_true rfl⟩) hK hP hD hS hA [0, 1, 2, 3, 4, 5, 6] [] rfl rfl (by decide) (by decide) (by decide) (ci := 0) (q0 := 0) rfl rfl rfl rfl hl.1 rfl (Nat.le_of_ble_eq_true rfl) dX0_readLength_48 ⟨Nat.le_of_ble_eq_true rfl, Nat.le_of_ble_eq_true rfl⟩ (fun r_23 u_23 H locs hw_23 hP hD hS => ?_)
        obtain ⟨of2_23, eu_23⟩ : ∃ z, z = u_23 := ⟨_, rfl⟩
        subst eu_23
        have hP : va_P (dC, dI) vwCl (wR cA r0 r1 r2 r3 r4 r5 r6 row rs tg st ln pa nd ar lv of2_23) H := hP
        have hD : va_D A (wR cA r0 r1 r2 r3 r4 r5 r6 row rs tg st ln pa nd ar lv of2_23) := hD
        have hw_23 : r_23 = (-3) ∧ of2_23 = (nI (pl + 1)) := hw_23
        obtain ⟨e0_23, e1_23⟩ := hw_23
        have e0_23 := e0_23.symm
        subst e0_23
        have e1_23 := e1_23.symm
        subst e1_23
        have hP9 : va_P (dC, dI) vwCl (vX0_readLength cA r0 r1 r2 r3 r4 r5 r6 row rs tg st ln pa nd ar lv of pl ((nI (pl + 1)), st, ln, 0, 0)) _ := hP
        have hD9 : va_D A (vX0_readLength cA r0 r1 r2 r3 r4 r5 r6 row rs tg st ln pa nd ar lv of pl ((nI (pl + 1)), st, ln, 0, 0)) := hD
        have hq9 : pX0_readLength r0 r1 r2 r3 r4 r5 r6 row rs tg st ln pa nd ar lv of pl ((-3)) ((nI (pl + 1)), st, ln, 0, 0) := Or.inr ⟨by unfold lenS; rw [if_neg (by omega), if_pos (by omega)], by decide, rfl, rfl⟩
        exact W.iret (v := (-3)) hx hb hr (fun t ht hW => ⟨⟨(-3), ((nI (pl + 1)), st, ln, 0, 0), rfl, hq9, by rw [ht]; exact hP9, va_K.moved hW.alike hK, hD9⟩, hS.F ht⟩) hS.2.2 dX0_readLength_51
  · refine lv_aload_n hx hb dX0_readLength_14 rfl (lv_at hl 2 rfl) ?_
    refine lv_iload_n hx hb dX0_readLength_15 rfl (lv_at hl 3 rfl) ?_
    refine cl_Vi (As := [.int (nI pl)]) (rest := []) (wr := []) ⟨hx, hb, hml, hown, hts⟩ (k_X0_offendByCutLength l dC dI cA r0 r1 r2 r3 r4 r5 r6 row rs tg st ln pa nd ar lv of pl _ (by omega)) (cwV 1 hts gX0_readLength_X0_offendByCutLength rfl rfl rfl (by decide +kernel) ⟨Nat.le_of_ble_eq_true rfl, Nat.le_of_ble_eq_true rfl⟩) hK hP hD hS hA [0, 1, 2, 3, 4, 5, 6] [] rfl rfl (by decide) (by decide) (by decide) (ci := 0) (q0 := 0) rfl rfl rfl rfl hl.1 rfl (Nat.le_of_ble_eq_true rfl) dX0_readLength_16 ⟨Nat.le_of_ble_eq_true rfl, Nat.le_of_ble_eq_true rfl⟩ (fun r_24 u_24 H locs hw_24 hP hD hS => ?_)
    obtain ⟨of2_24, eu_24⟩ : ∃ z, z = u_24 := ⟨_, rfl⟩
    subst eu_24
    have hP : va_P (dC, dI) vwCl (wR cA r0 r1 r2 r3 r4 r5 r6 row rs tg st ln pa nd ar lv of2_24) H := hP
    have hD : va_D A (wR cA r0 r1 r2 r3 r4 r5 r6 row rs tg st ln pa nd ar lv of2_24) := hD
    have hw_24 : (r_24, of2_24) = cutE lv rs pl := hw_24
    have hcut := hw_24
    have hP9 : va_P (dC, dI) vwCl (vX0_readLength cA r0 r1 r2 r3 r4 r5 r6 row rs tg st ln pa nd ar lv of pl (of2_24, st, ln, 0, 0)) _ := hP
    have hD9 : va_D A (vX0_readLength cA r0 r1 r2 r3 r4 r5 r6 row rs tg st ln pa nd ar lv of pl (of2_24, st, ln, 0, 0)) := hD
    have hq9 : pX0_readLength r0 r1 r2 r3 r4 r5 r6 row rs tg st ln pa nd ar lv of pl (r_24) (of2_24, st, ln, 0, 0) := Or.inr ⟨by unfold lenS; rw [if_pos (by omega)]; exact congrArg _ hcut.symm, cutE_ne hcut, rfl, rfl⟩
    exact W.iret (v := r_24) hx hb hr (fun t ht hW => ⟨⟨r_24, (of2_24, st, ln, 0, 0), rfl, hq9, by rw [ht]; exact hP9, va_K.moved hW.alike hK, hD9⟩, hS.F ht⟩) hS.2.2 dX0_readLength_19
abbrev pX0_checkContents (r0 : Nat) (r1 : Nat) (r2 : Nat) (r3 : Nat) (r4 : Nat) (r5 : Nat) (r6 : Nat) (row : Nat → Nat) (rs : Nat) (tg : Nat → Nat) (st : Nat → Nat) (ln : Nat → Nat) (pa : Nat → Int32) (nd : Nat) (ar : Nat → Nat) (lv : Nat) (of : Int32) (pl : Nat) : Int32 → Int32 → Prop := fun (r : Int32) (of2 : Int32) => (conS (tg nd) row (st nd) (ln nd) (limN rs lv ar st ln) pl = none ∧ r = nI 0 ∧ of2 = of) ∨ (conS (tg nd) row (st nd) (ln nd) (limN rs lv ar st ln) pl = some (r, of2) ∧ r ≠ 0)
abbrev vX0_checkContents (cA : ClassId) (r0 : Nat) (r1 : Nat) (r2 : Nat) (r3 : Nat) (r4 : Nat) (r5 : Nat) (r6 : Nat) (row : Nat → Nat) (rs : Nat) (tg : Nat → Nat) (st : Nat → Nat) (ln : Nat → Nat) (pa : Nat → Int32) (nd : Nat) (ar : Nat → Nat) (lv : Nat) (of : Int32) (pl : Nat) : Int32 → va_W := fun (of2 : Int32) => wR cA r0 r1 r2 r3 r4 r5 r6 row rs tg st ln pa nd ar lv of2
abbrev qX0_checkContents (dC : Nat → ClassId) (dI : Nat → Nat → Nat) (cA : ClassId) (A : Nat → Prop) (r0 : Nat) (r1 : Nat) (r2 : Nat) (r3 : Nat) (r4 : Nat) (r5 : Nat) (r6 : Nat) (row : Nat → Nat) (rs : Nat) (tg : Nat → Nat) (st : Nat → Nat) (ln : Nat → Nat) (pa : Nat → Int32) (nd : Nat) (ar : Nat → Nat) (lv : Nat) (of : Int32) (pl : Nat) : Array Value → State → Outcome → State → Prop := va_Qi (pX0_checkContents r0 r1 r2 r3 r4 r5 r6 row rs tg st ln pa nd ar lv of pl) (fun u => cAft dC dI cA A (vX0_checkContents cA r0 r1 r2 r3 r4 r5 r6 row rs tg st ln pa nd ar lv of pl u)) A
set_option maxHeartbeats 4000000 in
set_option maxRecDepth 100000 in
theorem k_X0_checkContents (l : Launch) (dC : Nat → ClassId) (dI : Nat → Nat → Nat) (cA : ClassId) (r0 : Nat) (r1 : Nat) (r2 : Nat) (r3 : Nat) (r4 : Nat) (r5 : Nat) (r6 : Nat) (row : Nat → Nat) (rs : Nat) (tg : Nat → Nat) (st : Nat → Nat) (ln : Nat → Nat) (pa : Nat → Int32) (nd : Nat) (ar : Nat → Nat) (lv : Nat) (of : Int32) (pl : Nat) (sz : Nat) (hrow : ∀ j, row j < 256) (htg : ∀ j, tg j < 256) (hst : ∀ j, st j < 1000) (hln : ∀ j, ln j < 65536) (har : ∀ j, ar j < 64) (hnd : nd < 64) (hlv : lv ≤ 16) (hpl : pl ≤ 300) (hlim : limN rs lv ar st ln ≤ 300) (hsl : st nd ≤ limN rs lv ar st ln) : Met l yX0_checkContents wsX0_checkContents ({ frames := 2, cells := 0, slots := 0, locals := 47 } : Room) (va_Pc [.ref r0, .int (nI pl)] (cPre dC dI cA (wR cA r0 r1 r2 r3 r4 r5 r6 row rs tg st ln pa nd ar lv of) sz)) (qX0_checkContents dC dI cA (va_A (wR cA r0 r1 r2 r3 r4 r5 r6 row rs tg st ln pa nd ar lv of) sz) r0 r1 r2 r3 r4 r5 r6 row rs tg st ln pa nd ar lv of pl) 0 0 (va_A (wR cA r0 r1 r2 r3 r4 r5 r6 row rs tg st ln pa nd ar lv of) sz) := by
  refine Met.ofW (cc := cX0_checkContents) (maxL := 4) (ret := (some .int)) (by decide) rfl ?_
  intro p e s m args below meth c s₁ B hml hv
  obtain ⟨rfl, hsz, hP, hK, hD0⟩ := hv
  have hx := B.exec
  have hb := B.bytes
  have hr := B.returns
  have hts := atoms_spec (ws := wsX0_checkContents) B.pre
  have hown : s.vm.findClass RX0 = some m.cls := findClass_of_methodNamed B.named
  have hlocks := B.notSynchronized
  subst hsz
  have hD := hD0.self (sz := s.heap.size)
  generalize hAe : va_A (wR cA r0 r1 r2 r3 r4 r5 r6 row rs tg st ln pa nd ar lv of) s.heap.size = A at hD ⊢
  have hA : ∀ q : Nat, s.heap.size ≤ q → A q := fun q h => by rw [← hAe]; exact Or.inr h
  have hS : va_S A s.heap s.heap [] := va_S.rf
  have hl := lv_entry ([.ref r0, .int (nI pl)]) (n := 4) (Nat.le_of_ble_eq_true rfl)
  rw [lg_entry_eq]
  generalize (lg_sl ([.ref r0, .int (nI pl)]) ++ List.replicate (4 - (lg_sl ([.ref r0, .int (nI pl)])).length) Slot.unset).toArray = ls at hl ⊢
  have hl : lv_has ls 4 [(0, .ref r0), (1, .int (nI pl))] := hl
  have hinX0 : ∀ w ∈ wsX00, w ∈ wsX0_checkContents := fun _ h => List.mem_cons_of_mem _ (List.mem_append_right _ h)
  have hf_9 := hts (.fieldLink RX0 9 "DerDesk$Reader" "row" "[I") (by decide +kernel)
  have hf_19 := hts (.fieldLink RX0 19 "DerDesk$Reader" "tags" "[I") (by decide +kernel)
  have hf_22 := hts (.fieldLink RX0 22 "DerDesk$Reader" "starts" "[I") (by decide +kernel)
  have hf_25 := hts (.fieldLink RX0 25 "DerDesk$Reader" "lengths" "[I") (by decide +kernel)
  have hf_31 := hts (.fieldLink RX0 31 "DerDesk$Reader" "nodes" "I") (by decide +kernel)
  have hP : va_P (dC, dI) vwCl (wR cA r0 r1 r2 r3 r4 r5 r6 row rs tg st ln pa nd ar lv of) s.heap := hP
  refine lv_aload_n hx hb dX0_checkContents_0 rfl (lv_at hl 0 rfl) ?_
  refine va_get (D := (dC, dI)) (ci := 0) (v := .ref r3) (C := RX0) (T := TX0) (N := 10) hx hb hts hinX0 hown hK hP 0 rfl rfl 3 (by decide) hf_22 (fun _ h9 => h9) rfl dX0_checkContents_1 ?_
  refine lv_aload_n hx hb dX0_checkContents_4 rfl (lv_at hl 0 rfl) ?_
  refine va_get (D := (dC, dI)) (ci := 0) (v := .int (nI nd)) (C := RX0) (T := TX0) (N := 10) hx hb hts hinX0 hown hK hP 0 rfl rfl 6 (by decide) hf_31 (fun _ h9 => h9) rfl dX0_checkContents_5 ?_
  refine hl_iald hx hb hK hP 3 0 rfl rfl (by omega) (by decide) dX0_checkContents_8 ?_
  have hv_1 := hst nd
  refine lv_istore_n (lv' := [(2, .int (nI (st nd))), (0, .ref r0), (1, .int (nI pl))]) hx hb dX0_checkContents_9 rfl hl (by decide) rfl (fun ls hl => ?_)
  refine lv_aload_n hx hb dX0_checkContents_10 rfl (lv_at hl 1 rfl) ?_
  refine va_get (D := (dC, dI)) (ci := 0) (v := .ref r4) (C := RX0) (T := TX0) (N := 10) hx hb hts hinX0 hown hK hP 0 rfl rfl 4 (by decide) hf_25 (fun _ h9 => h9) rfl dX0_checkContents_11 ?_
  refine lv_aload_n hx hb dX0_checkContents_14 rfl (lv_at hl 1 rfl) ?_
  refine va_get (D := (dC, dI)) (ci := 0) (v := .int (nI nd)) (C := RX0) (T := TX0) (N := 10) hx hb hts hinX0 hown hK hP 0 rfl rfl 6 (by decide) hf_31 (fun _ h9 => h9) rfl dX0_checkContents_15 ?_
  refine hl_iald hx hb hK hP 4 0 rfl rfl (by omega) (by decide) dX0_checkContents_18 ?_
  have hv_2 := hln nd
  refine lv_istore_n (lv' := [(3, .int (nI (ln nd))), (2, .int (nI (st nd))), (0, .ref r0), (1, .int (nI pl))]) hx hb dX0_checkContents_19 rfl hl (by decide) rfl (fun ls hl => ?_)
  refine lv_iload_n hx hb dX0_checkContents_20 rfl (lv_at hl 0 rfl) ?_
  refine lv_aload_n hx hb dX0_checkContents_21 rfl (lv_at hl 2 rfl) ?_
  refine cl_Vi (As := []) (rest := [.int (nI (ln nd))]) (wr := []) ⟨hx, hb, hml, hown, hts⟩ (k_X0_limitHere l dC dI cA r0 r1 r2 r3 r4 r5 r6 row rs tg st ln pa nd ar lv of _ (by omega) (fun j _ => har j)) (cwV 0 hts gX0_checkContents_X0_limitHere rfl rfl rfl (by decide +kernel) ⟨Nat.le_of_ble_eq_true rfl, Nat.le_of_ble_eq_true rfl⟩) hK hP hD hS hA [0, 1, 2, 3, 4, 5, 6] [] rfl rfl (by decide) (by decide) (by decide) (ci := 0) (q0 := 0) rfl rfl rfl rfl hl.1 rfl (Nat.le_of_ble_eq_true rfl) dX0_checkContents_22 ⟨Nat.le_of_ble_eq_true rfl, Nat.le_of_ble_eq_true rfl⟩ (fun r_3 u_3 H locs hw_3 hP hD hS => ?_)
  have hP : va_P (dC, dI) vwCl (wR cA r0 r1 r2 r3 r4 r5 r6 row rs tg st ln pa nd ar lv of) H := hP
  have hD : va_D A (wR cA r0 r1 r2 r3 r4 r5 r6 row rs tg st ln pa nd ar lv of) := hD
  have hw_3 : r_3 = nI (limN rs lv ar st ln) := hw_3
  have hw_3 := hw_3.symm
  subst hw_3
  refine lv_iload_n hx hb dX0_checkContents_25 rfl (lv_at hl 1 rfl) ?_
  refine hl_isub hx hb (by omega) dX0_checkContents_26 ?_
  refine hl_icmp_le (tgt := 38) hx hb dX0_checkContents_27 (by decide) (by omega) (by omega) (fun c_4 => ?_) (fun c_4 => ?_)
  · refine lv_aload_n hx hb dX0_checkContents_38 rfl (lv_at hl 2 rfl) ?_
    refine va_get (D := (dC, dI)) (ci := 0) (v := .ref r2) (C := RX0) (T := TX0) (N := 10) hx hb hts hinX0 hown hK hP 0 rfl rfl 2 (by decide) hf_19 (fun _ h9 => h9) rfl dX0_checkContents_39 ?_
    refine lv_aload_n hx hb dX0_checkContents_42 rfl (lv_at hl 2 rfl) ?_
    refine va_get (D := (dC, dI)) (ci := 0) (v := .int (nI nd)) (C := RX0) (T := TX0) (N := 10) hx hb hts hinX0 hown hK hP 0 rfl rfl 6 (by decide) hf_31 (fun _ h9 => h9) rfl dX0_checkContents_43 ?_
    refine hl_iald hx hb hK hP 2 0 rfl rfl (by omega) (by decide) dX0_checkContents_46 ?_
    have hv_5 := htg nd
    refine lv_aload_n hx hb dX0_checkContents_47 rfl (lv_at hl 2 rfl) ?_
    refine va_get (D := (dC, dI)) (ci := 0) (v := .ref r1) (C := RX0) (T := TX0) (N := 10) hx hb hts hinX0 hown hK hP 0 rfl rfl 0 (by decide) hf_9 (fun _ h9 => h9) rfl dX0_checkContents_48 ?_
    refine lv_iload_n hx hb dX0_checkContents_51 rfl (lv_at hl 1 rfl) ?_
    refine lv_iload_n hx hb dX0_checkContents_52 rfl (lv_at hl 0 rfl) ?_
    refine cl_Si (As := [.int (nI (tg nd)), .ref r1, .int (nI (st nd)), .int (nI (ln nd))]) (rest := []) (wr := [(r0, .inr (0, [.ref r1, .int (nI rs), .ref r2, .ref r3, .ref r4, .ref r5, .int (nI nd), .ref r6, .int (nI lv), .int of])), (r2, .inl (cA, 64, .inl (nA tg))), (r3, .inl (cA, 64, .inl (nA st))), (r4, .inl (cA, 64, .inl (nA ln))), (r5, .inl (cA, 64, .inl (pa))), (r6, .inl (cA, 16, .inl (nA ar)))]) ⟨hx, hb, hml, hown, hts⟩ (k_X1_hold l dC dI cA r1 row (tg nd) (st nd) (ln nd) _ (by omega) hrow (by omega)) (va_cwS 4 hts gX0_checkContents_X1_hold rfl rfl rfl (by decide +kernel) ⟨Nat.le_of_ble_eq_true rfl, Nat.le_of_ble_eq_true rfl⟩) hK hP hD hS hA [1] [0, 2, 3, 4, 5, 6] rfl rfl (by decide) (by decide) (by decide) rfl hl.1 rfl (Nat.le_of_ble_eq_true rfl) dX0_checkContents_53 ⟨Nat.le_of_ble_eq_true rfl, Nat.le_of_ble_eq_true rfl⟩ (fun r_6 u_6 H locs hw_6 hP hD hS => ?_)
    have hP : va_P (dC, dI) vwCl (wR cA r0 r1 r2 r3 r4 r5 r6 row rs tg st ln pa nd ar lv of) H := hP.sub [0, 6, 1, 2, 3, 4, 5] rfl
    have hD : va_D A (wR cA r0 r1 r2 r3 r4 r5 r6 row rs tg st ln pa nd ar lv of) := hD.sub [0, 6, 1, 2, 3, 4, 5] (by decide) rfl
    have hw_6 : r_6 = if okC (tg nd) row (st nd) (ln nd) = true then 1 else 0 := hw_6
    have hw_6 := hw_6.symm
    subst hw_6
    refine hl_ifb_eq (tgt := 63) hx hb dX0_checkContents_56 (by decide) (fun c_7 => ?_) (fun c_7 => ?_)
    · refine lv_aload_n hx hb dX0_checkContents_63 rfl (lv_at hl 2 rfl) ?_
      refine lv_bipush (v := (-5)) hx hb dX0_checkContents_64 (by decide) ?_
      refine lv_iload_n hx hb dX0_checkContents_66 rfl (lv_at hl 3 rfl) ?_
      refine cl_Vi (As := [.int (-5), .int (nI pl)]) (rest := []) (wr := []) ⟨hx, hb, hml, hown, hts⟩ (k_X0_offend l dC dI cA r0 r1 r2 r3 r4 r5 r6 row rs tg st ln pa nd ar lv of (-5) (nI pl) _ ) (cwV 2 hts gX0_checkContents_X0_offend rfl rfl rfl (by decide +kernel) ⟨Nat.le_of_ble_eq_true rfl, Nat.le_of_ble_eq_true rfl⟩) hK hP hD hS hA [0, 1, 2, 3, 4, 5, 6] [] rfl rfl (by decide) (by decide) (by decide) (ci := 0) (q0 := 0) rfl rfl rfl rfl hl.1 rfl (Nat.le_of_ble_eq_true rfl) dX0_checkContents_67 ⟨Nat.le_of_ble_eq_true rfl, Nat.le_of_ble_eq_true rfl⟩ (fun r_8 u_8 H locs hw_8 hP hD hS => ?_)
      obtain ⟨of2_8, eu_8⟩ : ∃ z, z = u_8 := ⟨_, rfl⟩
      subst eu_8
      have hP : va_P (dC, dI) vwCl (wR cA r0 r1 r2 r3 r4 r5 r6 row rs tg st ln pa nd ar lv of2_8) H := hP
      have hD : va_D A (wR cA r0 r1 r2 r3 r4 r5 r6 row rs tg st ln pa nd ar lv of2_8) := hD
      have hw_8 : r_8 = (-5) ∧ of2_8 = (nI pl) := hw_8
      obtain ⟨e0_8, e1_8⟩ := hw_8
      have e0_8 := e0_8.symm
      subst e0_8
      have e1_8 := e1_8.symm
      subst e1_8
      have hP9 : va_P (dC, dI) vwCl (vX0_checkContents cA r0 r1 r2 r3 r4 r5 r6 row rs tg st ln pa nd ar lv of pl (nI pl)) _ := hP
      have hD9 : va_D A (vX0_checkContents cA r0 r1 r2 r3 r4 r5 r6 row rs tg st ln pa nd ar lv of pl (nI pl)) := hD
      have hq9 : pX0_checkContents r0 r1 r2 r3 r4 r5 r6 row rs tg st ln pa nd ar lv of pl ((-5)) (nI pl) := Or.inr ⟨by unfold conS; rw [if_neg (by omega), if_pos (by assumption)], by decide⟩
      exact W.iret (v := (-5)) hx hb hr (fun t ht hW => ⟨⟨(-5), (nI pl), rfl, hq9, by rw [ht]; exact hP9, va_K.moved hW.alike hK, hD9⟩, hS.F ht⟩) hS.2.2 dX0_checkContents_70
    · refine lv_iconst (v := nI 0) hx hb dX0_checkContents_59 (by decide) ?_
      refine lv_goto (tgt := 70) hx hb dX0_checkContents_60 (by decide) ?_
      have hP9 : va_P (dC, dI) vwCl (vX0_checkContents cA r0 r1 r2 r3 r4 r5 r6 row rs tg st ln pa nd ar lv of pl of) _ := hP
      have hD9 : va_D A (vX0_checkContents cA r0 r1 r2 r3 r4 r5 r6 row rs tg st ln pa nd ar lv of pl of) := hD
      have hq9 : pX0_checkContents r0 r1 r2 r3 r4 r5 r6 row rs tg st ln pa nd ar lv of pl (nI 0) of := Or.inl ⟨by unfold conS; rw [if_neg (by omega), if_neg (fun h => h (by assumption))], rfl, rfl⟩
      exact W.iret (v := nI 0) hx hb hr (fun t ht hW => ⟨⟨nI 0, of, rfl, hq9, by rw [ht]; exact hP9, va_K.moved hW.alike hK, hD9⟩, hS.F ht⟩) hS.2.2 dX0_checkContents_70
  · refine lv_aload_n hx hb dX0_checkContents_30 rfl (lv_at hl 2 rfl) ?_
    refine lv_bipush (v := (-4)) hx hb dX0_checkContents_31 (by decide) ?_
    refine lv_iload_n hx hb dX0_checkContents_33 rfl (lv_at hl 3 rfl) ?_
    refine cl_Vi (As := [.int (-4), .int (nI pl)]) (rest := []) (wr := []) ⟨hx, hb, hml, hown, hts⟩ (k_X0_offend l dC dI cA r0 r1 r2 r3 r4 r5 r6 row rs tg st ln pa nd ar lv of (-4) (nI pl) _ ) (cwV 2 hts gX0_checkContents_X0_offend rfl rfl rfl (by decide +kernel) ⟨Nat.le_of_ble_eq_true rfl, Nat.le_of_ble_eq_true rfl⟩) hK hP hD hS hA [0, 1, 2, 3, 4, 5, 6] [] rfl rfl (by decide) (by decide) (by decide) (ci := 0) (q0 := 0) rfl rfl rfl rfl hl.1 rfl (Nat.le_of_ble_eq_true rfl) dX0_checkContents_34 ⟨Nat.le_of_ble_eq_true rfl, Nat.le_of_ble_eq_true rfl⟩ (fun r_9 u_9 H locs hw_9 hP hD hS => ?_)
    obtain ⟨of2_9, eu_9⟩ : ∃ z, z = u_9 := ⟨_, rfl⟩
    subst eu_9
    have hP : va_P (dC, dI) vwCl (wR cA r0 r1 r2 r3 r4 r5 r6 row rs tg st ln pa nd ar lv of2_9) H := hP
    have hD : va_D A (wR cA r0 r1 r2 r3 r4 r5 r6 row rs tg st ln pa nd ar lv of2_9) := hD
    have hw_9 : r_9 = (-4) ∧ of2_9 = (nI pl) := hw_9
    obtain ⟨e0_9, e1_9⟩ := hw_9
    have e0_9 := e0_9.symm
    subst e0_9
    have e1_9 := e1_9.symm
    subst e1_9
    have hP9 : va_P (dC, dI) vwCl (vX0_checkContents cA r0 r1 r2 r3 r4 r5 r6 row rs tg st ln pa nd ar lv of pl (nI pl)) _ := hP
    have hD9 : va_D A (vX0_checkContents cA r0 r1 r2 r3 r4 r5 r6 row rs tg st ln pa nd ar lv of pl (nI pl)) := hD
    have hq9 : pX0_checkContents r0 r1 r2 r3 r4 r5 r6 row rs tg st ln pa nd ar lv of pl ((-4)) (nI pl) := Or.inr ⟨by unfold conS; rw [if_pos (by omega)], by decide⟩
    exact W.iret (v := (-4)) hx hb hr (fun t ht hW => ⟨⟨(-4), (nI pl), rfl, hq9, by rw [ht]; exact hP9, va_K.moved hW.alike hK, hD9⟩, hS.F ht⟩) hS.2.2 dX0_checkContents_37
end
section
abbrev pX0_readValue (r0 : Nat) (r1 : Nat) (r2 : Nat) (r3 : Nat) (r4 : Nat) (r5 : Nat) (r6 : Nat) (row : Nat → Nat) (rs : Nat) (tg : Nat → Nat) (st : Nat → Nat) (ln : Nat → Nat) (pa : Nat → Int32) (nd : Nat) (ar : Nat → Nat) (lv : Nat) (of : Int32) (pl : Nat) : Int32 → Int32 × Nat × (Nat → Nat) × (Nat → Nat) × (Nat → Nat) × (Nat → Int32) × Nat × Nat → Prop := fun (r : Int32) (u : Int32 × Nat × (Nat → Nat) × (Nat → Nat) × (Nat → Nat) × (Nat → Int32) × Nat × Nat) => match u with | (of2, nd2, tg2, st2, ln2, pa2, xn, xa) => ((valS row rs nd lv ar st ln pl = .inr (xn, xa) ∧ r = nI 0 ∧ of2 = of ∧ nd2 = nd + 1 ∧ tg2 = va_up tg nd (row pl) ∧ st2 = va_up st nd xa ∧ ln2 = va_up ln nd xn ∧ pa2 = upd pa nd (parI lv ar)) ∨ (valS row rs nd lv ar st ln pl = .inl (r, of2) ∧ r ≠ 0 ∧ nd2 = nd)) ∧ (∀ j, tg2 j < 256) ∧ (∀ j, st2 j < 1000) ∧ (∀ j, ln2 j < 65536)
abbrev vX0_readValue (cA : ClassId) (r0 : Nat) (r1 : Nat) (r2 : Nat) (r3 : Nat) (r4 : Nat) (r5 : Nat) (r6 : Nat) (row : Nat → Nat) (rs : Nat) (tg : Nat → Nat) (st : Nat → Nat) (ln : Nat → Nat) (pa : Nat → Int32) (nd : Nat) (ar : Nat → Nat) (lv : Nat) (of : Int32) (pl : Nat) : Int32 × Nat × (Nat → Nat) × (Nat → Nat) × (Nat → Nat) × (Nat → Int32) × Nat × Nat → va_W := fun (u : Int32 × Nat × (Nat → Nat) × (Nat → Nat) × (Nat → Nat) × (Nat → Int32) × Nat × Nat) => match u with | (of2, nd2, tg2, st2, ln2, pa2, xn, xa) => wR cA r0 r1 r2 r3 r4 r5 r6 row rs tg2 st2 ln2 pa2 nd2 ar lv of2
abbrev qX0_readValue (dC : Nat → ClassId) (dI : Nat → Nat → Nat) (cA : ClassId) (A : Nat → Prop) (r0 : Nat) (r1 : Nat) (r2 : Nat) (r3 : Nat) (r4 : Nat) (r5 : Nat) (r6 : Nat) (row : Nat → Nat) (rs : Nat) (tg : Nat → Nat) (st : Nat → Nat) (ln : Nat → Nat) (pa : Nat → Int32) (nd : Nat) (ar : Nat → Nat) (lv : Nat) (of : Int32) (pl : Nat) : Array Value → State → Outcome → State → Prop := va_Qi (pX0_readValue r0 r1 r2 r3 r4 r5 r6 row rs tg st ln pa nd ar lv of pl) (fun u => cAft dC dI cA A (vX0_readValue cA r0 r1 r2 r3 r4 r5 r6 row rs tg st ln pa nd ar lv of pl u)) A
set_option maxHeartbeats 4000000 in
set_option maxRecDepth 100000 in
theorem k_X0_readValue (l : Launch) (dC : Nat → ClassId) (dI : Nat → Nat → Nat) (cA : ClassId) (r0 : Nat) (r1 : Nat) (r2 : Nat) (r3 : Nat) (r4 : Nat) (r5 : Nat) (r6 : Nat) (row : Nat → Nat) (rs : Nat) (tg : Nat → Nat) (st : Nat → Nat) (ln : Nat → Nat) (pa : Nat → Int32) (nd : Nat) (ar : Nat → Nat) (lv : Nat) (of : Int32) (pl : Nat) (sz : Nat) (hrow : ∀ j, row j < 256) (htg : ∀ j, tg j < 256) (hst : ∀ j, st j < 1000) (hln : ∀ j, ln j < 65536) (har : ∀ j, ar j < 64) (hrs : rs ≤ 300) (hnd : nd ≤ 64) (hlv : lv ≤ 16) (hpl : pl ≤ 300) (hlim : limN rs lv ar st ln ≤ 300) (harn : ∀ j, j < lv → ar j < nd) : Met l yX0_readValue wsX0_readValue ({ frames := 3, cells := 0, slots := 0, locals := 70 } : Room) (va_Pc [.ref r0, .int (nI pl)] (cPre dC dI cA (wR cA r0 r1 r2 r3 r4 r5 r6 row rs tg st ln pa nd ar lv of) sz)) (qX0_readValue dC dI cA (va_A (wR cA r0 r1 r2 r3 r4 r5 r6 row rs tg st ln pa nd ar lv of) sz) r0 r1 r2 r3 r4 r5 r6 row rs tg st ln pa nd ar lv of pl) 0 0 (va_A (wR cA r0 r1 r2 r3 r4 r5 r6 row rs tg st ln pa nd ar lv of) sz) := by
  refine Met.ofW (cc := cX0_readValue) (maxL := 3) (ret := (some .int)) (by decide) rfl ?_
  intro p e s m args below meth c s₁ B hml hv
  obtain ⟨rfl, hsz, hP, hK, hD0⟩ := hv
  have hx := B.exec
  have hb := B.bytes
  have hr := B.returns
  have hts := atoms_spec (ws := wsX0_readValue) B.pre
  have hown : s.vm.findClass RX0 = some m.cls := findClass_of_methodNamed B.named
  have hlocks := B.notSynchronized
  subst hsz
  have hD := hD0.self (sz := s.heap.size)
  generalize hAe : va_A (wR cA r0 r1 r2 r3 r4 r5 r6 row rs tg st ln pa nd ar lv of) s.heap.size = A at hD ⊢
  have hA : ∀ q : Nat, s.heap.size ≤ q → A q := fun q h => by rw [← hAe]; exact Or.inr h
  have hS : va_S A s.heap s.heap [] := va_S.rf
  have hl := lv_entry ([.ref r0, .int (nI pl)]) (n := 3) (Nat.le_of_ble_eq_true rfl)
  rw [lg_entry_eq]
  generalize (lg_sl ([.ref r0, .int (nI pl)]) ++ List.replicate (3 - (lg_sl ([.ref r0, .int (nI pl)])).length) Slot.unset).toArray = ls at hl ⊢
  have hl : lv_has ls 3 [(0, .ref r0), (1, .int (nI pl))] := hl
  have hinX0 : ∀ w ∈ wsX00, w ∈ wsX0_readValue := fun _ h => List.mem_cons_of_mem _ (List.mem_append_right _ h)
  have hf_31 := hts (.fieldLink RX0 31 "DerDesk$Reader" "nodes" "I") (by decide +kernel)
  have hP : va_P (dC, dI) vwCl (wR cA r0 r1 r2 r3 r4 r5 r6 row rs tg st ln pa nd ar lv of) s.heap := hP
  refine lv_aload_n hx hb dX0_readValue_0 rfl (lv_at hl 0 rfl) ?_
  refine lv_iload_n hx hb dX0_readValue_1 rfl (lv_at hl 1 rfl) ?_
  refine cl_Vi (As := [.int (nI pl)]) (rest := []) (wr := []) ⟨hx, hb, hml, hown, hts⟩ (k_X0_readIdentifier l dC dI cA r0 r1 r2 r3 r4 r5 r6 row rs tg st ln pa nd ar lv of pl _ hrow htg hst hln har (by omega) (by omega) (by omega) (by omega)) (cwV 1 hts gX0_readValue_X0_readIdentifier rfl rfl rfl (by decide +kernel) ⟨Nat.le_of_ble_eq_true rfl, Nat.le_of_ble_eq_true rfl⟩) hK hP hD hS hA [0, 1, 2, 3, 4, 5, 6] [] rfl rfl (by decide) (by decide) (by decide) (ci := 0) (q0 := 0) rfl rfl rfl rfl hl.1 rfl (Nat.le_of_ble_eq_true rfl) dX0_readValue_2 ⟨Nat.le_of_ble_eq_true rfl, Nat.le_of_ble_eq_true rfl⟩ (fun r_1 u_1 H locs hw_1 hP hD hS => ?_)
  obtain ⟨of2_1, tg2_1, pa2_1⟩ := u_1
  have hP : va_P (dC, dI) vwCl (wR cA r0 r1 r2 r3 r4 r5 r6 row rs tg2_1 st ln pa2_1 nd ar lv of2_1) H := hP
  have hD : va_D A (wR cA r0 r1 r2 r3 r4 r5 r6 row rs tg2_1 st ln pa2_1 nd ar lv of2_1) := hD
  have hw_1 : (idS row rs nd lv pl = none ∧ r_1 = nI 0 ∧ of2_1 = of ∧ tg2_1 = va_up tg nd (row pl) ∧ pa2_1 = upd pa nd (parI lv ar)) ∨ (idS row rs nd lv pl = some (r_1, of2_1) ∧ r_1 ≠ 0 ∧ tg2_1 = tg ∧ pa2_1 = pa) := hw_1
  rcases hw_1 with ⟨hid_1, e1_1, e2_1, e3_1, e4_1⟩ | ⟨her_1, hne_1, e2_1, e3_1⟩
  · have e1_1 := e1_1.symm
    subst e1_1
    have e2_1 := e2_1.symm
    subst e2_1
    have e3_1 := e3_1.symm
    subst e3_1
    have e4_1 := e4_1.symm
    subst e4_1
    refine lv_istore_n (lv' := [(2, .int (nI 0)), (0, .ref r0), (1, .int (nI pl))]) hx hb dX0_readValue_5 rfl hl (by decide) rfl (fun ls hl => ?_)
    refine lv_iload_n hx hb dX0_readValue_6 rfl (lv_at hl 0 rfl) ?_
    refine hl_if_ne (tgt := 16) hx hb dX0_readValue_7 (by decide) (by omega) (fun c_2 => absurd c_2 (by decide)) (fun c_2 => ?_)
    refine lv_aload_n hx hb dX0_readValue_10 rfl (lv_at hl 1 rfl) ?_
    refine lv_iload_n hx hb dX0_readValue_11 rfl (lv_at hl 2 rfl) ?_
    refine cl_Vi (As := [.int (nI pl)]) (rest := []) (wr := []) ⟨hx, hb, hml, hown, hts⟩ (k_X0_readLength l dC dI cA r0 r1 r2 r3 r4 r5 r6 row rs (va_up tg nd (row pl)) st ln (upd pa nd (parI lv ar)) nd ar lv of pl _ hrow (up_lt htg (hrow pl)) hst hln har (idS_none hid_1).2.2.1 (by omega) (by omega) (by omega)) (cwV 1 hts gX0_readValue_X0_readLength rfl rfl rfl (by decide +kernel) ⟨Nat.le_of_ble_eq_true rfl, Nat.le_of_ble_eq_true rfl⟩) hK hP hD hS hA [0, 1, 2, 3, 4, 5, 6] [] rfl rfl (by decide) (by decide) (by decide) (ci := 0) (q0 := 0) rfl rfl rfl rfl hl.1 rfl (Nat.le_of_ble_eq_true rfl) dX0_readValue_12 ⟨Nat.le_of_ble_eq_true rfl, Nat.le_of_ble_eq_true rfl⟩ (fun r_3 u_3 H locs hw_3 hP hD hS => ?_)
    obtain ⟨of2_3, st2_3, ln2_3, xn_3, xa_3⟩ := u_3
    have hP : va_P (dC, dI) vwCl (wR cA r0 r1 r2 r3 r4 r5 r6 row rs (va_up tg nd (row pl)) st2_3 ln2_3 (upd pa nd (parI lv ar)) nd ar lv of2_3) H := hP
    have hD : va_D A (wR cA r0 r1 r2 r3 r4 r5 r6 row rs (va_up tg nd (row pl)) st2_3 ln2_3 (upd pa nd (parI lv ar)) nd ar lv of2_3) := hD
    have hw_3 : (lenS row (limN rs lv ar st ln) lv rs pl = .inr (xn_3, xa_3) ∧ r_3 = nI 0 ∧ of2_3 = of ∧ st2_3 = va_up st nd xa_3 ∧ ln2_3 = va_up ln nd xn_3) ∨ (lenS row (limN rs lv ar st ln) lv rs pl = .inl (r_3, of2_3) ∧ r_3 ≠ 0 ∧ st2_3 = st ∧ ln2_3 = ln) := hw_3
    rcases hw_3 with ⟨hle_3, e1_3, e2_3, e3_3, e4_3⟩ | ⟨her_3, hne_3, e2_3, e3_3⟩
    · have e1_3 := e1_3.symm
      subst e1_3
      have e2_3 := e2_3.symm
      subst e2_3
      have e3_3 := e3_3.symm
      subst e3_3
      have e4_3 := e4_3.symm
      subst e4_3
      have hlo_3 := lenS_ok hrow hle_3
      have hst_3 := up_lt hst (k := nd) (x := xa_3) (by have := hlo_3.2.1; dsimp only at this; omega)
      have hln_3 := up_lt hln (k := nd) (x := xn_3) hlo_3.2.2
      have hLE_3 : limN rs lv ar (va_up st nd xa_3) (va_up ln nd xn_3) = limN rs lv ar st ln := limN_up harn _ _
      refine lv_istore_n (lv' := [(2, .int (nI 0)), (0, .ref r0), (1, .int (nI pl))]) hx hb dX0_readValue_15 rfl hl (by decide) rfl (fun ls hl => ?_)
      refine lv_iload_n hx hb dX0_readValue_16 rfl (lv_at hl 0 rfl) ?_
      refine hl_if_ne (tgt := 26) hx hb dX0_readValue_17 (by decide) (by omega) (fun c_4 => absurd c_4 (by decide)) (fun c_4 => ?_)
      refine lv_aload_n hx hb dX0_readValue_20 rfl (lv_at hl 1 rfl) ?_
      refine lv_iload_n hx hb dX0_readValue_21 rfl (lv_at hl 2 rfl) ?_
      refine cl_Vi (As := [.int (nI pl)]) (rest := []) (wr := []) ⟨hx, hb, hml, hown, hts⟩ (k_X0_checkContents l dC dI cA r0 r1 r2 r3 r4 r5 r6 row rs (va_up tg nd (row pl)) (va_up st nd xa_3) (va_up ln nd xn_3) (upd pa nd (parI lv ar)) nd ar lv of pl _ hrow (up_lt htg (hrow pl)) hst_3 hln_3 har (idS_none hid_1).2.2.1 (by omega) (by omega) (by rw [hLE_3]; exact hlim) (by rw [hLE_3, up_eq]; exact hlo_3.2.1)) (cwV 1 hts gX0_readValue_X0_checkContents rfl rfl rfl (by decide +kernel) ⟨Nat.le_of_ble_eq_true rfl, Nat.le_of_ble_eq_true rfl⟩) hK hP hD hS hA [0, 1, 2, 3, 4, 5, 6] [] rfl rfl (by decide) (by decide) (by decide) (ci := 0) (q0 := 0) rfl rfl rfl rfl hl.1 rfl (Nat.le_of_ble_eq_true rfl) dX0_readValue_22 ⟨Nat.le_of_ble_eq_true rfl, Nat.le_of_ble_eq_true rfl⟩ (fun r_5 u_5 H locs hw_5 hP hD hS => ?_)
      obtain ⟨of2_5, eu_5⟩ : ∃ z, z = u_5 := ⟨_, rfl⟩
      subst eu_5
      have hP : va_P (dC, dI) vwCl (wR cA r0 r1 r2 r3 r4 r5 r6 row rs (va_up tg nd (row pl)) (va_up st nd xa_3) (va_up ln nd xn_3) (upd pa nd (parI lv ar)) nd ar lv of2_5) H := hP
      have hD : va_D A (wR cA r0 r1 r2 r3 r4 r5 r6 row rs (va_up tg nd (row pl)) (va_up st nd xa_3) (va_up ln nd xn_3) (upd pa nd (parI lv ar)) nd ar lv of2_5) := hD
      have hw_5 : (conS ((va_up tg nd (row pl)) nd) row ((va_up st nd xa_3) nd) ((va_up ln nd xn_3) nd) (limN rs lv ar (va_up st nd xa_3) (va_up ln nd xn_3)) pl = none ∧ r_5 = nI 0 ∧ of2_5 = of) ∨ (conS ((va_up tg nd (row pl)) nd) row ((va_up st nd xa_3) nd) ((va_up ln nd xn_3) nd) (limN rs lv ar (va_up st nd xa_3) (va_up ln nd xn_3)) pl = some (r_5, of2_5) ∧ r_5 ≠ 0) := hw_5
      simp only [up_eq, hLE_3] at hw_5
      rcases hw_5 with ⟨hco_5, e1_5, e2_5⟩ | ⟨her_5, hne_5⟩
      · have e1_5 := e1_5.symm
        subst e1_5
        have e2_5 := e2_5.symm
        subst e2_5
        refine lv_istore_n (lv' := [(2, .int (nI 0)), (0, .ref r0), (1, .int (nI pl))]) hx hb dX0_readValue_25 rfl hl (by decide) rfl (fun ls hl => ?_)
        refine lv_iload_n hx hb dX0_readValue_26 rfl (lv_at hl 0 rfl) ?_
        refine hl_if_ne (tgt := 40) hx hb dX0_readValue_27 (by decide) (by omega) (fun c_6 => absurd c_6 (by decide)) (fun c_6 => ?_)
        refine lv_aload_n hx hb dX0_readValue_30 rfl (lv_at hl 1 rfl) ?_
        refine lv_dup hx hb dX0_readValue_31 rfl ?_
        refine va_get (D := (dC, dI)) (ci := 0) (v := .int (nI nd)) (C := RX0) (T := TX0) (N := 10) hx hb hts hinX0 hown hK hP 0 rfl rfl 6 (by decide) hf_31 (fun _ h9 => h9) rfl dX0_readValue_32 ?_
        refine lv_iconst (v := nI 1) hx hb dX0_readValue_35 (by decide) ?_
        refine hl_iadd hx hb dX0_readValue_36 ?_
        refine va_put (D := (dC, dI)) (ci := 0) (v := .int (nI (nd + 1))) (ty := .int) (C := RX0) (T := TX0) (N := 10) hx hb hts hinX0 tyX0 tyX0_ok nmX0 hown hK hP hD hS 0 rfl rfl 6 (by decide) hf_31 (fun _ h9 => h9) rfl (by decide +kernel) rfl rfl (Nat.le_of_ble_eq_true rfl) dX0_readValue_37 (fun H locs hP hD hS => ?_)
        have hP : va_P (dC, dI) vwCl (wR cA r0 r1 r2 r3 r4 r5 r6 row rs (va_up tg nd (row pl)) (va_up st nd xa_3) (va_up ln nd xn_3) (upd pa nd (parI lv ar)) (nd + 1) ar lv of) H := hP
        have hD : va_D A (wR cA r0 r1 r2 r3 r4 r5 r6 row rs (va_up tg nd (row pl)) (va_up st nd xa_3) (va_up ln nd xn_3) (upd pa nd (parI lv ar)) (nd + 1) ar lv of) := hD
        refine lv_iload_n hx hb dX0_readValue_40 rfl (lv_at hl 0 rfl) ?_
        have hP9 : va_P (dC, dI) vwCl (vX0_readValue cA r0 r1 r2 r3 r4 r5 r6 row rs tg st ln pa nd ar lv of pl (of, nd + 1, va_up tg nd (row pl), va_up st nd xa_3, va_up ln nd xn_3, upd pa nd (parI lv ar), xn_3, xa_3)) _ := hP
        have hD9 : va_D A (vX0_readValue cA r0 r1 r2 r3 r4 r5 r6 row rs tg st ln pa nd ar lv of pl (of, nd + 1, va_up tg nd (row pl), va_up st nd xa_3, va_up ln nd xn_3, upd pa nd (parI lv ar), xn_3, xa_3)) := hD
        have hq9 : pX0_readValue r0 r1 r2 r3 r4 r5 r6 row rs tg st ln pa nd ar lv of pl (nI 0) (of, nd + 1, va_up tg nd (row pl), va_up st nd xa_3, va_up ln nd xn_3, upd pa nd (parI lv ar), xn_3, xa_3) := ⟨Or.inl ⟨by unfold valS; rw [hid_1]; dsimp only; rw [hle_3]; dsimp only; rw [hco_5], rfl, rfl, rfl, rfl, rfl, rfl, rfl⟩, (up_lt htg (hrow pl)), hst_3, hln_3⟩
        exact W.iret (v := nI 0) hx hb hr (fun t ht hW => ⟨⟨nI 0, (of, nd + 1, va_up tg nd (row pl), va_up st nd xa_3, va_up ln nd xn_3, upd pa nd (parI lv ar), xn_3, xa_3), rfl, hq9, by rw [ht]; exact hP9, va_K.moved hW.alike hK, hD9⟩, hS.F ht⟩) hS.2.2 dX0_readValue_41
      · refine lv_istore_n (lv' := [(2, .int r_5), (0, .ref r0), (1, .int (nI pl))]) hx hb dX0_readValue_25 rfl hl (by decide) rfl (fun ls hl => ?_)
        refine lv_iload_n hx hb dX0_readValue_26 rfl (lv_at hl 0 rfl) ?_
        refine lv_if_ne (tgt := 40) hx hb dX0_readValue_27 (by decide) (fun c_7 => ?_) (fun c_7 => absurd c_7 hne_5)
        refine lv_iload_n hx hb dX0_readValue_40 rfl (lv_at hl 0 rfl) ?_
        have hP9 : va_P (dC, dI) vwCl (vX0_readValue cA r0 r1 r2 r3 r4 r5 r6 row rs tg st ln pa nd ar lv of pl (of2_5, nd, va_up tg nd (row pl), va_up st nd xa_3, va_up ln nd xn_3, upd pa nd (parI lv ar), 0, 0)) _ := hP
        have hD9 : va_D A (vX0_readValue cA r0 r1 r2 r3 r4 r5 r6 row rs tg st ln pa nd ar lv of pl (of2_5, nd, va_up tg nd (row pl), va_up st nd xa_3, va_up ln nd xn_3, upd pa nd (parI lv ar), 0, 0)) := hD
        have hq9 : pX0_readValue r0 r1 r2 r3 r4 r5 r6 row rs tg st ln pa nd ar lv of pl (r_5) (of2_5, nd, va_up tg nd (row pl), va_up st nd xa_3, va_up ln nd xn_3, upd pa nd (parI lv ar), 0, 0) := ⟨Or.inr ⟨by unfold valS; rw [hid_1]; dsimp only; rw [hle_3]; dsimp only; rw [her_5], hne_5, rfl⟩, (up_lt htg (hrow pl)), hst_3, hln_3⟩
        exact W.iret (v := r_5) hx hb hr (fun t ht hW => ⟨⟨r_5, (of2_5, nd, va_up tg nd (row pl), va_up st nd xa_3, va_up ln nd xn_3, upd pa nd (parI lv ar), 0, 0), rfl, hq9, by rw [ht]; exact hP9, va_K.moved hW.alike hK, hD9⟩, hS.F ht⟩) hS.2.2 dX0_readValue_41
    · have e2_3 := e2_3.symm
      subst e2_3
      have e3_3 := e3_3.symm
      subst e3_3
      refine lv_istore_n (lv' := [(2, .int r_3), (0, .ref r0), (1, .int (nI pl))]) hx hb dX0_readValue_15 rfl hl (by decide) rfl (fun ls hl => ?_)
      refine lv_iload_n hx hb dX0_readValue_16 rfl (lv_at hl 0 rfl) ?_
      refine lv_if_ne (tgt := 26) hx hb dX0_readValue_17 (by decide) (fun c_8 => ?_) (fun c_8 => absurd c_8 hne_3)
      refine lv_iload_n hx hb dX0_readValue_26 rfl (lv_at hl 0 rfl) ?_
      refine lv_if_ne (tgt := 40) hx hb dX0_readValue_27 (by decide) (fun c_9 => ?_) (fun c_9 => absurd c_9 hne_3)
      refine lv_iload_n hx hb dX0_readValue_40 rfl (lv_at hl 0 rfl) ?_
      have hP9 : va_P (dC, dI) vwCl (vX0_readValue cA r0 r1 r2 r3 r4 r5 r6 row rs tg st ln pa nd ar lv of pl (of2_3, nd, va_up tg nd (row pl), st, ln, upd pa nd (parI lv ar), 0, 0)) _ := hP
      have hD9 : va_D A (vX0_readValue cA r0 r1 r2 r3 r4 r5 r6 row rs tg st ln pa nd ar lv of pl (of2_3, nd, va_up tg nd (row pl), st, ln, upd pa nd (parI lv ar), 0, 0)) := hD
      have hq9 : pX0_readValue r0 r1 r2 r3 r4 r5 r6 row rs tg st ln pa nd ar lv of pl (r_3) (of2_3, nd, va_up tg nd (row pl), st, ln, upd pa nd (parI lv ar), 0, 0) := ⟨Or.inr ⟨by unfold valS; rw [hid_1]; dsimp only; rw [her_3], hne_3, rfl⟩, (up_lt htg (hrow pl)), hst, hln⟩
      exact W.iret (v := r_3) hx hb hr (fun t ht hW => ⟨⟨r_3, (of2_3, nd, va_up tg nd (row pl), st, ln, upd pa nd (parI lv ar), 0, 0), rfl, hq9, by rw [ht]; exact hP9, va_K.moved hW.alike hK, hD9⟩, hS.F ht⟩) hS.2.2 dX0_readValue_41
  · have e2_1 := e2_1.symm
    subst e2_1
    have e3_1 := e3_1.symm
    subst e3_1
    refine lv_istore_n (lv' := [(2, .int r_1), (0, .ref r0), (1, .int (nI pl))]) hx hb dX0_readValue_5 rfl hl (by decide) rfl (fun ls hl => ?_)
    refine lv_iload_n hx hb dX0_readValue_6 rfl (lv_at hl 0 rfl) ?_
    refine lv_if_ne (tgt := 16) hx hb dX0_readValue_7 (by decide) (fun c_10 => ?_) (fun c_10 => absurd c_10 hne_1)
    refine lv_iload_n hx hb dX0_readValue_16 rfl (lv_at hl 0 rfl) ?_
    refine lv_if_ne (tgt := 26) hx hb dX0_readValue_17 (by decide) (fun c_11 => ?_) (fun c_11 => absurd c_11 hne_1)
    refine lv_iload_n hx hb dX0_readValue_26 rfl (lv_at hl 0 rfl) ?_
    refine lv_if_ne (tgt := 40) hx hb dX0_readValue_27 (by decide) (fun c_12 => ?_) (fun c_12 => absurd c_12 hne_1)
    refine lv_iload_n hx hb dX0_readValue_40 rfl (lv_at hl 0 rfl) ?_
    have hP9 : va_P (dC, dI) vwCl (vX0_readValue cA r0 r1 r2 r3 r4 r5 r6 row rs tg st ln pa nd ar lv of pl (of2_1, nd, tg, st, ln, pa, 0, 0)) _ := hP
    have hD9 : va_D A (vX0_readValue cA r0 r1 r2 r3 r4 r5 r6 row rs tg st ln pa nd ar lv of pl (of2_1, nd, tg, st, ln, pa, 0, 0)) := hD
    have hq9 : pX0_readValue r0 r1 r2 r3 r4 r5 r6 row rs tg st ln pa nd ar lv of pl (r_1) (of2_1, nd, tg, st, ln, pa, 0, 0) := ⟨Or.inr ⟨by unfold valS; rw [her_1], hne_1, rfl⟩, htg, hst, hln⟩
    exact W.iret (v := r_1) hx hb hr (fun t ht hW => ⟨⟨r_1, (of2_1, nd, tg, st, ln, pa, 0, 0), rfl, hq9, by rw [ht]; exact hP9, va_K.moved hW.alike hK, hD9⟩, hS.F ht⟩) hS.2.2 dX0_readValue_41
abbrev pX0_goOnFrom (r0 : Nat) (r1 : Nat) (r2 : Nat) (r3 : Nat) (r4 : Nat) (r5 : Nat) (r6 : Nat) (row : Nat → Nat) (rs : Nat) (tg : Nat → Nat) (st : Nat → Nat) (ln : Nat → Nat) (pa : Nat → Int32) (nd : Nat) (ar : Nat → Nat) (lv : Nat) (of : Int32) (nod : Nat) : Int32 → (Nat → Nat) × Nat → Prop := fun (r : Int32) (u : (Nat → Nat) × Nat) => match u with | (ar2, lv2) => (tg nod = 48 ∧ r = nI (st nod) ∧ ar2 = va_up ar lv nod ∧ lv2 = lv + 1) ∨ (¬ tg nod = 48 ∧ r = nI (st nod + ln nod) ∧ ar2 = ar ∧ lv2 = lv)
abbrev vX0_goOnFrom (cA : ClassId) (r0 : Nat) (r1 : Nat) (r2 : Nat) (r3 : Nat) (r4 : Nat) (r5 : Nat) (r6 : Nat) (row : Nat → Nat) (rs : Nat) (tg : Nat → Nat) (st : Nat → Nat) (ln : Nat → Nat) (pa : Nat → Int32) (nd : Nat) (ar : Nat → Nat) (lv : Nat) (of : Int32) (nod : Nat) : (Nat → Nat) × Nat → va_W := fun (u : (Nat → Nat) × Nat) => match u with | (ar2, lv2) => wR cA r0 r1 r2 r3 r4 r5 r6 row rs tg st ln pa nd ar2 lv2 of
abbrev qX0_goOnFrom (dC : Nat → ClassId) (dI : Nat → Nat → Nat) (cA : ClassId) (A : Nat → Prop) (r0 : Nat) (r1 : Nat) (r2 : Nat) (r3 : Nat) (r4 : Nat) (r5 : Nat) (r6 : Nat) (row : Nat → Nat) (rs : Nat) (tg : Nat → Nat) (st : Nat → Nat) (ln : Nat → Nat) (pa : Nat → Int32) (nd : Nat) (ar : Nat → Nat) (lv : Nat) (of : Int32) (nod : Nat) : Array Value → State → Outcome → State → Prop := va_Qi (pX0_goOnFrom r0 r1 r2 r3 r4 r5 r6 row rs tg st ln pa nd ar lv of nod) (fun u => cAft dC dI cA A (vX0_goOnFrom cA r0 r1 r2 r3 r4 r5 r6 row rs tg st ln pa nd ar lv of nod u)) A
set_option maxHeartbeats 4000000 in
set_option maxRecDepth 100000 in
theorem k_X0_goOnFrom (l : Launch) (dC : Nat → ClassId) (dI : Nat → Nat → Nat) (cA : ClassId) (r0 : Nat) (r1 : Nat) (r2 : Nat) (r3 : Nat) (r4 : Nat) (r5 : Nat) (r6 : Nat) (row : Nat → Nat) (rs : Nat) (tg : Nat → Nat) (st : Nat → Nat) (ln : Nat → Nat) (pa : Nat → Int32) (nd : Nat) (ar : Nat → Nat) (lv : Nat) (of : Int32) (nod : Nat) (sz : Nat) (htg : ∀ j, tg j < 256) (hst : ∀ j, st j < 1000) (hn1 : nod < 64) (hlv : lv < 16) : Met l yX0_goOnFrom wsX0_goOnFrom ({ frames := 1, cells := 0, slots := 0, locals := 21 } : Room) (va_Pc [.ref r0, .int (nI nod)] (cPre dC dI cA (wR cA r0 r1 r2 r3 r4 r5 r6 row rs tg st ln pa nd ar lv of) sz)) (qX0_goOnFrom dC dI cA (va_A (wR cA r0 r1 r2 r3 r4 r5 r6 row rs tg st ln pa nd ar lv of) sz) r0 r1 r2 r3 r4 r5 r6 row rs tg st ln pa nd ar lv of nod) 0 0 (va_A (wR cA r0 r1 r2 r3 r4 r5 r6 row rs tg st ln pa nd ar lv of) sz) := by
  refine Met.ofW (cc := cX0_goOnFrom) (maxL := 2) (ret := (some .int)) (by decide) rfl ?_
  intro p e s m args below meth c s₁ B hml hv
  obtain ⟨rfl, hsz, hP, hK, hD0⟩ := hv
  have hx := B.exec
  have hb := B.bytes
  have hr := B.returns
  have hts := atoms_spec (ws := wsX0_goOnFrom) B.pre
  have hown : s.vm.findClass RX0 = some m.cls := findClass_of_methodNamed B.named
  have hlocks := B.notSynchronized
  subst hsz
  have hD := hD0.self (sz := s.heap.size)
  generalize hAe : va_A (wR cA r0 r1 r2 r3 r4 r5 r6 row rs tg st ln pa nd ar lv of) s.heap.size = A at hD ⊢
  have hA : ∀ q : Nat, s.heap.size ≤ q → A q := fun q h => by rw [← hAe]; exact Or.inr h
  have hS : va_S A s.heap s.heap [] := va_S.rf
  have hl := lv_entry ([.ref r0, .int (nI nod)]) (n := 2) (Nat.le_of_ble_eq_true rfl)
  rw [lg_entry_eq]
  generalize (lg_sl ([.ref r0, .int (nI nod)]) ++ List.replicate (2 - (lg_sl ([.ref r0, .int (nI nod)])).length) Slot.unset).toArray = ls at hl ⊢
  have hl : lv_has ls 2 [(0, .ref r0), (1, .int (nI nod))] := hl
  have hinX0 : ∀ w ∈ wsX00, w ∈ wsX0_goOnFrom := fun _ h => List.mem_cons_of_mem _ (List.mem_append_right _ h)
  have hf_19 := hts (.fieldLink RX0 19 "DerDesk$Reader" "tags" "[I") (by decide +kernel)
  have hf_22 := hts (.fieldLink RX0 22 "DerDesk$Reader" "starts" "[I") (by decide +kernel)
  have hf_34 := hts (.fieldLink RX0 34 "DerDesk$Reader" "around" "[I") (by decide +kernel)
  have hf_37 := hts (.fieldLink RX0 37 "DerDesk$Reader" "level" "I") (by decide +kernel)
  have hP : va_P (dC, dI) vwCl (wR cA r0 r1 r2 r3 r4 r5 r6 row rs tg st ln pa nd ar lv of) s.heap := hP
  refine lv_aload_n hx hb dX0_goOnFrom_0 rfl (lv_at hl 0 rfl) ?_
  refine va_get (D := (dC, dI)) (ci := 0) (v := .ref r2) (C := RX0) (T := TX0) (N := 10) hx hb hts hinX0 hown hK hP 0 rfl rfl 2 (by decide) hf_19 (fun _ h9 => h9) rfl dX0_goOnFrom_1 ?_
  refine lv_iload_n hx hb dX0_goOnFrom_4 rfl (lv_at hl 1 rfl) ?_
  refine hl_iald hx hb hK hP 2 0 rfl rfl (by omega) (by decide) dX0_goOnFrom_5 ?_
  have hv_1 := htg nod
  refine lv_bipush (v := nI 48) hx hb dX0_goOnFrom_6 (by decide) ?_
  refine hl_icmp_eq (tgt := 17) hx hb dX0_goOnFrom_8 (by decide) (by omega) (by omega) (fun c_2 => ?_) (fun c_2 => ?_)
  · refine lv_aload_n hx hb dX0_goOnFrom_17 rfl (lv_at hl 0 rfl) ?_
    refine va_get (D := (dC, dI)) (ci := 0) (v := .ref r6) (C := RX0) (T := TX0) (N := 10) hx hb hts hinX0 hown hK hP 0 rfl rfl 7 (by decide) hf_34 (fun _ h9 => h9) rfl dX0_goOnFrom_18 ?_
    refine lv_aload_n hx hb dX0_goOnFrom_21 rfl (lv_at hl 0 rfl) ?_
    refine va_get (D := (dC, dI)) (ci := 0) (v := .int (nI lv)) (C := RX0) (T := TX0) (N := 10) hx hb hts hinX0 hown hK hP 0 rfl rfl 8 (by decide) hf_37 (fun _ h9 => h9) rfl dX0_goOnFrom_22 ?_
    refine lv_iload_n hx hb dX0_goOnFrom_25 rfl (lv_at hl 1 rfl) ?_
    refine hl_iast hx hb hK hP hD hS 6 0 rfl rfl (by omega) (by decide) dX0_goOnFrom_26 (fun H locs hP hD hS => ?_)
    have hP : va_P (dC, dI) vwCl (wR cA r0 r1 r2 r3 r4 r5 r6 row rs tg st ln pa nd (va_up ar lv nod) lv of) H := hP
    have hD : va_D A (wR cA r0 r1 r2 r3 r4 r5 r6 row rs tg st ln pa nd (va_up ar lv nod) lv of) := hD
    refine lv_aload_n hx hb dX0_goOnFrom_27 rfl (lv_at hl 0 rfl) ?_
    refine lv_dup hx hb dX0_goOnFrom_28 rfl ?_
    refine va_get (D := (dC, dI)) (ci := 0) (v := .int (nI lv)) (C := RX0) (T := TX0) (N := 10) hx hb hts hinX0 hown hK hP 0 rfl rfl 8 (by decide) hf_37 (fun _ h9 => h9) rfl dX0_goOnFrom_29 ?_
    refine lv_iconst (v := nI 1) hx hb dX0_goOnFrom_32 (by decide) ?_
    refine hl_iadd hx hb dX0_goOnFrom_33 ?_
    refine va_put (D := (dC, dI)) (ci := 0) (v := .int (nI (lv + 1))) (ty := .int) (C := RX0) (T := TX0) (N := 10) hx hb hts hinX0 tyX0 tyX0_ok nmX0 hown hK hP hD hS 0 rfl rfl 8 (by decide) hf_37 (fun _ h9 => h9) rfl (by decide +kernel) rfl rfl (Nat.le_of_ble_eq_true rfl) dX0_goOnFrom_34 (fun H locs hP hD hS => ?_)
    have hP : va_P (dC, dI) vwCl (wR cA r0 r1 r2 r3 r4 r5 r6 row rs tg st ln pa nd (va_up ar lv nod) (lv + 1) of) H := hP
    have hD : va_D A (wR cA r0 r1 r2 r3 r4 r5 r6 row rs tg st ln pa nd (va_up ar lv nod) (lv + 1) of) := hD
    refine lv_aload_n hx hb dX0_goOnFrom_37 rfl (lv_at hl 0 rfl) ?_
    refine va_get (D := (dC, dI)) (ci := 0) (v := .ref r3) (C := RX0) (T := TX0) (N := 10) hx hb hts hinX0 hown hK hP 0 rfl rfl 3 (by decide) hf_22 (fun _ h9 => h9) rfl dX0_goOnFrom_38 ?_
    refine lv_iload_n hx hb dX0_goOnFrom_41 rfl (lv_at hl 1 rfl) ?_
    refine hl_iald hx hb hK hP 3 0 rfl rfl (by omega) (by decide) dX0_goOnFrom_42 ?_
    have hv_3 := hst nod
    have hP9 : va_P (dC, dI) vwCl (vX0_goOnFrom cA r0 r1 r2 r3 r4 r5 r6 row rs tg st ln pa nd ar lv of nod (va_up ar lv nod, lv + 1)) _ := hP
    have hD9 : va_D A (vX0_goOnFrom cA r0 r1 r2 r3 r4 r5 r6 row rs tg st ln pa nd ar lv of nod (va_up ar lv nod, lv + 1)) := hD
    have hq9 : pX0_goOnFrom r0 r1 r2 r3 r4 r5 r6 row rs tg st ln pa nd ar lv of nod (nI (st nod)) (va_up ar lv nod, lv + 1) := Or.inl ⟨by assumption, rfl, rfl, rfl⟩
    exact W.iret (v := nI (st nod)) hx hb hr (fun t ht hW => ⟨⟨nI (st nod), (va_up ar lv nod, lv + 1), rfl, hq9, by rw [ht]; exact hP9, va_K.moved hW.alike hK, hD9⟩, hS.F ht⟩) hS.2.2 dX0_goOnFrom_43
  · refine lv_aload_n hx hb dX0_goOnFrom_11 rfl (lv_at hl 0 rfl) ?_
    refine lv_iload_n hx hb dX0_goOnFrom_12 rfl (lv_at hl 1 rfl) ?_
    refine cl_Vi (As := [.int (nI nod)]) (rest := []) (wr := []) ⟨hx, hb, hml, hown, hts⟩ (k_X0_endOf l dC dI cA r0 r1 r2 r3 r4 r5 r6 row rs tg st ln pa nd ar lv of nod _ (by omega)) (cwV 1 hts gX0_goOnFrom_X0_endOf rfl rfl rfl (by decide +kernel) ⟨Nat.le_of_ble_eq_true rfl, Nat.le_of_ble_eq_true rfl⟩) hK hP hD hS hA [0, 1, 2, 3, 4, 5, 6] [] rfl rfl (by decide) (by decide) (by decide) (ci := 0) (q0 := 0) rfl rfl rfl rfl hl.1 rfl (Nat.le_of_ble_eq_true rfl) dX0_goOnFrom_13 ⟨Nat.le_of_ble_eq_true rfl, Nat.le_of_ble_eq_true rfl⟩ (fun r_4 u_4 H locs hw_4 hP hD hS => ?_)
    have hP : va_P (dC, dI) vwCl (wR cA r0 r1 r2 r3 r4 r5 r6 row rs tg st ln pa nd ar lv of) H := hP
    have hD : va_D A (wR cA r0 r1 r2 r3 r4 r5 r6 row rs tg st ln pa nd ar lv of) := hD
    have hw_4 : r_4 = nI (st nod + ln nod) := hw_4
    have hw_4 := hw_4.symm
    subst hw_4
    have hP9 : va_P (dC, dI) vwCl (vX0_goOnFrom cA r0 r1 r2 r3 r4 r5 r6 row rs tg st ln pa nd ar lv of nod (ar, lv)) _ := hP
    have hD9 : va_D A (vX0_goOnFrom cA r0 r1 r2 r3 r4 r5 r6 row rs tg st ln pa nd ar lv of nod (ar, lv)) := hD
    have hq9 : pX0_goOnFrom r0 r1 r2 r3 r4 r5 r6 row rs tg st ln pa nd ar lv of nod (nI (st nod + ln nod)) (ar, lv) := Or.inr ⟨by assumption, rfl, rfl, rfl⟩
    exact W.iret (v := nI (st nod + ln nod)) hx hb hr (fun t ht hW => ⟨⟨nI (st nod + ln nod), (ar, lv), rfl, hq9, by rw [ht]; exact hP9, va_K.moved hW.alike hK, hD9⟩, hS.F ht⟩) hS.2.2 dX0_goOnFrom_16
abbrev pX0_leaveSequencesThatEndAt (r0 : Nat) (r1 : Nat) (r2 : Nat) (r3 : Nat) (r4 : Nat) (r5 : Nat) (r6 : Nat) (row : Nat → Nat) (rs : Nat) (tg : Nat → Nat) (st : Nat → Nat) (ln : Nat → Nat) (pa : Nat → Int32) (nd : Nat) (ar : Nat → Nat) (lv : Nat) (of : Int32) (pl : Nat) : Nat → Prop := fun (lv2 : Nat) => lv2 = popN st ln ar pl lv
abbrev vX0_leaveSequencesThatEndAt (cA : ClassId) (r0 : Nat) (r1 : Nat) (r2 : Nat) (r3 : Nat) (r4 : Nat) (r5 : Nat) (r6 : Nat) (row : Nat → Nat) (rs : Nat) (tg : Nat → Nat) (st : Nat → Nat) (ln : Nat → Nat) (pa : Nat → Int32) (nd : Nat) (ar : Nat → Nat) (lv : Nat) (of : Int32) (pl : Nat) : Nat → va_W := fun (lv2 : Nat) => wR cA r0 r1 r2 r3 r4 r5 r6 row rs tg st ln pa nd ar lv2 of
abbrev qX0_leaveSequencesThatEndAt (dC : Nat → ClassId) (dI : Nat → Nat → Nat) (cA : ClassId) (A : Nat → Prop) (r0 : Nat) (r1 : Nat) (r2 : Nat) (r3 : Nat) (r4 : Nat) (r5 : Nat) (r6 : Nat) (row : Nat → Nat) (rs : Nat) (tg : Nat → Nat) (st : Nat → Nat) (ln : Nat → Nat) (pa : Nat → Int32) (nd : Nat) (ar : Nat → Nat) (lv : Nat) (of : Int32) (pl : Nat) : Array Value → State → Outcome → State → Prop := va_Qv (pX0_leaveSequencesThatEndAt r0 r1 r2 r3 r4 r5 r6 row rs tg st ln pa nd ar lv of pl) (fun u => cAft dC dI cA A (vX0_leaveSequencesThatEndAt cA r0 r1 r2 r3 r4 r5 r6 row rs tg st ln pa nd ar lv of pl u)) A
set_option maxHeartbeats 4000000 in
set_option maxRecDepth 100000 in
theorem k_X0_leaveSequencesThatEndAt (l : Launch) (dC : Nat → ClassId) (dI : Nat → Nat → Nat) (cA : ClassId) (r0 : Nat) (r1 : Nat) (r2 : Nat) (r3 : Nat) (r4 : Nat) (r5 : Nat) (r6 : Nat) (row : Nat → Nat) (rs : Nat) (tg : Nat → Nat) (st : Nat → Nat) (ln : Nat → Nat) (pa : Nat → Int32) (nd : Nat) (ar : Nat → Nat) (lv : Nat) (of : Int32) (pl : Nat) (sz : Nat) (hst : ∀ j, st j < 1000) (hln : ∀ j, ln j < 65536) (har : ∀ j, ar j < 64) (hlv : lv ≤ 16) (hpl : pl ≤ 300) : Met l yX0_leaveSequencesThatEndAt wsX0_leaveSequencesThatEndAt ({ frames := 1, cells := 0, slots := 0, locals := 21 } : Room) (va_Pc [.ref r0, .int (nI pl)] (cPre dC dI cA (wR cA r0 r1 r2 r3 r4 r5 r6 row rs tg st ln pa nd ar lv of) sz)) (qX0_leaveSequencesThatEndAt dC dI cA (va_A (wR cA r0 r1 r2 r3 r4 r5 r6 row rs tg st ln pa nd ar lv of) sz) r0 r1 r2 r3 r4 r5 r6 row rs tg st ln pa nd ar lv of pl) 0 0 (va_A (wR cA r0 r1 r2 r3 r4 r5 r6 row rs tg st ln pa nd ar lv of) sz) := by
  refine Met.ofW (cc := cX0_leaveSequencesThatEndAt) (maxL := 2) (ret := none) (by decide) rfl ?_
  intro p e s m args below meth c s₁ B hml hv
  obtain ⟨rfl, hsz, hP, hK, hD0⟩ := hv
  have hx := B.exec
  have hb := B.bytes
  have hr := B.returns
  have hts := atoms_spec (ws := wsX0_leaveSequencesThatEndAt) B.pre
  have hown : s.vm.findClass RX0 = some m.cls := findClass_of_methodNamed B.named
  have hlocks := B.notSynchronized
  subst hsz
  have hD := hD0.self (sz := s.heap.size)
  generalize hAe : va_A (wR cA r0 r1 r2 r3 r4 r5 r6 row rs tg st ln pa nd ar lv of) s.heap.size = A at hD ⊢
  have hA : ∀ q : Nat, s.heap.size ≤ q → A q := fun q h => by rw [← hAe]; exact Or.inr h
  have hS : va_S A s.heap s.heap [] := va_S.rf
  have hl := lv_entry ([.ref r0, .int (nI pl)]) (n := 2) (Nat.le_of_ble_eq_true rfl)
  rw [lg_entry_eq]
  generalize (lg_sl ([.ref r0, .int (nI pl)]) ++ List.replicate (2 - (lg_sl ([.ref r0, .int (nI pl)])).length) Slot.unset).toArray = ls at hl ⊢
  have hl : lv_has ls 2 [(0, .ref r0), (1, .int (nI pl))] := hl
  have hinX0 : ∀ w ∈ wsX00, w ∈ wsX0_leaveSequencesThatEndAt := fun _ h => List.mem_cons_of_mem _ (List.mem_append_right _ h)
  have hf_34 := hts (.fieldLink RX0 34 "DerDesk$Reader" "around" "[I") (by decide +kernel)
  have hf_37 := hts (.fieldLink RX0 37 "DerDesk$Reader" "level" "I") (by decide +kernel)
  have hP : va_P (dC, dI) vwCl (wR cA r0 r1 r2 r3 r4 r5 r6 row rs tg st ln pa nd ar lv of) s.heap := hP
  have lp_0 : ∀ (nf : Nat) (lw : Nat), lw < nf → (lw ≤ 16) → (popN st ln ar pl lw = popN st ln ar pl lv) → ∀ (H : Heap) (locs : List Loc) (ls : Array Slot), va_P (dC, dI) vwCl (wR cA r0 r1 r2 r3 r4 r5 r6 row rs tg st ln pa nd ar lw of) H → va_D A (wR cA r0 r1 r2 r3 r4 r5 r6 row rs tg st ln pa nd ar lw of) → va_S A s.heap H locs → lv_has ls 2 [(0, .ref r0), (1, .int (nI pl))] → W p l e (headSpec wsX0_leaveSequencesThatEndAt ({ frames := 1, cells := 0, slots := 0, locals := 21 } : Room)).room s m ([.ref r0, .int (nI pl)] : List Value).toArray below meth c H locs 0 0 (MQ below (qX0_leaveSequencesThatEndAt dC dI cA A r0 r1 r2 r3 r4 r5 r6 row rs tg st ln pa nd ar lv of pl) ([.ref r0, .int (nI pl)] : List Value).toArray s 0 0 A) (F0 m 0 ls []) := by
    intro nf
    induction nf with
    | zero =>
      intro lw hm
      exact absurd hm (Nat.not_lt_zero _)
    | succ nf ih_0 =>
      intro lw hm hlw hpop H locs ls hP hD hS hl
      refine lv_aload_n hx hb dX0_leaveSequencesThatEndAt_0 rfl (lv_at hl 0 rfl) ?_
      refine va_get (D := (dC, dI)) (ci := 0) (v := .int (nI lw)) (C := RX0) (T := TX0) (N := 10) hx hb hts hinX0 hown hK hP 0 rfl rfl 8 (by decide) hf_37 (fun _ h9 => h9) rfl dX0_leaveSequencesThatEndAt_1 ?_
      refine hl_if_le (tgt := 39) hx hb dX0_leaveSequencesThatEndAt_4 (by decide) (by omega) (fun c_2 => ?_) (fun c_2 => ?_)
      · have hP9 : va_P (dC, dI) vwCl (vX0_leaveSequencesThatEndAt cA r0 r1 r2 r3 r4 r5 r6 row rs tg st ln pa nd ar lv of pl lw) _ := hP
        have hD9 : va_D A (vX0_leaveSequencesThatEndAt cA r0 r1 r2 r3 r4 r5 r6 row rs tg st ln pa nd ar lv of pl lw) := hD
        have hq9 : pX0_leaveSequencesThatEndAt r0 r1 r2 r3 r4 r5 r6 row rs tg st ln pa nd ar lv of pl lw := ((popN_stop (by first | (left; omega) | (right; assumption))).symm.trans hpop)
        exact W.vret hx hb hr (fun t ht hW => ⟨⟨lw, rfl, hq9, by rw [ht]; exact hP9, va_K.moved hW.alike hK, hD9⟩, hS.F ht⟩) hS.2.2 dX0_leaveSequencesThatEndAt_39
      · refine lv_aload_n hx hb dX0_leaveSequencesThatEndAt_7 rfl (lv_at hl 0 rfl) ?_
        refine lv_aload_n hx hb dX0_leaveSequencesThatEndAt_8 rfl (lv_at hl 0 rfl) ?_
        refine va_get (D := (dC, dI)) (ci := 0) (v := .ref r6) (C := RX0) (T := TX0) (N := 10) hx hb hts hinX0 hown hK hP 0 rfl rfl 7 (by decide) hf_34 (fun _ h9 => h9) rfl dX0_leaveSequencesThatEndAt_9 ?_
        refine lv_aload_n hx hb dX0_leaveSequencesThatEndAt_12 rfl (lv_at hl 0 rfl) ?_
        refine va_get (D := (dC, dI)) (ci := 0) (v := .int (nI lw)) (C := RX0) (T := TX0) (N := 10) hx hb hts hinX0 hown hK hP 0 rfl rfl 8 (by decide) hf_37 (fun _ h9 => h9) rfl dX0_leaveSequencesThatEndAt_13 ?_
        refine lv_iconst (v := nI 1) hx hb dX0_leaveSequencesThatEndAt_16 (by decide) ?_
        refine hl_isub hx hb (by omega) dX0_leaveSequencesThatEndAt_17 ?_
        refine hl_iald hx hb hK hP 6 0 rfl rfl (by omega) (by decide) dX0_leaveSequencesThatEndAt_18 ?_
        have hv_3 := har (lw - 1)
        refine cl_Vi (As := [.int (nI (ar (lw - 1)))]) (rest := []) (wr := []) ⟨hx, hb, hml, hown, hts⟩ (k_X0_endOf l dC dI cA r0 r1 r2 r3 r4 r5 r6 row rs tg st ln pa nd ar lw of (ar (lw - 1)) _ (by omega)) (cwV 1 hts gX0_leaveSequencesThatEndAt_X0_endOf rfl rfl rfl (by decide +kernel) ⟨Nat.le_of_ble_eq_true rfl, Nat.le_of_ble_eq_true rfl⟩) hK hP hD hS hA [0, 1, 2, 3, 4, 5, 6] [] rfl rfl (by decide) (by decide) (by decide) (ci := 0) (q0 := 0) rfl rfl rfl rfl hl.1 rfl (Nat.le_of_ble_eq_true rfl) dX0_leaveSequencesThatEndAt_19 ⟨Nat.le_of_ble_eq_true rfl, Nat.le_of_ble_eq_true rfl⟩ (fun r_4 u_4 H locs hw_4 hP hD hS => ?_)
        have hP : va_P (dC, dI) vwCl (wR cA r0 r1 r2 r3 r4 r5 r6 row rs tg st ln pa nd ar lw of) H := hP
        have hD : va_D A (wR cA r0 r1 r2 r3 r4 r5 r6 row rs tg st ln pa nd ar lw of) := hD
        have hw_4 : r_4 = nI (st (ar (lw - 1)) + ln (ar (lw - 1))) := hw_4
        have hw_4 := hw_4.symm
        subst hw_4
        have hE1 := hst (ar (lw - 1))
        have hE2 := hln (ar (lw - 1))
        refine lv_iload_n hx hb dX0_leaveSequencesThatEndAt_22 rfl (lv_at hl 1 rfl) ?_
        refine hl_icmp_ne (tgt := 39) hx hb dX0_leaveSequencesThatEndAt_23 (by decide) (by omega) (by omega) (fun c_5 => ?_) (fun c_5 => ?_)
        · have hP9 : va_P (dC, dI) vwCl (vX0_leaveSequencesThatEndAt cA r0 r1 r2 r3 r4 r5 r6 row rs tg st ln pa nd ar lv of pl lw) _ := hP
          have hD9 : va_D A (vX0_leaveSequencesThatEndAt cA r0 r1 r2 r3 r4 r5 r6 row rs tg st ln pa nd ar lv of pl lw) := hD
          have hq9 : pX0_leaveSequencesThatEndAt r0 r1 r2 r3 r4 r5 r6 row rs tg st ln pa nd ar lv of pl lw := ((popN_stop (by first | (left; omega) | (right; assumption))).symm.trans hpop)
          exact W.vret hx hb hr (fun t ht hW => ⟨⟨lw, rfl, hq9, by rw [ht]; exact hP9, va_K.moved hW.alike hK, hD9⟩, hS.F ht⟩) hS.2.2 dX0_leaveSequencesThatEndAt_39
        · refine lv_aload_n hx hb dX0_leaveSequencesThatEndAt_26 rfl (lv_at hl 0 rfl) ?_
          refine lv_dup hx hb dX0_leaveSequencesThatEndAt_27 rfl ?_
          refine va_get (D := (dC, dI)) (ci := 0) (v := .int (nI lw)) (C := RX0) (T := TX0) (N := 10) hx hb hts hinX0 hown hK hP 0 rfl rfl 8 (by decide) hf_37 (fun _ h9 => h9) rfl dX0_leaveSequencesThatEndAt_28 ?_
          refine lv_iconst (v := nI 1) hx hb dX0_leaveSequencesThatEndAt_31 (by decide) ?_
          refine hl_isub hx hb (by omega) dX0_leaveSequencesThatEndAt_32 ?_
          refine va_put (D := (dC, dI)) (ci := 0) (v := .int (nI (lw - 1))) (ty := .int) (C := RX0) (T := TX0) (N := 10) hx hb hts hinX0 tyX0 tyX0_ok nmX0 hown hK hP hD hS 0 rfl rfl 8 (by decide) hf_37 (fun _ h9 => h9) rfl (by decide +kernel) rfl rfl (Nat.le_of_ble_eq_true rfl) dX0_leaveSequencesThatEndAt_33 (fun H locs hP hD hS => ?_)
          have hP : va_P (dC, dI) vwCl (wR cA r0 r1 r2 r3 r4 r5 r6 row rs tg st ln pa nd ar (lw - 1) of) H := hP
          have hD : va_D A (wR cA r0 r1 r2 r3 r4 r5 r6 row rs tg st ln pa nd ar (lw - 1) of) := hD
          refine lv_goto (tgt := 0) hx hb dX0_leaveSequencesThatEndAt_36 (by decide) ?_
          exact ih_0 (lw - 1) (by omega) (by omega) (by rw [← hpop]; exact (popN_go (by omega) (by assumption)).symm) _ _ _ hP hD hS (lv_sub hl [0, 1] rfl)
  exact lp_0 (lv + 1) lv (Nat.lt_succ_self _) (by omega) rfl _ _ _ hP hD hS (lv_sub hl [0, 1] rfl)
end
section
abbrev pX0_readValues (r0 : Nat) (r1 : Nat) (r2 : Nat) (r3 : Nat) (r4 : Nat) (r5 : Nat) (r6 : Nat) (row : Nat → Nat) (rs : Nat) (tg : Nat → Nat) (st : Nat → Nat) (ln : Nat → Nat) (pa : Nat → Int32) (ar : Nat → Nat) (of : Int32) : Int32 → Int32 × Nat × Nat × (Nat → Nat) × (Nat → Nat) × (Nat → Nat) × (Nat → Nat) × (Nat → Int32) × Nat → Prop := fun (r : Int32) (u : Int32 × Nat × Nat × (Nat → Nat) × (Nat → Nat) × (Nat → Nat) × (Nat → Nat) × (Nat → Int32) × Nat) => match u with | (of2, nd2, lv2, tg2, st2, ln2, ar2, pa2, pl2) => ((runS row rs 65 (0, 0, 0, tg, st, ln, ar, pa) = .inr (pl2, nd2, lv2, tg2, st2, ln2, ar2, pa2) ∧ r = nI 0 ∧ of2 = of ∧ PInv rs pl2 nd2 lv2 tg2 st2 ln2 ar2 ∧ 0 < nd2) ∨ (runS row rs 65 (0, 0, 0, tg, st, ln, ar, pa) = .inl (r, of2) ∧ r ≠ 0)) ∧ (∀ j, tg2 j < 256) ∧ (∀ j, st2 j < 1000) ∧ (∀ j, ln2 j < 65536) ∧ (∀ j, ar2 j < 64) ∧ nd2 ≤ 64 ∧ lv2 ≤ 16
abbrev vX0_readValues (cA : ClassId) (r0 : Nat) (r1 : Nat) (r2 : Nat) (r3 : Nat) (r4 : Nat) (r5 : Nat) (r6 : Nat) (row : Nat → Nat) (rs : Nat) (tg : Nat → Nat) (st : Nat → Nat) (ln : Nat → Nat) (pa : Nat → Int32) (ar : Nat → Nat) (of : Int32) : Int32 × Nat × Nat × (Nat → Nat) × (Nat → Nat) × (Nat → Nat) × (Nat → Nat) × (Nat → Int32) × Nat → va_W := fun (u : Int32 × Nat × Nat × (Nat → Nat) × (Nat → Nat) × (Nat → Nat) × (Nat → Nat) × (Nat → Int32) × Nat) => match u with | (of2, nd2, lv2, tg2, st2, ln2, ar2, pa2, pl2) => wR cA r0 r1 r2 r3 r4 r5 r6 row rs tg2 st2 ln2 pa2 nd2 ar2 lv2 of2
abbrev qX0_readValues (dC : Nat → ClassId) (dI : Nat → Nat → Nat) (cA : ClassId) (A : Nat → Prop) (r0 : Nat) (r1 : Nat) (r2 : Nat) (r3 : Nat) (r4 : Nat) (r5 : Nat) (r6 : Nat) (row : Nat → Nat) (rs : Nat) (tg : Nat → Nat) (st : Nat → Nat) (ln : Nat → Nat) (pa : Nat → Int32) (ar : Nat → Nat) (of : Int32) : Array Value → State → Outcome → State → Prop := va_Qi (pX0_readValues r0 r1 r2 r3 r4 r5 r6 row rs tg st ln pa ar of) (fun u => cAft dC dI cA A (vX0_readValues cA r0 r1 r2 r3 r4 r5 r6 row rs tg st ln pa ar of u)) A
set_option maxHeartbeats 4000000 in
set_option maxRecDepth 100000 in
theorem k_X0_readValues (l : Launch) (dC : Nat → ClassId) (dI : Nat → Nat → Nat) (cA : ClassId) (r0 : Nat) (r1 : Nat) (r2 : Nat) (r3 : Nat) (r4 : Nat) (r5 : Nat) (r6 : Nat) (row : Nat → Nat) (rs : Nat) (tg : Nat → Nat) (st : Nat → Nat) (ln : Nat → Nat) (pa : Nat → Int32) (ar : Nat → Nat) (of : Int32) (sz : Nat) (hrow : ∀ j, row j < 256) (htg : ∀ j, tg j < 256) (hst : ∀ j, st j < 1000) (hln : ∀ j, ln j < 65536) (har : ∀ j, ar j < 64) (hrs : rs ≤ 300) : Met l yX0_readValues wsX0_readValues ({ frames := 4, cells := 0, slots := 0, locals := 92 } : Room) (va_Pc [.ref r0] (cPre dC dI cA (wR cA r0 r1 r2 r3 r4 r5 r6 row rs tg st ln pa 0 ar 0 of) sz)) (qX0_readValues dC dI cA (va_A (wR cA r0 r1 r2 r3 r4 r5 r6 row rs tg st ln pa 0 ar 0 of) sz) r0 r1 r2 r3 r4 r5 r6 row rs tg st ln pa ar of) 0 0 (va_A (wR cA r0 r1 r2 r3 r4 r5 r6 row rs tg st ln pa 0 ar 0 of) sz) := by
  refine Met.ofW (cc := cX0_readValues) (maxL := 4) (ret := (some .int)) (by decide) rfl ?_
  intro p e s m args below meth c s₁ B hml hv
  obtain ⟨rfl, hsz, hP, hK, hD0⟩ := hv
  have hx := B.exec
  have hb := B.bytes
  have hr := B.returns
  have hts := atoms_spec (ws := wsX0_readValues) B.pre
  have hown : s.vm.findClass RX0 = some m.cls := findClass_of_methodNamed B.named
  have hlocks := B.notSynchronized
  subst hsz
  have hD := hD0.self (sz := s.heap.size)
  generalize hAe : va_A (wR cA r0 r1 r2 r3 r4 r5 r6 row rs tg st ln pa 0 ar 0 of) s.heap.size = A at hD ⊢
  have hA : ∀ q : Nat, s.heap.size ≤ q → A q := fun q h => by rw [← hAe]; exact Or.inr h
  have hS : va_S A s.heap s.heap [] := va_S.rf
  have hl := lv_entry ([.ref r0]) (n := 4) (Nat.le_of_ble_eq_true rfl)
  rw [lg_entry_eq]
  generalize (lg_sl ([.ref r0]) ++ List.replicate (4 - (lg_sl ([.ref r0])).length) Slot.unset).toArray = ls at hl ⊢
  have hl : lv_has ls 4 [(0, .ref r0)] := hl
  have hinX0 : ∀ w ∈ wsX00, w ∈ wsX0_readValues := fun _ h => List.mem_cons_of_mem _ (List.mem_append_right _ h)
  have hf_15 := hts (.fieldLink RX0 15 "DerDesk$Reader" "rowSize" "I") (by decide +kernel)
  have hf_31 := hts (.fieldLink RX0 31 "DerDesk$Reader" "nodes" "I") (by decide +kernel)
  have hf_37 := hts (.fieldLink RX0 37 "DerDesk$Reader" "level" "I") (by decide +kernel)
  have hP : va_P (dC, dI) vwCl (wR cA r0 r1 r2 r3 r4 r5 r6 row rs tg st ln pa 0 ar 0 of) s.heap := hP
  refine lv_iconst (v := nI 0) hx hb dX0_readValues_0 (by decide) ?_
  refine lv_istore_n (lv' := [(1, .int (nI 0)), (0, .ref r0)]) hx hb dX0_readValues_1 rfl hl (by decide) rfl (fun ls hl => ?_)
  refine lv_iconst (v := nI 0) hx hb dX0_readValues_2 (by decide) ?_
  refine lv_istore_n (lv' := [(2, .int (nI 0)), (1, .int (nI 0)), (0, .ref r0)]) hx hb dX0_readValues_3 rfl hl (by decide) rfl (fun ls hl => ?_)
  have lp_4 : ∀ (nf : Nat) (pl1 : Nat) (v1 : Nat) (nd1 : Nat) (lv1 : Nat) (tg1 : Nat → Nat) (st1 : Nat → Nat) (ln1 : Nat → Nat) (ar1 : Nat → Nat) (pa1 : Nat → Int32), 65 - v1 < nf → (PInv rs pl1 nd1 lv1 tg1 st1 ln1 ar1) → (v1 = nd1) → (runS row rs (65 - nd1) (pl1, nd1, lv1, tg1, st1, ln1, ar1, pa1) = runS row rs 65 (0, 0, 0, tg, st, ln, ar, pa)) → ∀ (H : Heap) (locs : List Loc) (ls : Array Slot), va_P (dC, dI) vwCl (wR cA r0 r1 r2 r3 r4 r5 r6 row rs tg1 st1 ln1 pa1 nd1 ar1 lv1 of) H → va_D A (wR cA r0 r1 r2 r3 r4 r5 r6 row rs tg1 st1 ln1 pa1 nd1 ar1 lv1 of) → va_S A s.heap H locs → lv_has ls 4 [(2, .int (nI v1)), (1, .int (nI pl1)), (0, .ref r0)] → W p l e (headSpec wsX0_readValues ({ frames := 4, cells := 0, slots := 0, locals := 92 } : Room)).room s m ([.ref r0] : List Value).toArray below meth c H locs 0 0 (MQ below (qX0_readValues dC dI cA A r0 r1 r2 r3 r4 r5 r6 row rs tg st ln pa ar of) ([.ref r0] : List Value).toArray s 0 0 A) (F0 m 4 ls []) := by
    intro nf
    induction nf with
    | zero =>
      intro pl1 v1 nd1 lv1 tg1 st1 ln1 ar1 pa1 hm
      exact absurd hm (Nat.not_lt_zero _)
    | succ nf ih_4 =>
      intro pl1 v1 nd1 lv1 tg1 st1 ln1 ar1 pa1 hm hI hv hrun H locs ls hP hD hS hl
      obtain ⟨i1, i2, i3, i4, i5, i6, i7, i8, i9, i10, i11⟩ := id hI
      have hlim := hI.lim
      refine lv_iload_n hx hb dX0_readValues_4 rfl (lv_at hl 0 rfl) ?_
      refine lv_bipush (v := nI 64) hx hb dX0_readValues_5 (by decide) ?_
      refine hl_icmp_gt (tgt := 71) hx hb dX0_readValues_7 (by decide) (by omega) (by omega) (fun c_2 => absurd c_2 (by omega)) (fun c_2 => ?_)
      refine lv_aload_n hx hb dX0_readValues_10 rfl (lv_at hl 2 rfl) ?_
      refine lv_iload_n hx hb dX0_readValues_11 rfl (lv_at hl 1 rfl) ?_
      refine cl_Vi (As := [.int (nI pl1)]) (rest := []) (wr := []) ⟨hx, hb, hml, hown, hts⟩ (k_X0_readValue l dC dI cA r0 r1 r2 r3 r4 r5 r6 row rs tg1 st1 ln1 pa1 nd1 ar1 lv1 of pl1 _ hrow i4 i5 i6 i7 (by omega) (by omega) (by omega) (by omega) (by omega) i8) (cwV 1 hts gX0_readValues_X0_readValue rfl rfl rfl (by decide +kernel) ⟨Nat.le_of_ble_eq_true rfl, Nat.le_of_ble_eq_true rfl⟩) hK hP hD hS hA [0, 1, 2, 3, 4, 5, 6] [] rfl rfl (by decide) (by decide) (by decide) (ci := 0) (q0 := 0) rfl rfl rfl rfl hl.1 rfl (Nat.le_of_ble_eq_true rfl) dX0_readValues_12 ⟨Nat.le_of_ble_eq_true rfl, Nat.le_of_ble_eq_true rfl⟩ (fun r_3 u_3 H locs hw_3 hP hD hS => ?_)
      obtain ⟨of2_3, nd2_3, tg2_3, st2_3, ln2_3, pa2_3, xn_3, xa_3⟩ := u_3
      have hP : va_P (dC, dI) vwCl (wR cA r0 r1 r2 r3 r4 r5 r6 row rs tg2_3 st2_3 ln2_3 pa2_3 nd2_3 ar1 lv1 of2_3) H := hP
      have hD : va_D A (wR cA r0 r1 r2 r3 r4 r5 r6 row rs tg2_3 st2_3 ln2_3 pa2_3 nd2_3 ar1 lv1 of2_3) := hD
      have hw_3 : ((valS row rs nd1 lv1 ar1 st1 ln1 pl1 = .inr (xn_3, xa_3) ∧ r_3 = nI 0 ∧ of2_3 = of ∧ nd2_3 = nd1 + 1 ∧ tg2_3 = va_up tg1 nd1 (row pl1) ∧ st2_3 = va_up st1 nd1 xa_3 ∧ ln2_3 = va_up ln1 nd1 xn_3 ∧ pa2_3 = upd pa1 nd1 (parI lv1 ar1)) ∨ (valS row rs nd1 lv1 ar1 st1 ln1 pl1 = .inl (r_3, of2_3) ∧ r_3 ≠ 0 ∧ nd2_3 = nd1)) ∧ (∀ j, tg2_3 j < 256) ∧ (∀ j, st2_3 j < 1000) ∧ (∀ j, ln2_3 j < 65536) := hw_3
      obtain ⟨hw_3, hb1, hb2, hb3⟩ := hw_3
      rcases hw_3 with ⟨hval_3, e1_3, e2_3, e3_3, e4_3, e5_3, e6_3, e7_3⟩ | ⟨hval_3, hne_3, e2_3⟩
      · have e1_3 := e1_3.symm
        subst e1_3
        have e2_3 := e2_3.symm
        subst e2_3
        have e3_3 := e3_3.symm
        subst e3_3
        have e4_3 := e4_3.symm
        subst e4_3
        have e5_3 := e5_3.symm
        subst e5_3
        have e6_3 := e6_3.symm
        subst e6_3
        have e7_3 := e7_3.symm
        subst e7_3
        have hval := hval_3
        obtain ⟨w1, w2, w3, w4, w5, w6, w7, w8⟩ := valS_ok hrow hval
        dsimp only at w5 w6 w7
        have hnx := PInv.next hrow hrs hI hval
        refine lv_istore_n (lv' := [(3, .int (nI 0)), (2, .int (nI v1)), (1, .int (nI pl1)), (0, .ref r0)]) hx hb dX0_readValues_15 rfl hl (by decide) rfl (fun ls hl => ?_)
        refine lv_iload_n hx hb dX0_readValues_16 rfl (lv_at hl 0 rfl) ?_
        refine hl_if_eq (tgt := 22) hx hb dX0_readValues_17 (by decide) (by omega) (fun c_4 => ?_) (fun c_4 => absurd c_4 (by decide))
        refine lv_aload_n hx hb dX0_readValues_22 rfl (lv_at hl 3 rfl) ?_
        refine lv_aload_n hx hb dX0_readValues_23 rfl (lv_at hl 3 rfl) ?_
        refine va_get (D := (dC, dI)) (ci := 0) (v := .int (nI (nd1 + 1))) (C := RX0) (T := TX0) (N := 10) hx hb hts hinX0 hown hK hP 0 rfl rfl 6 (by decide) hf_31 (fun _ h9 => h9) rfl dX0_readValues_24 ?_
        refine lv_iconst (v := nI 1) hx hb dX0_readValues_27 (by decide) ?_
        refine hl_isub hx hb (by omega) dX0_readValues_28 ?_
        refine hl_top (show nI (nd1 + 1 - 1) = nI nd1 from rfl) ?_
        refine cl_Vi (As := [.int (nI nd1)]) (rest := []) (wr := []) ⟨hx, hb, hml, hown, hts⟩ (k_X0_goOnFrom l dC dI cA r0 r1 r2 r3 r4 r5 r6 row rs (va_up tg1 nd1 (row pl1)) (va_up st1 nd1 xa_3) (va_up ln1 nd1 xn_3) (upd pa1 nd1 (parI lv1 ar1)) (nd1 + 1) ar1 lv1 of nd1 _ hb1 hb2 (by omega) (by omega)) (cwV 1 hts gX0_readValues_X0_goOnFrom rfl rfl rfl (by decide +kernel) ⟨Nat.le_of_ble_eq_true rfl, Nat.le_of_ble_eq_true rfl⟩) hK hP hD hS hA [0, 1, 2, 3, 4, 5, 6] [] rfl rfl (by decide) (by decide) (by decide) (ci := 0) (q0 := 0) rfl rfl rfl rfl hl.1 rfl (Nat.le_of_ble_eq_true rfl) dX0_readValues_29 ⟨Nat.le_of_ble_eq_true rfl, Nat.le_of_ble_eq_true rfl⟩ (fun r_5 u_5 H locs hw_5 hP hD hS => ?_)
        obtain ⟨ar2_5, lv2_5⟩ := u_5
        have hP : va_P (dC, dI) vwCl (wR cA r0 r1 r2 r3 r4 r5 r6 row rs (va_up tg1 nd1 (row pl1)) (va_up st1 nd1 xa_3) (va_up ln1 nd1 xn_3) (upd pa1 nd1 (parI lv1 ar1)) (nd1 + 1) ar2_5 lv2_5 of) H := hP
        have hD : va_D A (wR cA r0 r1 r2 r3 r4 r5 r6 row rs (va_up tg1 nd1 (row pl1)) (va_up st1 nd1 xa_3) (va_up ln1 nd1 xn_3) (upd pa1 nd1 (parI lv1 ar1)) (nd1 + 1) ar2_5 lv2_5 of) := hD
        have hw_5 : ((va_up tg1 nd1 (row pl1)) nd1 = 48 ∧ r_5 = nI ((va_up st1 nd1 xa_3) nd1) ∧ ar2_5 = va_up ar1 lv1 nd1 ∧ lv2_5 = lv1 + 1) ∨ (¬ (va_up tg1 nd1 (row pl1)) nd1 = 48 ∧ r_5 = nI ((va_up st1 nd1 xa_3) nd1 + (va_up ln1 nd1 xn_3) nd1) ∧ ar2_5 = ar1 ∧ lv2_5 = lv1) := hw_5
        simp only [up_eq] at hw_5
        rcases hw_5 with ⟨hsq_5, e1_5, e2_5, e3_5⟩ | ⟨hsq_5, e1_5, e2_5, e3_5⟩
        · have e1_5 := e1_5.symm
          subst e1_5
          have e2_5 := e2_5.symm
          subst e2_5
          have e3_5 := e3_5.symm
          subst e3_5
          have hAp : nxA row pl1 nd1 lv1 ar1 = va_up ar1 lv1 nd1 := if_pos hsq_5
          have hLp : nxL row pl1 lv1 = lv1 + 1 := if_pos hsq_5
          have hPp : nxP row pl1 (xn_3, xa_3) = xa_3 := if_pos hsq_5
          have hb4 : ∀ j, (va_up ar1 lv1 nd1 : Nat → Nat) j < 64 := up_lt i7 (by omega)
          refine lv_istore_n (lv' := [(1, .int (nI xa_3)), (3, .int (nI 0)), (2, .int (nI v1)), (0, .ref r0)]) hx hb dX0_readValues_32 rfl hl (by decide) rfl (fun ls hl => ?_)
          refine lv_aload_n hx hb dX0_readValues_33 rfl (lv_at hl 3 rfl) ?_
          refine lv_iload_n hx hb dX0_readValues_34 rfl (lv_at hl 0 rfl) ?_
          refine cl_Vv (As := [.int (nI xa_3)]) (rest := []) (wr := []) ⟨hx, hb, hml, hown, hts⟩ (k_X0_leaveSequencesThatEndAt l dC dI cA r0 r1 r2 r3 r4 r5 r6 row rs (va_up tg1 nd1 (row pl1)) (va_up st1 nd1 xa_3) (va_up ln1 nd1 xn_3) (upd pa1 nd1 (parI lv1 ar1)) (nd1 + 1) (va_up ar1 lv1 nd1) (lv1 + 1) of xa_3 _ hb2 hb3 hb4 (by omega) (by omega)) (cwV 1 hts gX0_readValues_X0_leaveSequencesThatEndAt rfl rfl rfl (by decide +kernel) ⟨Nat.le_of_ble_eq_true rfl, Nat.le_of_ble_eq_true rfl⟩) hK hP hD hS hA [0, 1, 2, 3, 4, 5, 6] [] rfl rfl (by decide) (by decide) (by decide) (ci := 0) (q0 := 0) rfl rfl rfl rfl hl.1 rfl (Nat.le_of_ble_eq_true rfl) dX0_readValues_35 ⟨Nat.le_of_ble_eq_true rfl, Nat.le_of_ble_eq_true rfl⟩ (fun u_6 H locs hw_6 hP hD hS => ?_)
          obtain ⟨lv2_6, eu_6⟩ : ∃ z, z = u_6 := ⟨_, rfl⟩
          subst eu_6
          have hP : va_P (dC, dI) vwCl (wR cA r0 r1 r2 r3 r4 r5 r6 row rs (va_up tg1 nd1 (row pl1)) (va_up st1 nd1 xa_3) (va_up ln1 nd1 xn_3) (upd pa1 nd1 (parI lv1 ar1)) (nd1 + 1) (va_up ar1 lv1 nd1) lv2_6 of) H := hP
          have hD : va_D A (wR cA r0 r1 r2 r3 r4 r5 r6 row rs (va_up tg1 nd1 (row pl1)) (va_up st1 nd1 xa_3) (va_up ln1 nd1 xn_3) (upd pa1 nd1 (parI lv1 ar1)) (nd1 + 1) (va_up ar1 lv1 nd1) lv2_6 of) := hD
          have hw_6 : lv2_6 = popN (va_up st1 nd1 xa_3) (va_up ln1 nd1 xn_3) (va_up ar1 lv1 nd1) xa_3 (lv1 + 1) := hw_6
          have e0_6 := hw_6
          have e0_6 := e0_6.symm
          subst e0_6
          have hV : nxV row pl1 nd1 lv1 st1 ln1 ar1 (xn_3, xa_3) = popN (va_up st1 nd1 xa_3) (va_up ln1 nd1 xn_3) (va_up ar1 lv1 nd1) xa_3 (lv1 + 1) := by unfold nxV; rw [hAp, hLp, hPp]
          rw [hV, hPp, hAp] at hnx
          have hpl16 := hnx.2.1
          refine lv_aload_n hx hb dX0_readValues_38 rfl (lv_at hl 3 rfl) ?_
          refine va_get (D := (dC, dI)) (ci := 0) (v := .int (nI (popN (va_up st1 nd1 xa_3) (va_up ln1 nd1 xn_3) (va_up ar1 lv1 nd1) xa_3 (lv1 + 1)))) (C := RX0) (T := TX0) (N := 10) hx hb hts hinX0 hown hK hP 0 rfl rfl 8 (by decide) hf_37 (fun _ h9 => h9) rfl dX0_readValues_39 ?_
          refine hl_if_ne (tgt := 65) hx hb dX0_readValues_42 (by decide) (by omega) (fun c_7 => ?_) (fun c_7 => ?_)
          · have hV0 := c_7
            rw [← hV] at hV0
            refine lv_iinc (v := (nI (v1 + 1))) (lv' := [(2, .int (nI (v1 + 1))), (1, .int (nI xa_3)), (3, .int (nI 0)), (0, .ref r0)]) hx hb dX0_readValues_65 hl (k := 2) rfl (nI_inc v1 1) (by decide) rfl (fun ls hl => ?_)
            refine lv_goto (tgt := 4) hx hb dX0_readValues_68 (by decide) ?_
            exact ih_4 xa_3 (v1 + 1) (nd1 + 1) (popN (va_up st1 nd1 xa_3) (va_up ln1 nd1 xn_3) (va_up ar1 lv1 nd1) xa_3 (lv1 + 1)) (va_up tg1 nd1 (row pl1)) (va_up st1 nd1 xa_3) (va_up ln1 nd1 xn_3) (va_up ar1 lv1 nd1) (upd pa1 nd1 (parI lv1 ar1)) (by omega) hnx (by omega) (by rw [← hrun, show 65 - nd1 = (65 - (nd1 + 1)) + 1 by omega, run_go hval hV0]; unfold nxS; rw [hV, hPp, hAp]) _ _ _ hP hD hS (lv_sub hl [0, 1, 3] rfl)
          · refine lv_iload_n hx hb dX0_readValues_45 rfl (lv_at hl 0 rfl) ?_
            refine lv_aload_n hx hb dX0_readValues_46 rfl (lv_at hl 3 rfl) ?_
            refine va_get (D := (dC, dI)) (ci := 0) (v := .int (nI rs)) (C := RX0) (T := TX0) (N := 10) hx hb hts hinX0 hown hK hP 0 rfl rfl 1 (by decide) hf_15 (fun _ h9 => h9) rfl dX0_readValues_47 ?_
            refine hl_icmp_ge (tgt := 63) hx hb dX0_readValues_50 (by decide) (by omega) (by omega) (fun c_8 => ?_) (fun c_8 => ?_)
            · refine lv_iconst (v := nI 0) hx hb dX0_readValues_63 (by decide) ?_
              have hP9 : va_P (dC, dI) vwCl (vX0_readValues cA r0 r1 r2 r3 r4 r5 r6 row rs tg st ln pa ar of (of, nd1 + 1, popN (va_up st1 nd1 xa_3) (va_up ln1 nd1 xn_3) (va_up ar1 lv1 nd1) xa_3 (lv1 + 1), va_up tg1 nd1 (row pl1), va_up st1 nd1 xa_3, va_up ln1 nd1 xn_3, va_up ar1 lv1 nd1, upd pa1 nd1 (parI lv1 ar1), xa_3)) _ := hP
              have hD9 : va_D A (vX0_readValues cA r0 r1 r2 r3 r4 r5 r6 row rs tg st ln pa ar of (of, nd1 + 1, popN (va_up st1 nd1 xa_3) (va_up ln1 nd1 xn_3) (va_up ar1 lv1 nd1) xa_3 (lv1 + 1), va_up tg1 nd1 (row pl1), va_up st1 nd1 xa_3, va_up ln1 nd1 xn_3, va_up ar1 lv1 nd1, upd pa1 nd1 (parI lv1 ar1), xa_3)) := hD
              have hq9 : pX0_readValues r0 r1 r2 r3 r4 r5 r6 row rs tg st ln pa ar of (nI 0) (of, nd1 + 1, popN (va_up st1 nd1 xa_3) (va_up ln1 nd1 xn_3) (va_up ar1 lv1 nd1) xa_3 (lv1 + 1), va_up tg1 nd1 (row pl1), va_up st1 nd1 xa_3, va_up ln1 nd1 xn_3, va_up ar1 lv1 nd1, upd pa1 nd1 (parI lv1 ar1), xa_3) := ⟨Or.inl ⟨by rw [← hrun, show 65 - nd1 = (64 - nd1) + 1 by omega]; rw [run_ok hval (by rw [hV]; assumption) (by rw [hPp]; omega)]; unfold nxS; rw [hV, hPp, hAp], rfl, rfl, hnx, by omega⟩, hb1, hb2, hb3, hb4, by omega, hpl16⟩
              exact W.iret (v := nI 0) hx hb hr (fun t ht hW => ⟨⟨nI 0, (of, nd1 + 1, popN (va_up st1 nd1 xa_3) (va_up ln1 nd1 xn_3) (va_up ar1 lv1 nd1) xa_3 (lv1 + 1), va_up tg1 nd1 (row pl1), va_up st1 nd1 xa_3, va_up ln1 nd1 xn_3, va_up ar1 lv1 nd1, upd pa1 nd1 (parI lv1 ar1), xa_3), rfl, hq9, by rw [ht]; exact hP9, va_K.moved hW.alike hK, hD9⟩, hS.F ht⟩) hS.2.2 dX0_readValues_64
            · refine lv_aload_n hx hb dX0_readValues_53 rfl (lv_at hl 3 rfl) ?_
              refine lv_bipush (v := (-6)) hx hb dX0_readValues_54 (by decide) ?_
              refine lv_iload_n hx hb dX0_readValues_56 rfl (lv_at hl 0 rfl) ?_
              refine cl_Vi (As := [.int (-6), .int (nI xa_3)]) (rest := []) (wr := []) ⟨hx, hb, hml, hown, hts⟩ (k_X0_offend l dC dI cA r0 r1 r2 r3 r4 r5 r6 row rs (va_up tg1 nd1 (row pl1)) (va_up st1 nd1 xa_3) (va_up ln1 nd1 xn_3) (upd pa1 nd1 (parI lv1 ar1)) (nd1 + 1) (va_up ar1 lv1 nd1) (popN (va_up st1 nd1 xa_3) (va_up ln1 nd1 xn_3) (va_up ar1 lv1 nd1) xa_3 (lv1 + 1)) of (-6) (nI xa_3) _ ) (cwV 2 hts gX0_readValues_X0_offend rfl rfl rfl (by decide +kernel) ⟨Nat.le_of_ble_eq_true rfl, Nat.le_of_ble_eq_true rfl⟩) hK hP hD hS hA [0, 1, 2, 3, 4, 5, 6] [] rfl rfl (by decide) (by decide) (by decide) (ci := 0) (q0 := 0) rfl rfl rfl rfl hl.1 rfl (Nat.le_of_ble_eq_true rfl) dX0_readValues_57 ⟨Nat.le_of_ble_eq_true rfl, Nat.le_of_ble_eq_true rfl⟩ (fun r_9 u_9 H locs hw_9 hP hD hS => ?_)
              obtain ⟨of2_9, eu_9⟩ : ∃ z, z = u_9 := ⟨_, rfl⟩
              subst eu_9
              have hP : va_P (dC, dI) vwCl (wR cA r0 r1 r2 r3 r4 r5 r6 row rs (va_up tg1 nd1 (row pl1)) (va_up st1 nd1 xa_3) (va_up ln1 nd1 xn_3) (upd pa1 nd1 (parI lv1 ar1)) (nd1 + 1) (va_up ar1 lv1 nd1) (popN (va_up st1 nd1 xa_3) (va_up ln1 nd1 xn_3) (va_up ar1 lv1 nd1) xa_3 (lv1 + 1)) of2_9) H := hP
              have hD : va_D A (wR cA r0 r1 r2 r3 r4 r5 r6 row rs (va_up tg1 nd1 (row pl1)) (va_up st1 nd1 xa_3) (va_up ln1 nd1 xn_3) (upd pa1 nd1 (parI lv1 ar1)) (nd1 + 1) (va_up ar1 lv1 nd1) (popN (va_up st1 nd1 xa_3) (va_up ln1 nd1 xn_3) (va_up ar1 lv1 nd1) xa_3 (lv1 + 1)) of2_9) := hD
              have hw_9 : r_9 = (-6) ∧ of2_9 = (nI xa_3) := hw_9
              obtain ⟨e0_9, e1_9⟩ := hw_9
              have e0_9 := e0_9.symm
              subst e0_9
              have e1_9 := e1_9.symm
              subst e1_9
              refine lv_goto (tgt := 64) hx hb dX0_readValues_60 (by decide) ?_
              have hP9 : va_P (dC, dI) vwCl (vX0_readValues cA r0 r1 r2 r3 r4 r5 r6 row rs tg st ln pa ar of ((nI xa_3), nd1 + 1, popN (va_up st1 nd1 xa_3) (va_up ln1 nd1 xn_3) (va_up ar1 lv1 nd1) xa_3 (lv1 + 1), va_up tg1 nd1 (row pl1), va_up st1 nd1 xa_3, va_up ln1 nd1 xn_3, va_up ar1 lv1 nd1, upd pa1 nd1 (parI lv1 ar1), xa_3)) _ := hP
              have hD9 : va_D A (vX0_readValues cA r0 r1 r2 r3 r4 r5 r6 row rs tg st ln pa ar of ((nI xa_3), nd1 + 1, popN (va_up st1 nd1 xa_3) (va_up ln1 nd1 xn_3) (va_up ar1 lv1 nd1) xa_3 (lv1 + 1), va_up tg1 nd1 (row pl1), va_up st1 nd1 xa_3, va_up ln1 nd1 xn_3, va_up ar1 lv1 nd1, upd pa1 nd1 (parI lv1 ar1), xa_3)) := hD
              have hq9 : pX0_readValues r0 r1 r2 r3 r4 r5 r6 row rs tg st ln pa ar of ((-6)) ((nI xa_3), nd1 + 1, popN (va_up st1 nd1 xa_3) (va_up ln1 nd1 xn_3) (va_up ar1 lv1 nd1) xa_3 (lv1 + 1), va_up tg1 nd1 (row pl1), va_up st1 nd1 xa_3, va_up ln1 nd1 xn_3, va_up ar1 lv1 nd1, upd pa1 nd1 (parI lv1 ar1), xa_3) := ⟨Or.inr ⟨by rw [← hrun, show 65 - nd1 = (64 - nd1) + 1 by omega]; rw [run_end hval (by rw [hV]; assumption) (by rw [hPp]; omega), hPp], by decide⟩, hb1, hb2, hb3, hb4, by omega, hpl16⟩
              exact W.iret (v := (-6)) hx hb hr (fun t ht hW => ⟨⟨(-6), ((nI xa_3), nd1 + 1, popN (va_up st1 nd1 xa_3) (va_up ln1 nd1 xn_3) (va_up ar1 lv1 nd1) xa_3 (lv1 + 1), va_up tg1 nd1 (row pl1), va_up st1 nd1 xa_3, va_up ln1 nd1 xn_3, va_up ar1 lv1 nd1, upd pa1 nd1 (parI lv1 ar1), xa_3), rfl, hq9, by rw [ht]; exact hP9, va_K.moved hW.alike hK, hD9⟩, hS.F ht⟩) hS.2.2 dX0_readValues_64
        · have e1_5 := e1_5.symm
          subst e1_5
          have e2_5 := e2_5.symm
          subst e2_5
          have e3_5 := e3_5.symm
          subst e3_5
          have hAp : nxA row pl1 nd1 lv1 ar1 = ar1 := if_neg hsq_5
          have hLp : nxL row pl1 lv1 = lv1 := if_neg hsq_5
          have hPp : nxP row pl1 (xn_3, xa_3) = xa_3 + xn_3 := if_neg hsq_5
          have hb4 : ∀ j, (ar1 : Nat → Nat) j < 64 := i7
          refine lv_istore_n (lv' := [(1, .int (nI (xa_3 + xn_3))), (3, .int (nI 0)), (2, .int (nI v1)), (0, .ref r0)]) hx hb dX0_readValues_32 rfl hl (by decide) rfl (fun ls hl => ?_)
          refine lv_aload_n hx hb dX0_readValues_33 rfl (lv_at hl 3 rfl) ?_
          refine lv_iload_n hx hb dX0_readValues_34 rfl (lv_at hl 0 rfl) ?_
          refine cl_Vv (As := [.int (nI (xa_3 + xn_3))]) (rest := []) (wr := []) ⟨hx, hb, hml, hown, hts⟩ (k_X0_leaveSequencesThatEndAt l dC dI cA r0 r1 r2 r3 r4 r5 r6 row rs (va_up tg1 nd1 (row pl1)) (va_up st1 nd1 xa_3) (va_up ln1 nd1 xn_3) (upd pa1 nd1 (parI lv1 ar1)) (nd1 + 1) ar1 lv1 of (xa_3 + xn_3) _ hb2 hb3 hb4 (by omega) (by omega)) (cwV 1 hts gX0_readValues_X0_leaveSequencesThatEndAt rfl rfl rfl (by decide +kernel) ⟨Nat.le_of_ble_eq_true rfl, Nat.le_of_ble_eq_true rfl⟩) hK hP hD hS hA [0, 1, 2, 3, 4, 5, 6] [] rfl rfl (by decide) (by decide) (by decide) (ci := 0) (q0 := 0) rfl rfl rfl rfl hl.1 rfl (Nat.le_of_ble_eq_true rfl) dX0_readValues_35 ⟨Nat.le_of_ble_eq_true rfl, Nat.le_of_ble_eq_true rfl⟩ (fun u_10 H locs hw_10 hP hD hS => ?_)
          obtain ⟨lv2_10, eu_10⟩ : ∃ z, z = u_10 := ⟨_, rfl⟩
          subst eu_10
          have hP : va_P (dC, dI) vwCl (wR cA r0 r1 r2 r3 r4 r5 r6 row rs (va_up tg1 nd1 (row pl1)) (va_up st1 nd1 xa_3) (va_up ln1 nd1 xn_3) (upd pa1 nd1 (parI lv1 ar1)) (nd1 + 1) ar1 lv2_10 of) H := hP
          have hD : va_D A (wR cA r0 r1 r2 r3 r4 r5 r6 row rs (va_up tg1 nd1 (row pl1)) (va_up st1 nd1 xa_3) (va_up ln1 nd1 xn_3) (upd pa1 nd1 (parI lv1 ar1)) (nd1 + 1) ar1 lv2_10 of) := hD
          have hw_10 : lv2_10 = popN (va_up st1 nd1 xa_3) (va_up ln1 nd1 xn_3) ar1 (xa_3 + xn_3) lv1 := hw_10
          have e0_10 := hw_10
          have e0_10 := e0_10.symm
          subst e0_10
          have hV : nxV row pl1 nd1 lv1 st1 ln1 ar1 (xn_3, xa_3) = popN (va_up st1 nd1 xa_3) (va_up ln1 nd1 xn_3) ar1 (xa_3 + xn_3) lv1 := by unfold nxV; rw [hAp, hLp, hPp]
          rw [hV, hPp, hAp] at hnx
          have hpl16 := hnx.2.1
          refine lv_aload_n hx hb dX0_readValues_38 rfl (lv_at hl 3 rfl) ?_
          refine va_get (D := (dC, dI)) (ci := 0) (v := .int (nI (popN (va_up st1 nd1 xa_3) (va_up ln1 nd1 xn_3) ar1 (xa_3 + xn_3) lv1))) (C := RX0) (T := TX0) (N := 10) hx hb hts hinX0 hown hK hP 0 rfl rfl 8 (by decide) hf_37 (fun _ h9 => h9) rfl dX0_readValues_39 ?_
          refine hl_if_ne (tgt := 65) hx hb dX0_readValues_42 (by decide) (by omega) (fun c_11 => ?_) (fun c_11 => ?_)
          · have hV0 := c_11
            rw [← hV] at hV0
            refine lv_iinc (v := (nI (v1 + 1))) (lv' := [(2, .int (nI (v1 + 1))), (1, .int (nI (xa_3 + xn_3))), (3, .int (nI 0)), (0, .ref r0)]) hx hb dX0_readValues_65 hl (k := 2) rfl (nI_inc v1 1) (by decide) rfl (fun ls hl => ?_)
            refine lv_goto (tgt := 4) hx hb dX0_readValues_68 (by decide) ?_
            exact ih_4 (xa_3 + xn_3) (v1 + 1) (nd1 + 1) (popN (va_up st1 nd1 xa_3) (va_up ln1 nd1 xn_3) ar1 (xa_3 + xn_3) lv1) (va_up tg1 nd1 (row pl1)) (va_up st1 nd1 xa_3) (va_up ln1 nd1 xn_3) ar1 (upd pa1 nd1 (parI lv1 ar1)) (by omega) hnx (by omega) (by rw [← hrun, show 65 - nd1 = (65 - (nd1 + 1)) + 1 by omega, run_go hval hV0]; unfold nxS; rw [hV, hPp, hAp]) _ _ _ hP hD hS (lv_sub hl [0, 1, 3] rfl)
          · refine lv_iload_n hx hb dX0_readValues_45 rfl (lv_at hl 0 rfl) ?_
            refine lv_aload_n hx hb dX0_readValues_46 rfl (lv_at hl 3 rfl) ?_
            refine va_get (D := (dC, dI)) (ci := 0) (v := .int (nI rs)) (C := RX0) (T := TX0) (N := 10) hx hb hts hinX0 hown hK hP 0 rfl rfl 1 (by decide) hf_15 (fun _ h9 => h9) rfl dX0_readValues_47 ?_
            refine hl_icmp_ge (tgt := 63) hx hb dX0_readValues_50 (by decide) (by omega) (by omega) (fun c_12 => ?_) (fun c_12 => ?_)
            · refine lv_iconst (v := nI 0) hx hb dX0_readValues_63 (by decide) ?_
              have hP9 : va_P (dC, dI) vwCl (vX0_readValues cA r0 r1 r2 r3 r4 r5 r6 row rs tg st ln pa ar of (of, nd1 + 1, popN (va_up st1 nd1 xa_3) (va_up ln1 nd1 xn_3) ar1 (xa_3 + xn_3) lv1, va_up tg1 nd1 (row pl1), va_up st1 nd1 xa_3, va_up ln1 nd1 xn_3, ar1, upd pa1 nd1 (parI lv1 ar1), xa_3 + xn_3)) _ := hP
              have hD9 : va_D A (vX0_readValues cA r0 r1 r2 r3 r4 r5 r6 row rs tg st ln pa ar of (of, nd1 + 1, popN (va_up st1 nd1 xa_3) (va_up ln1 nd1 xn_3) ar1 (xa_3 + xn_3) lv1, va_up tg1 nd1 (row pl1), va_up st1 nd1 xa_3, va_up ln1 nd1 xn_3, ar1, upd pa1 nd1 (parI lv1 ar1), xa_3 + xn_3)) := hD
              have hq9 : pX0_readValues r0 r1 r2 r3 r4 r5 r6 row rs tg st ln pa ar of (nI 0) (of, nd1 + 1, popN (va_up st1 nd1 xa_3) (va_up ln1 nd1 xn_3) ar1 (xa_3 + xn_3) lv1, va_up tg1 nd1 (row pl1), va_up st1 nd1 xa_3, va_up ln1 nd1 xn_3, ar1, upd pa1 nd1 (parI lv1 ar1), xa_3 + xn_3) := ⟨Or.inl ⟨by rw [← hrun, show 65 - nd1 = (64 - nd1) + 1 by omega]; rw [run_ok hval (by rw [hV]; assumption) (by rw [hPp]; omega)]; unfold nxS; rw [hV, hPp, hAp], rfl, rfl, hnx, by omega⟩, hb1, hb2, hb3, hb4, by omega, hpl16⟩
              exact W.iret (v := nI 0) hx hb hr (fun t ht hW => ⟨⟨nI 0, (of, nd1 + 1, popN (va_up st1 nd1 xa_3) (va_up ln1 nd1 xn_3) ar1 (xa_3 + xn_3) lv1, va_up tg1 nd1 (row pl1), va_up st1 nd1 xa_3, va_up ln1 nd1 xn_3, ar1, upd pa1 nd1 (parI lv1 ar1), xa_3 + xn_3), rfl, hq9, by rw [ht]; exact hP9, va_K.moved hW.alike hK, hD9⟩, hS.F ht⟩) hS.2.2 dX0_readValues_64
            · refine lv_aload_n hx hb dX0_readValues_53 rfl (lv_at hl 3 rfl) ?_
              refine lv_bipush (v := (-6)) hx hb dX0_readValues_54 (by decide) ?_
              refine lv_iload_n hx hb dX0_readValues_56 rfl (lv_at hl 0 rfl) ?_
              refine cl_Vi (As := [.int (-6), .int (nI (xa_3 + xn_3))]) (rest := []) (wr := []) ⟨hx, hb, hml, hown, hts⟩ (k_X0_offend l dC dI cA r0 r1 r2 r3 r4 r5 r6 row rs (va_up tg1 nd1 (row pl1)) (va_up st1 nd1 xa_3) (va_up ln1 nd1 xn_3) (upd pa1 nd1 (parI lv1 ar1)) (nd1 + 1) ar1 (popN (va_up st1 nd1 xa_3) (va_up ln1 nd1 xn_3) ar1 (xa_3 + xn_3) lv1) of (-6) (nI (xa_3 + xn_3)) _ ) (cwV 2 hts gX0_readValues_X0_offend rfl rfl rfl (by decide +kernel) ⟨Nat.le_of_ble_eq_true rfl, Nat.le_of_ble_eq_true rfl⟩) hK hP hD hS hA [0, 1, 2, 3, 4, 5, 6] [] rfl rfl (by decide) (by decide) (by decide) (ci := 0) (q0 := 0) rfl rfl rfl rfl hl.1 rfl (Nat.le_of_ble_eq_true rfl) dX0_readValues_57 ⟨Nat.le_of_ble_eq_true rfl, Nat.le_of_ble_eq_true rfl⟩ (fun r_13 u_13 H locs hw_13 hP hD hS => ?_)
              obtain ⟨of2_13, eu_13⟩ : ∃ z, z = u_13 := ⟨_, rfl⟩
              subst eu_13
              have hP : va_P (dC, dI) vwCl (wR cA r0 r1 r2 r3 r4 r5 r6 row rs (va_up tg1 nd1 (row pl1)) (va_up st1 nd1 xa_3) (va_up ln1 nd1 xn_3) (upd pa1 nd1 (parI lv1 ar1)) (nd1 + 1) ar1 (popN (va_up st1 nd1 xa_3) (va_up ln1 nd1 xn_3) ar1 (xa_3 + xn_3) lv1) of2_13) H := hP
              have hD : va_D A (wR cA r0 r1 r2 r3 r4 r5 r6 row rs (va_up tg1 nd1 (row pl1)) (va_up st1 nd1 xa_3) (va_up ln1 nd1 xn_3) (upd pa1 nd1 (parI lv1 ar1)) (nd1 + 1) ar1 (popN (va_up st1 nd1 xa_3) (va_up ln1 nd1 xn_3) ar1 (xa_3 + xn_3) lv1) of2_13) := hD
              have hw_13 : r_13 = (-6) ∧ of2_13 = (nI (xa_3 + xn_3)) := hw_13
              obtain ⟨e0_13, e1_13⟩ := hw_13
              have e0_13 := e0_13.symm
              subst e0_13
              have e1_13 := e1_13.symm
              subst e1_13
              refine lv_goto (tgt := 64) hx hb dX0_readValues_60 (by decide) ?_
              have hP9 : va_P (dC, dI) vwCl (vX0_readValues cA r0 r1 r2 r3 r4 r5 r6 row rs tg st ln pa ar of ((nI (xa_3 + xn_3)), nd1 + 1, popN (va_up st1 nd1 xa_3) (va_up ln1 nd1 xn_3) ar1 (xa_3 + xn_3) lv1, va_up tg1 nd1 (row pl1), va_up st1 nd1 xa_3, va_up ln1 nd1 xn_3, ar1, upd pa1 nd1 (parI lv1 ar1), xa_3 + xn_3)) _ := hP
              have hD9 : va_D A (vX0_readValues cA r0 r1 r2 r3 r4 r5 r6 row rs tg st ln pa ar of ((nI (xa_3 + xn_3)), nd1 + 1, popN (va_up st1 nd1 xa_3) (va_up ln1 nd1 xn_3) ar1 (xa_3 + xn_3) lv1, va_up tg1 nd1 (row pl1), va_up st1 nd1 xa_3, va_up ln1 nd1 xn_3, ar1, upd pa1 nd1 (parI lv1 ar1), xa_3 + xn_3)) := hD
              have hq9 : pX0_readValues r0 r1 r2 r3 r4 r5 r6 row rs tg st ln pa ar of ((-6)) ((nI (xa_3 + xn_3)), nd1 + 1, popN (va_up st1 nd1 xa_3) (va_up ln1 nd1 xn_3) ar1 (xa_3 + xn_3) lv1, va_up tg1 nd1 (row pl1), va_up st1 nd1 xa_3, va_up ln1 nd1 xn_3, ar1, upd pa1 nd1 (parI lv1 ar1), xa_3 + xn_3) := ⟨Or.inr ⟨by rw [← hrun, show 65 - nd1 = (64 - nd1) + 1 by omega]; rw [run_end hval (by rw [hV]; assumption) (by rw [hPp]; omega), hPp], by decide⟩, hb1, hb2, hb3, hb4, by omega, hpl16⟩
              exact W.iret (v := (-6)) hx hb hr (fun t ht hW => ⟨⟨(-6), ((nI (xa_3 + xn_3)), nd1 + 1, popN (va_up st1 nd1 xa_3) (va_up ln1 nd1 xn_3) ar1 (xa_3 + xn_3) lv1, va_up tg1 nd1 (row pl1), va_up st1 nd1 xa_3, va_up ln1 nd1 xn_3, ar1, upd pa1 nd1 (parI lv1 ar1), xa_3 + xn_3), rfl, hq9, by rw [ht]; exact hP9, va_K.moved hW.alike hK, hD9⟩, hS.F ht⟩) hS.2.2 dX0_readValues_64
      · have e2_3 := e2_3.symm
        subst e2_3
        refine lv_istore_n (lv' := [(3, .int r_3), (2, .int (nI v1)), (1, .int (nI pl1)), (0, .ref r0)]) hx hb dX0_readValues_15 rfl hl (by decide) rfl (fun ls hl => ?_)
        refine lv_iload_n hx hb dX0_readValues_16 rfl (lv_at hl 0 rfl) ?_
        refine lv_if_eq (tgt := 22) hx hb dX0_readValues_17 (by decide) (fun c_14 => absurd c_14 hne_3) (fun c_14 => ?_)
        refine lv_iload_n hx hb dX0_readValues_20 rfl (lv_at hl 0 rfl) ?_
        have hP9 : va_P (dC, dI) vwCl (vX0_readValues cA r0 r1 r2 r3 r4 r5 r6 row rs tg st ln pa ar of (of2_3, nd1, lv1, tg2_3, st2_3, ln2_3, ar1, pa2_3, 0)) _ := hP
        have hD9 : va_D A (vX0_readValues cA r0 r1 r2 r3 r4 r5 r6 row rs tg st ln pa ar of (of2_3, nd1, lv1, tg2_3, st2_3, ln2_3, ar1, pa2_3, 0)) := hD
        have hq9 : pX0_readValues r0 r1 r2 r3 r4 r5 r6 row rs tg st ln pa ar of (r_3) (of2_3, nd1, lv1, tg2_3, st2_3, ln2_3, ar1, pa2_3, 0) := ⟨Or.inr ⟨by rw [← hrun, show 65 - nd1 = (64 - nd1) + 1 by omega]; exact run_err hval_3, hne_3⟩, hb1, hb2, hb3, i7, by omega, i2⟩
        exact W.iret (v := r_3) hx hb hr (fun t ht hW => ⟨⟨r_3, (of2_3, nd1, lv1, tg2_3, st2_3, ln2_3, ar1, pa2_3, 0), rfl, hq9, by rw [ht]; exact hP9, va_K.moved hW.alike hK, hD9⟩, hS.F ht⟩) hS.2.2 dX0_readValues_21
  exact lp_4 (65 - 0 + 1) 0 0 0 0 tg st ln ar pa (Nat.lt_succ_self _) (PInv.start htg hst hln har) rfl rfl _ _ _ hP hD hS (lv_sub hl [0, 1, 2] rfl)
abbrev pX0_readRow (r0 : Nat) (r1 : Nat) (r2 : Nat) (r3 : Nat) (r4 : Nat) (r5 : Nat) (r6 : Nat) (row : Nat → Nat) (rs : Nat) (tg : Nat → Nat) (st : Nat → Nat) (ln : Nat → Nat) (pa : Nat → Int32) (nd : Nat) (ar : Nat → Nat) (lv : Nat) (of : Int32) : Int32 → Int32 × Nat × Nat × (Nat → Nat) × (Nat → Nat) × (Nat → Nat) × (Nat → Nat) × (Nat → Int32) × Nat → Prop := fun (r : Int32) (u : Int32 × Nat × Nat × (Nat → Nat) × (Nat → Nat) × (Nat → Nat) × (Nat → Nat) × (Nat → Int32) × Nat) => match u with | (of2, nd2, lv2, tg2, st2, ln2, ar2, pa2, pl2) => ((runS row rs 65 (0, 0, 0, tg, st, ln, ar, pa) = .inr (pl2, nd2, lv2, tg2, st2, ln2, ar2, pa2) ∧ r = nI 0 ∧ of2 = -1 ∧ PInv rs pl2 nd2 lv2 tg2 st2 ln2 ar2 ∧ 0 < nd2) ∨ (runS row rs 65 (0, 0, 0, tg, st, ln, ar, pa) = .inl (r, of2) ∧ r ≠ 0 ∧ nd2 = 0)) ∧ (∀ j, tg2 j < 256) ∧ (∀ j, st2 j < 1000) ∧ (∀ j, ln2 j < 65536) ∧ (∀ j, ar2 j < 64) ∧ nd2 ≤ 64 ∧ lv2 ≤ 16
abbrev vX0_readRow (cA : ClassId) (r0 : Nat) (r1 : Nat) (r2 : Nat) (r3 : Nat) (r4 : Nat) (r5 : Nat) (r6 : Nat) (row : Nat → Nat) (rs : Nat) (tg : Nat → Nat) (st : Nat → Nat) (ln : Nat → Nat) (pa : Nat → Int32) (nd : Nat) (ar : Nat → Nat) (lv : Nat) (of : Int32) : Int32 × Nat × Nat × (Nat → Nat) × (Nat → Nat) × (Nat → Nat) × (Nat → Nat) × (Nat → Int32) × Nat → va_W := fun (u : Int32 × Nat × Nat × (Nat → Nat) × (Nat → Nat) × (Nat → Nat) × (Nat → Nat) × (Nat → Int32) × Nat) => match u with | (of2, nd2, lv2, tg2, st2, ln2, ar2, pa2, pl2) => wR cA r0 r1 r2 r3 r4 r5 r6 row rs tg2 st2 ln2 pa2 nd2 ar2 lv2 of2
abbrev qX0_readRow (dC : Nat → ClassId) (dI : Nat → Nat → Nat) (cA : ClassId) (A : Nat → Prop) (r0 : Nat) (r1 : Nat) (r2 : Nat) (r3 : Nat) (r4 : Nat) (r5 : Nat) (r6 : Nat) (row : Nat → Nat) (rs : Nat) (tg : Nat → Nat) (st : Nat → Nat) (ln : Nat → Nat) (pa : Nat → Int32) (nd : Nat) (ar : Nat → Nat) (lv : Nat) (of : Int32) : Array Value → State → Outcome → State → Prop := va_Qi (pX0_readRow r0 r1 r2 r3 r4 r5 r6 row rs tg st ln pa nd ar lv of) (fun u => cAft dC dI cA A (vX0_readRow cA r0 r1 r2 r3 r4 r5 r6 row rs tg st ln pa nd ar lv of u)) A
set_option maxHeartbeats 4000000 in
set_option maxRecDepth 100000 in
theorem k_X0_readRow (l : Launch) (dC : Nat → ClassId) (dI : Nat → Nat → Nat) (cA : ClassId) (r0 : Nat) (r1 : Nat) (r2 : Nat) (r3 : Nat) (r4 : Nat) (r5 : Nat) (r6 : Nat) (row : Nat → Nat) (rs : Nat) (tg : Nat → Nat) (st : Nat → Nat) (ln : Nat → Nat) (pa : Nat → Int32) (nd : Nat) (ar : Nat → Nat) (lv : Nat) (of : Int32) (sz : Nat) (hrow : ∀ j, row j < 256) (htg : ∀ j, tg j < 256) (hst : ∀ j, st j < 1000) (hln : ∀ j, ln j < 65536) (har : ∀ j, ar j < 64) (hrs : rs ≤ 300) : Met l yX0_readRow wsX0_readRow ({ frames := 5, cells := 0, slots := 0, locals := 115 } : Room) (va_Pc [.ref r0] (cPre dC dI cA (wR cA r0 r1 r2 r3 r4 r5 r6 row rs tg st ln pa nd ar lv of) sz)) (qX0_readRow dC dI cA (va_A (wR cA r0 r1 r2 r3 r4 r5 r6 row rs tg st ln pa nd ar lv of) sz) r0 r1 r2 r3 r4 r5 r6 row rs tg st ln pa nd ar lv of) 0 0 (va_A (wR cA r0 r1 r2 r3 r4 r5 r6 row rs tg st ln pa nd ar lv of) sz) := by
  refine Met.ofW (cc := cX0_readRow) (maxL := 2) (ret := (some .int)) (by decide) rfl ?_
  intro p e s m args below meth c s₁ B hml hv
  obtain ⟨rfl, hsz, hP, hK, hD0⟩ := hv
  have hx := B.exec
  have hb := B.bytes
  have hr := B.returns
  have hts := atoms_spec (ws := wsX0_readRow) B.pre
  have hown : s.vm.findClass RX0 = some m.cls := findClass_of_methodNamed B.named
  have hlocks := B.notSynchronized
  subst hsz
  have hD := hD0.self (sz := s.heap.size)
  generalize hAe : va_A (wR cA r0 r1 r2 r3 r4 r5 r6 row rs tg st ln pa nd ar lv of) s.heap.size = A at hD ⊢
  have hA : ∀ q : Nat, s.heap.size ≤ q → A q := fun q h => by rw [← hAe]; exact Or.inr h
  have hS : va_S A s.heap s.heap [] := va_S.rf
  have hl := lv_entry ([.ref r0]) (n := 2) (Nat.le_of_ble_eq_true rfl)
  rw [lg_entry_eq]
  generalize (lg_sl ([.ref r0]) ++ List.replicate (2 - (lg_sl ([.ref r0])).length) Slot.unset).toArray = ls at hl ⊢
  have hl : lv_has ls 2 [(0, .ref r0)] := hl
  have hinX0 : ∀ w ∈ wsX00, w ∈ wsX0_readRow := fun _ h => List.mem_cons_of_mem _ (List.mem_append_right _ h)
  have hf_31 := hts (.fieldLink RX0 31 "DerDesk$Reader" "nodes" "I") (by decide +kernel)
  have hf_37 := hts (.fieldLink RX0 37 "DerDesk$Reader" "level" "I") (by decide +kernel)
  have hf_40 := hts (.fieldLink RX0 40 "DerDesk$Reader" "offencePlace" "I") (by decide +kernel)
  have hP : va_P (dC, dI) vwCl (wR cA r0 r1 r2 r3 r4 r5 r6 row rs tg st ln pa nd ar lv of) s.heap := hP
  refine lv_aload_n hx hb dX0_readRow_0 rfl (lv_at hl 0 rfl) ?_
  refine lv_iconst (v := nI 0) hx hb dX0_readRow_1 (by decide) ?_
  refine va_put (D := (dC, dI)) (ci := 0) (v := .int (nI 0)) (ty := .int) (C := RX0) (T := TX0) (N := 10) hx hb hts hinX0 tyX0 tyX0_ok nmX0 hown hK hP hD hS 0 rfl rfl 6 (by decide) hf_31 (fun _ h9 => h9) rfl (by decide +kernel) rfl rfl (Nat.le_of_ble_eq_true rfl) dX0_readRow_2 (fun H locs hP hD hS => ?_)
  have hP : va_P (dC, dI) vwCl (wR cA r0 r1 r2 r3 r4 r5 r6 row rs tg st ln pa 0 ar lv of) H := hP
  have hD : va_D A (wR cA r0 r1 r2 r3 r4 r5 r6 row rs tg st ln pa 0 ar lv of) := hD
  refine lv_aload_n hx hb dX0_readRow_5 rfl (lv_at hl 0 rfl) ?_
  refine lv_iconst (v := nI 0) hx hb dX0_readRow_6 (by decide) ?_
  refine va_put (D := (dC, dI)) (ci := 0) (v := .int (nI 0)) (ty := .int) (C := RX0) (T := TX0) (N := 10) hx hb hts hinX0 tyX0 tyX0_ok nmX0 hown hK hP hD hS 0 rfl rfl 8 (by decide) hf_37 (fun _ h9 => h9) rfl (by decide +kernel) rfl rfl (Nat.le_of_ble_eq_true rfl) dX0_readRow_7 (fun H locs hP hD hS => ?_)
  have hP : va_P (dC, dI) vwCl (wR cA r0 r1 r2 r3 r4 r5 r6 row rs tg st ln pa 0 ar 0 of) H := hP
  have hD : va_D A (wR cA r0 r1 r2 r3 r4 r5 r6 row rs tg st ln pa 0 ar 0 of) := hD
  refine lv_aload_n hx hb dX0_readRow_10 rfl (lv_at hl 0 rfl) ?_
  refine lv_iconst (v := (-1)) hx hb dX0_readRow_11 (by decide) ?_
  refine va_put (D := (dC, dI)) (ci := 0) (v := .int (-1)) (ty := .int) (C := RX0) (T := TX0) (N := 10) hx hb hts hinX0 tyX0 tyX0_ok nmX0 hown hK hP hD hS 0 rfl rfl 9 (by decide) hf_40 (fun _ h9 => h9) rfl (by decide +kernel) rfl rfl (Nat.le_of_ble_eq_true rfl) dX0_readRow_12 (fun H locs hP hD hS => ?_)
  have hP : va_P (dC, dI) vwCl (wR cA r0 r1 r2 r3 r4 r5 r6 row rs tg st ln pa 0 ar 0 (-1)) H := hP
  have hD : va_D A (wR cA r0 r1 r2 r3 r4 r5 r6 row rs tg st ln pa 0 ar 0 (-1)) := hD
  refine lv_aload_n hx hb dX0_readRow_15 rfl (lv_at hl 0 rfl) ?_
  refine cl_Vi (As := []) (rest := []) (wr := []) ⟨hx, hb, hml, hown, hts⟩ (k_X0_readValues l dC dI cA r0 r1 r2 r3 r4 r5 r6 row rs tg st ln pa ar (-1) _ hrow htg hst hln har (by omega)) (cwV 0 hts gX0_readRow_X0_readValues rfl rfl rfl (by decide +kernel) ⟨Nat.le_of_ble_eq_true rfl, Nat.le_of_ble_eq_true rfl⟩) hK hP hD hS hA [0, 1, 2, 3, 4, 5, 6] [] rfl rfl (by decide) (by decide) (by decide) (ci := 0) (q0 := 0) rfl rfl rfl rfl hl.1 rfl (Nat.le_of_ble_eq_true rfl) dX0_readRow_16 ⟨Nat.le_of_ble_eq_true rfl, Nat.le_of_ble_eq_true rfl⟩ (fun r_1 u_1 H locs hw_1 hP hD hS => ?_)
  obtain ⟨of2_1, nd2_1, lv2_1, tg2_1, st2_1, ln2_1, ar2_1, pa2_1, pl2_1⟩ := u_1
  have hP : va_P (dC, dI) vwCl (wR cA r0 r1 r2 r3 r4 r5 r6 row rs tg2_1 st2_1 ln2_1 pa2_1 nd2_1 ar2_1 lv2_1 of2_1) H := hP
  have hD : va_D A (wR cA r0 r1 r2 r3 r4 r5 r6 row rs tg2_1 st2_1 ln2_1 pa2_1 nd2_1 ar2_1 lv2_1 of2_1) := hD
  have hw_1 : ((runS row rs 65 (0, 0, 0, tg, st, ln, ar, pa) = .inr (pl2_1, nd2_1, lv2_1, tg2_1, st2_1, ln2_1, ar2_1, pa2_1) ∧ r_1 = nI 0 ∧ of2_1 = (-1) ∧ PInv rs pl2_1 nd2_1 lv2_1 tg2_1 st2_1 ln2_1 ar2_1 ∧ 0 < nd2_1) ∨ (runS row rs 65 (0, 0, 0, tg, st, ln, ar, pa) = .inl (r_1, of2_1) ∧ r_1 ≠ 0)) ∧ (∀ j, tg2_1 j < 256) ∧ (∀ j, st2_1 j < 1000) ∧ (∀ j, ln2_1 j < 65536) ∧ (∀ j, ar2_1 j < 64) ∧ nd2_1 ≤ 64 ∧ lv2_1 ≤ 16 := hw_1
  obtain ⟨hw_1, hb1, hb2, hb3, hb4, hb5, hb6⟩ := hw_1
  rcases hw_1 with ⟨hrun_1, e1_1, e2_1, hI_1, hpos_1⟩ | ⟨hrun_1, hne_1⟩
  · have e1_1 := e1_1.symm
    subst e1_1
    have e2_1 := e2_1.symm
    subst e2_1
    refine lv_istore_n (lv' := [(1, .int (nI 0)), (0, .ref r0)]) hx hb dX0_readRow_19 rfl hl (by decide) rfl (fun ls hl => ?_)
    refine lv_iload_n hx hb dX0_readRow_20 rfl (lv_at hl 0 rfl) ?_
    refine hl_if_eq (tgt := 29) hx hb dX0_readRow_21 (by decide) (by omega) (fun c_2 => ?_) (fun c_2 => absurd c_2 (by decide))
    refine lv_iload_n hx hb dX0_readRow_29 rfl (lv_at hl 0 rfl) ?_
    have hP9 : va_P (dC, dI) vwCl (vX0_readRow cA r0 r1 r2 r3 r4 r5 r6 row rs tg st ln pa nd ar lv of ((-1), nd2_1, lv2_1, tg2_1, st2_1, ln2_1, ar2_1, pa2_1, pl2_1)) _ := hP
    have hD9 : va_D A (vX0_readRow cA r0 r1 r2 r3 r4 r5 r6 row rs tg st ln pa nd ar lv of ((-1), nd2_1, lv2_1, tg2_1, st2_1, ln2_1, ar2_1, pa2_1, pl2_1)) := hD
    have hq9 : pX0_readRow r0 r1 r2 r3 r4 r5 r6 row rs tg st ln pa nd ar lv of (nI 0) ((-1), nd2_1, lv2_1, tg2_1, st2_1, ln2_1, ar2_1, pa2_1, pl2_1) := ⟨Or.inl ⟨hrun_1, rfl, rfl, hI_1, hpos_1⟩, hb1, hb2, hb3, hb4, hb5, hb6⟩
    exact W.iret (v := nI 0) hx hb hr (fun t ht hW => ⟨⟨nI 0, ((-1), nd2_1, lv2_1, tg2_1, st2_1, ln2_1, ar2_1, pa2_1, pl2_1), rfl, hq9, by rw [ht]; exact hP9, va_K.moved hW.alike hK, hD9⟩, hS.F ht⟩) hS.2.2 dX0_readRow_30
  · refine lv_istore_n (lv' := [(1, .int r_1), (0, .ref r0)]) hx hb dX0_readRow_19 rfl hl (by decide) rfl (fun ls hl => ?_)
    refine lv_iload_n hx hb dX0_readRow_20 rfl (lv_at hl 0 rfl) ?_
    refine lv_if_eq (tgt := 29) hx hb dX0_readRow_21 (by decide) (fun c_3 => absurd c_3 hne_1) (fun c_3 => ?_)
    refine lv_aload_n hx hb dX0_readRow_24 rfl (lv_at hl 1 rfl) ?_
    refine lv_iconst (v := nI 0) hx hb dX0_readRow_25 (by decide) ?_
    refine va_put (D := (dC, dI)) (ci := 0) (v := .int (nI 0)) (ty := .int) (C := RX0) (T := TX0) (N := 10) hx hb hts hinX0 tyX0 tyX0_ok nmX0 hown hK hP hD hS 0 rfl rfl 6 (by decide) hf_31 (fun _ h9 => h9) rfl (by decide +kernel) rfl rfl (Nat.le_of_ble_eq_true rfl) dX0_readRow_26 (fun H locs hP hD hS => ?_)
    have hP : va_P (dC, dI) vwCl (wR cA r0 r1 r2 r3 r4 r5 r6 row rs tg2_1 st2_1 ln2_1 pa2_1 0 ar2_1 lv2_1 of2_1) H := hP
    have hD : va_D A (wR cA r0 r1 r2 r3 r4 r5 r6 row rs tg2_1 st2_1 ln2_1 pa2_1 0 ar2_1 lv2_1 of2_1) := hD
    refine lv_iload_n hx hb dX0_readRow_29 rfl (lv_at hl 0 rfl) ?_
    have hP9 : va_P (dC, dI) vwCl (vX0_readRow cA r0 r1 r2 r3 r4 r5 r6 row rs tg st ln pa nd ar lv of (of2_1, 0, lv2_1, tg2_1, st2_1, ln2_1, ar2_1, pa2_1, pl2_1)) _ := hP
    have hD9 : va_D A (vX0_readRow cA r0 r1 r2 r3 r4 r5 r6 row rs tg st ln pa nd ar lv of (of2_1, 0, lv2_1, tg2_1, st2_1, ln2_1, ar2_1, pa2_1, pl2_1)) := hD
    have hq9 : pX0_readRow r0 r1 r2 r3 r4 r5 r6 row rs tg st ln pa nd ar lv of (r_1) (of2_1, 0, lv2_1, tg2_1, st2_1, ln2_1, ar2_1, pa2_1, pl2_1) := ⟨Or.inr ⟨hrun_1, hne_1, rfl⟩, hb1, hb2, hb3, hb4, by omega, hb6⟩
    exact W.iret (v := r_1) hx hb hr (fun t ht hW => ⟨⟨r_1, (of2_1, 0, lv2_1, tg2_1, st2_1, ln2_1, ar2_1, pa2_1, pl2_1), rfl, hq9, by rw [ht]; exact hP9, va_K.moved hW.alike hK, hD9⟩, hS.F ht⟩) hS.2.2 dX0_readRow_30
end
section
/-! parts and arcs of an OBJECT -/
def partS (f : Nat → Nat) (e : Nat) : Nat → Nat → Nat → Nat → Option Nat
  | 0, _, _, _ => none
  | m + 1, cur, cnt, idx => if f (e - (m + 1)) < 128 then (if cnt = idx then some (cur * 128 + f (e - (m + 1)) % 128) else partS f e m 0 (cnt + 1) idx) else partS f e m (cur * 128 + f (e - (m + 1)) % 128) cnt idx
theorem partS_at {f : Nat → Nat} {e i cur cnt idx : Nat} (hi : i < e) : partS f e (e - i) cur cnt idx = if f i < 128 then (if cnt = idx then some (cur * 128 + f i % 128) else partS f e (e - (i + 1)) 0 (cnt + 1) idx) else partS f e (e - (i + 1)) (cur * 128 + f i % 128) cnt idx := by
  obtain ⟨m, hm⟩ : ∃ m, e - i = m + 1 := ⟨e - i - 1, by omega⟩
  rw [hm, show e - (i + 1) = m by omega]
  show (if f (e - (m + 1)) < 128 then _ else _) = _
  rw [show e - (m + 1) = i by omega]
def fst1 (t : Nat) : Nat := if t < 40 then 0 else if t < 80 then 1 else 2
def arcV (k t : Nat) : Nat := if k = 0 then fst1 t else if k = 1 then t - 40 * fst1 t else t
def arcR (k : Nat) : Option Nat → Int32
  | none => -1
  | some t => if 2147483647 < arcV k t then -2 else nI (arcV k t)
def oidS (f : Nat → Nat) (a n k : Nat) : Int32 := arcR k (partS f (a + n) n 0 0 (if k < 2 then 0 else k - 1))
def capL : Option Nat → Int64
  | none => -1
  | some t => lN (min t 1099511627776)
theorem fst1_le (t : Nat) : fst1 t ≤ 2 ∧ 40 * fst1 t ≤ t := by
  unfold fst1
  (repeat' split) <;> omega
theorem fst1_cap (t : Nat) : fst1 (min t 1099511627776) = fst1 t := by
  unfold fst1
  (repeat' split) <;> omega
theorem arc_cap (k t : Nat) : arcR k (some t) = if 2147483647 < arcV k (min t 1099511627776) then -2 else nI (arcV k (min t 1099511627776)) := by
  show (if 2147483647 < arcV k t then -2 else nI (arcV k t)) = _
  by_cases h : t ≤ 1099511627776
  · rw [Nat.min_eq_left h]
  · rw [Nat.min_eq_right (by omega)]
    unfold arcV
    by_cases k0 : k = 0
    · rw [if_pos k0, if_pos k0, show fst1 t = fst1 1099511627776 from by unfold fst1; (repeat' split) <;> omega]
    · rw [if_neg k0, if_neg k0]
      have h1 := fst1_le t
      by_cases k1 : k = 1
      · rw [if_pos k1, if_pos k1, if_pos (by omega), if_pos (by decide)]
      · rw [if_neg k1, if_neg k1, if_pos (by omega), if_pos (by decide)]
theorem cl_b (b : Int32) : b.toNatClampNeg < 2147483648 := by
  have h := Int32.toInt_lt b
  have e : b.toNatClampNeg = b.toInt.toNat := rfl
  rw [e]
  omega
theorem lN_or7 {a b : Nat} (ha : a ≤ 1099511627776) (hb : b < 128) : lN (a * 128) ||| lN b = lN (a * 128 + b) := by
  have e : lN (a * 128) ||| lN b = lN (a * 128 ||| b) := by
    apply Int64.toBitVec_inj.1
    show BitVec.ofNat 64 (a * 128) ||| BitVec.ofNat 64 b = BitVec.ofNat 64 (a * 128 ||| b)
    apply BitVec.eq_of_getLsbD_eq
    intro i hi
    simp [hi]
  rw [e]
  have := Nat.two_pow_add_eq_or_of_lt (i := 7) (b := b) hb a
  rw [Nat.mul_comm a 128]
  exact congrArg lN this.symm
theorem lN_shl7 (a : Nat) : lN a <<< ((nI 7).toInt64 &&& 63) = lN (a * 128) := by
  apply Int64.toBitVec_inj.1
  show (lN a).toBitVec <<< ((nI 7).toInt64 &&& 63).toBitVec.smod 64 = BitVec.ofNat 64 (a * 128)
  rw [show ((nI 7).toInt64 &&& 63).toBitVec.smod 64 = 7#64 from by decide]
  show BitVec.ofNat 64 a <<< (7#64) = _
  apply BitVec.eq_of_toNat_eq
  simp [Nat.shiftLeft_eq]
theorem part_step {p b : Nat} (hp : p ≤ 1099511627776) (hb : b < 256) : (if lN 1099511627776 < (lN p <<< ((nI 7).toInt64 &&& 63) ||| (nI b &&& nI 127).toInt64) then lN 1099511627776 else (lN p <<< ((nI 7).toInt64 &&& 63) ||| (nI b &&& nI 127).toInt64)) = lN (min (p * 128 + b % 128) 1099511627776) := by
  have e1 : nI b &&& nI 127 = nI (b % 128) := pk_andN (n := b) (by omega) 7 (by decide)
  rw [lN_shl7, e1, nI_l (n := b % 128) (by omega), lN_or7 hp (by omega)]
  by_cases h : 1099511627776 < p * 128 + b % 128
  · rw [if_pos ((pk_lLT (by omega) (by omega)).mpr h), Nat.min_eq_right (by omega)]
  · rw [if_neg (fun q => h ((pk_lLT (by omega) (by omega)).mp q)), Nat.min_eq_left (by omega)]
theorem min_cap (c x : Nat) : min (min c 1099511627776 * 128 + x) 1099511627776 = min (c * 128 + x) 1099511627776 := by
  omega
theorem lge_t {a b : Nat} (ha : a < 2 ^ 63) (hb : b < 2 ^ 63) (h : 0 ≤ lg_cmp (lN a) (lN b)) : b ≤ a := (pk_lLE hb ha).mp ((lg_cmp_ge _ _).mp h)
theorem lge_f {a b : Nat} (ha : a < 2 ^ 63) (hb : b < 2 ^ 63) (h : ¬ 0 ≤ lg_cmp (lN a) (lN b)) : ¬ b ≤ a := fun q => h ((lg_cmp_ge _ _).mpr ((pk_lLE hb ha).mpr q))
theorem lle_t {a b : Nat} (ha : a < 2 ^ 63) (hb : b < 2 ^ 63) (h : lg_cmp (lN a) (lN b) ≤ 0) : a ≤ b := (pk_lLE ha hb).mp ((lg_cmp_le _ _).mp h)
theorem lle_f {a b : Nat} (ha : a < 2 ^ 63) (hb : b < 2 ^ 63) (h : ¬ lg_cmp (lN a) (lN b) ≤ 0) : ¬ a ≤ b := fun q => h ((lg_cmp_le _ _).mpr ((pk_lLE ha hb).mpr q))
end
section
abbrev pX0_firstArcOf (t : Nat) : Int32 → Unit → Prop := fun (r : Int32) (u : Unit) => r = nI (fst1 t)
abbrev vX0_firstArcOf (cA : ClassId) (t : Nat) : Unit → va_W := fun (u : Unit) => []
abbrev qX0_firstArcOf (dC : Nat → ClassId) (dI : Nat → Nat → Nat) (cA : ClassId) (A : Nat → Prop) (t : Nat) : Array Value → State → Outcome → State → Prop := va_Qi (pX0_firstArcOf t) (fun u => cAft dC dI cA A (vX0_firstArcOf cA t u)) A
set_option maxHeartbeats 4000000 in
set_option maxRecDepth 100000 in
theorem k_X0_firstArcOf (l : Launch) (dC : Nat → ClassId) (dI : Nat → Nat → Nat) (cA : ClassId) (t : Nat) (sz : Nat) (ht : t < 2 ^ 62) : Met l yX0_firstArcOf wsX0_firstArcOf ({ frames := 0, cells := 0, slots := 0, locals := 0 } : Room) (va_Pc [.long (lN t)] (cPre dC dI cA ([]) sz)) (qX0_firstArcOf dC dI cA (va_A ([]) sz) t) 0 0 (va_A ([]) sz) := by
  refine Met.ofW (cc := cX0_firstArcOf) (maxL := 2) (ret := (some .int)) (by decide) rfl ?_
  intro p e s m args below meth c s₁ B hml hv
  obtain ⟨rfl, hsz, hP, hK, hD0⟩ := hv
  have hx := B.exec
  have hb := B.bytes
  have hr := B.returns
  have hts := atoms_spec (ws := wsX0_firstArcOf) B.pre
  have hown : s.vm.findClass RX0 = some m.cls := findClass_of_methodNamed B.named
  have hlocks := B.notSynchronized
  subst hsz
  have hD := hD0.self (sz := s.heap.size)
  generalize hAe : va_A ([]) s.heap.size = A at hD ⊢
  have hA : ∀ q : Nat, s.heap.size ≤ q → A q := fun q h => by rw [← hAe]; exact Or.inr h
  have hS : va_S A s.heap s.heap [] := va_S.rf
  have hl := lv_entry ([.long (lN t)]) (n := 2) (Nat.le_of_ble_eq_true rfl)
  rw [lg_entry_eq]
  generalize (lg_sl ([.long (lN t)]) ++ List.replicate (2 - (lg_sl ([.long (lN t)])).length) Slot.unset).toArray = ls at hl ⊢
  have hl : lv_has ls 2 [(0, .long (lN t))] := hl
  have hP : va_P (dC, dI) vwCl ([]) s.heap := hP
  refine lv_lload_n hx hb dX0_firstArcOf_0 rfl (lv_at hl 0 rfl) ?_
  refine lv_ldc2 (v := 40) hx hb hown (hts (.constantLong RX0 117 (40)) (by decide +kernel)) dX0_firstArcOf_1 ?_
  rw [show (40 : Int64) = lN 40 from rfl]
  refine W.lcmp hx hb dX0_firstArcOf_4 ?_
  refine lv_if_ge (tgt := 10) hx hb dX0_firstArcOf_5 (by decide) (fun c_1 => ?_) (fun c_1 => ?_)
  · have c_1 := lge_t (by omega) (by omega) c_1
    refine lv_lload_n hx hb dX0_firstArcOf_10 rfl (lv_at hl 0 rfl) ?_
    refine lv_ldc2 (v := 80) hx hb hown (hts (.constantLong RX0 119 (80)) (by decide +kernel)) dX0_firstArcOf_11 ?_
    rw [show (80 : Int64) = lN 80 from rfl]
    refine W.lcmp hx hb dX0_firstArcOf_14 ?_
    refine lv_if_ge (tgt := 22) hx hb dX0_firstArcOf_15 (by decide) (fun c_2 => ?_) (fun c_2 => ?_)
    · have c_2 := lge_t (by omega) (by omega) c_2
      refine lv_iconst (v := nI 2) hx hb dX0_firstArcOf_22 (by decide) ?_
      have hP9 : va_P (dC, dI) vwCl (vX0_firstArcOf cA t ()) _ := hP
      have hD9 : va_D A (vX0_firstArcOf cA t ()) := hD
      have hq9 : pX0_firstArcOf t (nI 2) () := congrArg nI (by unfold fst1; (repeat' split) <;> omega)
      exact W.iret (v := nI 2) hx hb hr (fun t ht hW => ⟨⟨nI 2, (), rfl, hq9, by rw [ht]; exact hP9, va_K.moved hW.alike hK, hD9⟩, hS.F ht⟩) hS.2.2 dX0_firstArcOf_23
    · have c_2 := lge_f (by omega) (by omega) c_2
      refine lv_iconst (v := nI 1) hx hb dX0_firstArcOf_18 (by decide) ?_
      refine lv_goto (tgt := 23) hx hb dX0_firstArcOf_19 (by decide) ?_
      have hP9 : va_P (dC, dI) vwCl (vX0_firstArcOf cA t ()) _ := hP
      have hD9 : va_D A (vX0_firstArcOf cA t ()) := hD
      have hq9 : pX0_firstArcOf t (nI 1) () := congrArg nI (by unfold fst1; (repeat' split) <;> omega)
      exact W.iret (v := nI 1) hx hb hr (fun t ht hW => ⟨⟨nI 1, (), rfl, hq9, by rw [ht]; exact hP9, va_K.moved hW.alike hK, hD9⟩, hS.F ht⟩) hS.2.2 dX0_firstArcOf_23
  · have c_1 := lge_f (by omega) (by omega) c_1
    refine lv_iconst (v := nI 0) hx hb dX0_firstArcOf_8 (by decide) ?_
    have hP9 : va_P (dC, dI) vwCl (vX0_firstArcOf cA t ()) _ := hP
    have hD9 : va_D A (vX0_firstArcOf cA t ()) := hD
    have hq9 : pX0_firstArcOf t (nI 0) () := congrArg nI (by unfold fst1; (repeat' split) <;> omega)
    exact W.iret (v := nI 0) hx hb hr (fun t ht hW => ⟨⟨nI 0, (), rfl, hq9, by rw [ht]; exact hP9, va_K.moved hW.alike hK, hD9⟩, hS.F ht⟩) hS.2.2 dX0_firstArcOf_9
abbrev pX0_partOf (r0 : Nat) (r1 : Nat) (r2 : Nat) (r3 : Nat) (r4 : Nat) (r5 : Nat) (r6 : Nat) (row : Nat → Nat) (rs : Nat) (tg : Nat → Nat) (st : Nat → Nat) (ln : Nat → Nat) (pa : Nat → Int32) (nd : Nat) (ar : Nat → Nat) (lv : Nat) (of : Int32) (nod : Nat) (idx : Nat) : Int64 → Unit → Prop := fun (r : Int64) (u : Unit) => r = capL (partS row (st nod + ln nod) (ln nod) 0 0 idx)
abbrev vX0_partOf (cA : ClassId) (r0 : Nat) (r1 : Nat) (r2 : Nat) (r3 : Nat) (r4 : Nat) (r5 : Nat) (r6 : Nat) (row : Nat → Nat) (rs : Nat) (tg : Nat → Nat) (st : Nat → Nat) (ln : Nat → Nat) (pa : Nat → Int32) (nd : Nat) (ar : Nat → Nat) (lv : Nat) (of : Int32) (nod : Nat) (idx : Nat) : Unit → va_W := fun (u : Unit) => wR cA r0 r1 r2 r3 r4 r5 r6 row rs tg st ln pa nd ar lv of
abbrev qX0_partOf (dC : Nat → ClassId) (dI : Nat → Nat → Nat) (cA : ClassId) (A : Nat → Prop) (r0 : Nat) (r1 : Nat) (r2 : Nat) (r3 : Nat) (r4 : Nat) (r5 : Nat) (r6 : Nat) (row : Nat → Nat) (rs : Nat) (tg : Nat → Nat) (st : Nat → Nat) (ln : Nat → Nat) (pa : Nat → Int32) (nd : Nat) (ar : Nat → Nat) (lv : Nat) (of : Int32) (nod : Nat) (idx : Nat) : Array Value → State → Outcome → State → Prop := va_Ql (pX0_partOf r0 r1 r2 r3 r4 r5 r6 row rs tg st ln pa nd ar lv of nod idx) (fun u => cAft dC dI cA A (vX0_partOf cA r0 r1 r2 r3 r4 r5 r6 row rs tg st ln pa nd ar lv of nod idx u)) A
set_option maxHeartbeats 4000000 in
set_option maxRecDepth 100000 in
theorem k_X0_partOf (l : Launch) (dC : Nat → ClassId) (dI : Nat → Nat → Nat) (cA : ClassId) (r0 : Nat) (r1 : Nat) (r2 : Nat) (r3 : Nat) (r4 : Nat) (r5 : Nat) (r6 : Nat) (row : Nat → Nat) (rs : Nat) (tg : Nat → Nat) (st : Nat → Nat) (ln : Nat → Nat) (pa : Nat → Int32) (nd : Nat) (ar : Nat → Nat) (lv : Nat) (of : Int32) (nod : Nat) (idx : Nat) (sz : Nat) (hrow : ∀ j, row j < 256) (hn1 : nod < 64) (hse : st nod + ln nod ≤ 300) (hidx : idx < 2 ^ 31) : Met l yX0_partOf wsX0_partOf ({ frames := 1, cells := 0, slots := 0, locals := 23 } : Room) (va_Pc [.ref r0, .int (nI nod), .int (nI idx)] (cPre dC dI cA (wR cA r0 r1 r2 r3 r4 r5 r6 row rs tg st ln pa nd ar lv of) sz)) (qX0_partOf dC dI cA (va_A (wR cA r0 r1 r2 r3 r4 r5 r6 row rs tg st ln pa nd ar lv of) sz) r0 r1 r2 r3 r4 r5 r6 row rs tg st ln pa nd ar lv of nod idx) 0 0 (va_A (wR cA r0 r1 r2 r3 r4 r5 r6 row rs tg st ln pa nd ar lv of) sz) := by
  refine Met.ofW (cc := cX0_partOf) (maxL := 7) (ret := (some .long)) (by decide) rfl ?_
  intro p e s m args below meth c s₁ B hml hv
  obtain ⟨rfl, hsz, hP, hK, hD0⟩ := hv
  have hx := B.exec
  have hb := B.bytes
  have hr := B.returns
  have hts := atoms_spec (ws := wsX0_partOf) B.pre
  have hown : s.vm.findClass RX0 = some m.cls := findClass_of_methodNamed B.named
  have hlocks := B.notSynchronized
  subst hsz
  have hD := hD0.self (sz := s.heap.size)
  generalize hAe : va_A (wR cA r0 r1 r2 r3 r4 r5 r6 row rs tg st ln pa nd ar lv of) s.heap.size = A at hD ⊢
  have hA : ∀ q : Nat, s.heap.size ≤ q → A q := fun q h => by rw [← hAe]; exact Or.inr h
  have hS : va_S A s.heap s.heap [] := va_S.rf
  have hl := lv_entry ([.ref r0, .int (nI nod), .int (nI idx)]) (n := 7) (Nat.le_of_ble_eq_true rfl)
  rw [lg_entry_eq]
  generalize (lg_sl ([.ref r0, .int (nI nod), .int (nI idx)]) ++ List.replicate (7 - (lg_sl ([.ref r0, .int (nI nod), .int (nI idx)])).length) Slot.unset).toArray = ls at hl ⊢
  have hl : lv_has ls 7 [(0, .ref r0), (1, .int (nI nod)), (2, .int (nI idx))] := hl
  have hinX0 : ∀ w ∈ wsX00, w ∈ wsX0_partOf := fun _ h => List.mem_cons_of_mem _ (List.mem_append_right _ h)
  have hf_9 := hts (.fieldLink RX0 9 "DerDesk$Reader" "row" "[I") (by decide +kernel)
  have hf_22 := hts (.fieldLink RX0 22 "DerDesk$Reader" "starts" "[I") (by decide +kernel)
  have hP : va_P (dC, dI) vwCl (wR cA r0 r1 r2 r3 r4 r5 r6 row rs tg st ln pa nd ar lv of) s.heap := hP
  refine lv_iconst (v := nI 0) hx hb dX0_partOf_0 (by decide) ?_
  refine lv_istore_n (lv' := [(3, .int (nI 0)), (0, .ref r0), (1, .int (nI nod)), (2, .int (nI idx))]) hx hb dX0_partOf_1 rfl hl (by decide) rfl (fun ls hl => ?_)
  refine lv_lconst (v := lN 0) hx hb dX0_partOf_2 (by decide) ?_
  refine lv_lstore (lv' := [(4, .long (lN 0)), (3, .int (nI 0)), (0, .ref r0), (1, .int (nI nod)), (2, .int (nI idx))]) hx hb dX0_partOf_3 hl (by decide) rfl (fun ls hl => ?_)
  refine lv_aload_n hx hb dX0_partOf_5 rfl (lv_at hl 2 rfl) ?_
  refine va_get (D := (dC, dI)) (ci := 0) (v := .ref r3) (C := RX0) (T := TX0) (N := 10) hx hb hts hinX0 hown hK hP 0 rfl rfl 3 (by decide) hf_22 (fun _ h9 => h9) rfl dX0_partOf_6 ?_
  refine lv_iload_n hx hb dX0_partOf_9 rfl (lv_at hl 3 rfl) ?_
  refine hl_iald hx hb hK hP 3 0 rfl rfl (by omega) (by decide) dX0_partOf_10 ?_
  refine lv_istore (lv' := [(6, .int (nI (st nod))), (4, .long (lN 0)), (3, .int (nI 0)), (0, .ref r0), (1, .int (nI nod)), (2, .int (nI idx))]) hx hb dX0_partOf_11 hl (by decide) rfl (fun ls hl => ?_)
  have lp_13 : ∀ (nf : Nat) (i : Nat) (cn : Nat) (pt : Nat) (cu : Nat), st nod + ln nod - i < nf → (i ≤ st nod + ln nod) → (cn ≤ i) → (pt = min cu 1099511627776) → (partS row (st nod + ln nod) (st nod + ln nod - i) cu cn idx = partS row (st nod + ln nod) (ln nod) 0 0 idx) → ∀ (H : Heap) (locs : List Loc) (ls : Array Slot), va_P (dC, dI) vwCl (wR cA r0 r1 r2 r3 r4 r5 r6 row rs tg st ln pa nd ar lv of) H → va_D A (wR cA r0 r1 r2 r3 r4 r5 r6 row rs tg st ln pa nd ar lv of) → va_S A s.heap H locs → lv_has ls 7 [(6, .int (nI i)), (4, .long (lN pt)), (3, .int (nI cn)), (0, .ref r0), (1, .int (nI nod)), (2, .int (nI idx))] → W p l e (headSpec wsX0_partOf ({ frames := 1, cells := 0, slots := 0, locals := 23 } : Room)).room s m ([.ref r0, .int (nI nod), .int (nI idx)] : List Value).toArray below meth c H locs 0 0 (MQ below (qX0_partOf dC dI cA A r0 r1 r2 r3 r4 r5 r6 row rs tg st ln pa nd ar lv of nod idx) ([.ref r0, .int (nI nod), .int (nI idx)] : List Value).toArray s 0 0 A) (F0 m 13 ls []) := by
    intro nf
    induction nf with
    | zero =>
      intro i cn pt cu hm
      exact absurd hm (Nat.not_lt_zero _)
    | succ nf ih_13 =>
      intro i cn pt cu hm hi hcn hpt hinv H locs ls hP hD hS hl
      refine lv_iload hx hb dX0_partOf_13 (lv_at hl 0 rfl) ?_
      refine lv_aload_n hx hb dX0_partOf_15 rfl (lv_at hl 3 rfl) ?_
      refine lv_iload_n hx hb dX0_partOf_16 rfl (lv_at hl 4 rfl) ?_
      refine cl_Vi (As := [.int (nI nod)]) (rest := [.int (nI i)]) (wr := []) ⟨hx, hb, hml, hown, hts⟩ (k_X0_endOf l dC dI cA r0 r1 r2 r3 r4 r5 r6 row rs tg st ln pa nd ar lv of nod _ (by omega)) (cwV 1 hts gX0_partOf_X0_endOf rfl rfl rfl (by decide +kernel) ⟨Nat.le_of_ble_eq_true rfl, Nat.le_of_ble_eq_true rfl⟩) hK hP hD hS hA [0, 1, 2, 3, 4, 5, 6] [] rfl rfl (by decide) (by decide) (by decide) (ci := 0) (q0 := 0) rfl rfl rfl rfl hl.1 rfl (Nat.le_of_ble_eq_true rfl) dX0_partOf_17 ⟨Nat.le_of_ble_eq_true rfl, Nat.le_of_ble_eq_true rfl⟩ (fun r_2 u_2 H locs hw_2 hP hD hS => ?_)
      have hP : va_P (dC, dI) vwCl (wR cA r0 r1 r2 r3 r4 r5 r6 row rs tg st ln pa nd ar lv of) H := hP
      have hD : va_D A (wR cA r0 r1 r2 r3 r4 r5 r6 row rs tg st ln pa nd ar lv of) := hD
      have hw_2 : r_2 = nI (st nod + ln nod) := hw_2
      have hw_2 := hw_2.symm
      subst hw_2
      refine hl_icmp_ge (tgt := 81) hx hb dX0_partOf_20 (by decide) (by omega) (by omega) (fun c_3 => ?_) (fun c_3 => ?_)
      · refine lv_ldc2 (v := (-1)) hx hb hown (hts (.constantLong RX0 129 (-1)) (by decide +kernel)) dX0_partOf_81 ?_
        have hP9 : va_P (dC, dI) vwCl (vX0_partOf cA r0 r1 r2 r3 r4 r5 r6 row rs tg st ln pa nd ar lv of nod idx ()) _ := hP
        have hD9 : va_D A (vX0_partOf cA r0 r1 r2 r3 r4 r5 r6 row rs tg st ln pa nd ar lv of nod idx ()) := hD
        have hq9 : pX0_partOf r0 r1 r2 r3 r4 r5 r6 row rs tg st ln pa nd ar lv of nod idx ((-1)) () := by show _ = capL _; rw [← hinv, show st nod + ln nod - i = 0 by omega]; rfl
        exact W.lret (v := (-1)) hx hb hr (fun t ht hW => ⟨⟨(-1), (), rfl, hq9, by rw [ht]; exact hP9, va_K.moved hW.alike hK, hD9⟩, hS.F ht⟩) hS.2.2 dX0_partOf_84
      · refine lv_lload hx hb dX0_partOf_23 (lv_at hl 1 rfl) ?_
        refine lv_bipush (v := nI 7) hx hb dX0_partOf_25 (by decide) ?_
        refine lv_lshl (v := lN pt <<< ((nI 7).toInt64 &&& 63)) hx hb dX0_partOf_27 rfl ?_
        refine lv_aload_n hx hb dX0_partOf_28 rfl (lv_at hl 3 rfl) ?_
        refine va_get (D := (dC, dI)) (ci := 0) (v := .ref r1) (C := RX0) (T := TX0) (N := 10) hx hb hts hinX0 hown hK hP 0 rfl rfl 0 (by decide) hf_9 (fun _ h9 => h9) rfl dX0_partOf_29 ?_
        refine lv_iload hx hb dX0_partOf_32 (lv_at hl 0 rfl) ?_
        refine hl_iald hx hb hK hP 1 0 rfl rfl (by omega) (by decide) dX0_partOf_34 ?_
        have hv_4 := hrow i
        refine lv_bipush (v := nI 127) hx hb dX0_partOf_35 (by decide) ?_
        refine lv_iand hx hb dX0_partOf_37 ?_
        refine lv_i2l (v := ((nI (row i) &&& nI 127)).toInt64) hx hb dX0_partOf_38 rfl ?_
        refine lv_lor hx hb dX0_partOf_39 ?_
        refine lv_ldc2 (v := 1099511627776) hx hb hown (hts (.constantLong RX0 121 (1099511627776)) (by decide +kernel)) dX0_partOf_40 ?_
        rw [show (1099511627776 : Int64) = lN 1099511627776 from rfl]
        refine va_mmin_long hx hb (by rw [hml]; exact hl.1.symm) hown (hts (.methodLink RX0 123 Lib.MathLoose.min_long.x) (by decide +kernel)) (hts (.static Lib.MathLoose.min_long.x) (by decide +kernel)) (hts (.initialized "java/lang/Math") (by decide +kernel)) (hts (.code Lib.MathLoose.min_long.x Lib.MathLoose.min_long.code 4 (some .long)) (by decide +kernel)) (Nat.le_of_ble_eq_true rfl) (Nat.le_of_ble_eq_true rfl) (Nat.le_of_ble_eq_true rfl) (Nat.le_of_ble_eq_true rfl) dX0_partOf_43 ?_
        have hp40 : pt ≤ 1099511627776 := by rw [hpt]; exact Nat.min_le_right _ _
        refine hl_topl (part_step hp40 (hrow i)) ?_
        refine lv_lstore (lv' := [(4, .long (lN (min (pt * 128 + row i % 128) 1099511627776))), (6, .int (nI i)), (3, .int (nI cn)), (0, .ref r0), (1, .int (nI nod)), (2, .int (nI idx))]) hx hb dX0_partOf_46 hl (by decide) rfl (fun ls hl => ?_)
        refine lv_aload_n hx hb dX0_partOf_48 rfl (lv_at hl 3 rfl) ?_
        refine va_get (D := (dC, dI)) (ci := 0) (v := .ref r1) (C := RX0) (T := TX0) (N := 10) hx hb hts hinX0 hown hK hP 0 rfl rfl 0 (by decide) hf_9 (fun _ h9 => h9) rfl dX0_partOf_49 ?_
        refine lv_iload hx hb dX0_partOf_52 (lv_at hl 1 rfl) ?_
        refine hl_iald hx hb hK hP 1 0 rfl rfl (by omega) (by decide) dX0_partOf_54 ?_
        have hv_5 := hrow i
        refine lv_sipush (v := nI 128) hx hb dX0_partOf_55 (by decide) ?_
        refine hl_icmp_ge (tgt := 75) hx hb dX0_partOf_58 (by decide) (by omega) (by omega) (fun c_6 => ?_) (fun c_6 => ?_)
        · refine lv_iinc (v := (nI (i + 1))) (lv' := [(6, .int (nI (i + 1))), (4, .long (lN (min (pt * 128 + row i % 128) 1099511627776))), (3, .int (nI cn)), (0, .ref r0), (1, .int (nI nod)), (2, .int (nI idx))]) hx hb dX0_partOf_75 hl (k := 1) rfl (nI_inc i 1) (by decide) rfl (fun ls hl => ?_)
          refine lv_goto (tgt := 13) hx hb dX0_partOf_78 (by decide) ?_
          exact ih_13 (i + 1) cn (min (pt * 128 + row i % 128) 1099511627776) (cu * 128 + row i % 128) (by omega) (by omega) (by omega) (by first | rfl | (rw [hpt]; exact min_cap _ _)) (by rw [← hinv, partS_at (i := i) (by omega)]; first | rw [if_pos (by omega), if_neg (by assumption)] | rw [if_neg (by omega)]) _ _ _ hP hD hS (lv_sub hl [0, 1, 2, 3, 4, 5] rfl)
        · refine lv_iload_n hx hb dX0_partOf_61 rfl (lv_at hl 2 rfl) ?_
          refine lv_iload_n hx hb dX0_partOf_62 rfl (lv_at hl 5 rfl) ?_
          refine hl_icmp_ne (tgt := 69) hx hb dX0_partOf_63 (by decide) (by omega) (by omega) (fun c_7 => ?_) (fun c_7 => ?_)
          · refine lv_iinc (v := (nI (cn + 1))) (lv' := [(3, .int (nI (cn + 1))), (4, .long (lN (min (pt * 128 + row i % 128) 1099511627776))), (6, .int (nI i)), (0, .ref r0), (1, .int (nI nod)), (2, .int (nI idx))]) hx hb dX0_partOf_69 hl (k := 2) rfl (nI_inc cn 1) (by decide) rfl (fun ls hl => ?_)
            refine lv_lconst (v := lN 0) hx hb dX0_partOf_72 (by decide) ?_
            refine lv_lstore (lv' := [(4, .long (lN 0)), (3, .int (nI (cn + 1))), (6, .int (nI i)), (0, .ref r0), (1, .int (nI nod)), (2, .int (nI idx))]) hx hb dX0_partOf_73 hl (by decide) rfl (fun ls hl => ?_)
            refine lv_iinc (v := (nI (i + 1))) (lv' := [(6, .int (nI (i + 1))), (4, .long (lN 0)), (3, .int (nI (cn + 1))), (0, .ref r0), (1, .int (nI nod)), (2, .int (nI idx))]) hx hb dX0_partOf_75 hl (k := 2) rfl (nI_inc i 1) (by decide) rfl (fun ls hl => ?_)
            refine lv_goto (tgt := 13) hx hb dX0_partOf_78 (by decide) ?_
            exact ih_13 (i + 1) (cn + 1) 0 0 (by omega) (by omega) (by omega) (by first | rfl | (rw [hpt]; exact min_cap _ _)) (by rw [← hinv, partS_at (i := i) (by omega)]; first | rw [if_pos (by omega), if_neg (by assumption)] | rw [if_neg (by omega)]) _ _ _ hP hD hS (lv_sub hl [0, 1, 2, 3, 4, 5] rfl)
          · refine lv_lload hx hb dX0_partOf_66 (lv_at hl 0 rfl) ?_
            have hP9 : va_P (dC, dI) vwCl (vX0_partOf cA r0 r1 r2 r3 r4 r5 r6 row rs tg st ln pa nd ar lv of nod idx ()) _ := hP
            have hD9 : va_D A (vX0_partOf cA r0 r1 r2 r3 r4 r5 r6 row rs tg st ln pa nd ar lv of nod idx ()) := hD
            have hq9 : pX0_partOf r0 r1 r2 r3 r4 r5 r6 row rs tg st ln pa nd ar lv of nod idx (lN (min (pt * 128 + row i % 128) 1099511627776)) () := by show _ = capL _; rw [← hinv, partS_at (i := i) (by omega), if_pos (by omega), if_pos (by assumption)]; show lN _ = lN _; rw [hpt, min_cap]
            exact W.lret (v := lN (min (pt * 128 + row i % 128) 1099511627776)) hx hb hr (fun t ht hW => ⟨⟨lN (min (pt * 128 + row i % 128) 1099511627776), (), rfl, hq9, by rw [ht]; exact hP9, va_K.moved hW.alike hK, hD9⟩, hS.F ht⟩) hS.2.2 dX0_partOf_68
  exact lp_13 (st nod + ln nod - (st nod) + 1) (st nod) 0 0 0 (Nat.lt_succ_self _) (by omega) (by omega) rfl (by rw [Nat.add_sub_cancel_left]) _ _ _ hP hD hS (lv_sub hl [0, 1, 2, 3, 4, 5] rfl)
abbrev pX0_arcOf (r0 : Nat) (r1 : Nat) (r2 : Nat) (r3 : Nat) (r4 : Nat) (r5 : Nat) (r6 : Nat) (row : Nat → Nat) (rs : Nat) (tg : Nat → Nat) (st : Nat → Nat) (ln : Nat → Nat) (pa : Nat → Int32) (nd : Nat) (ar : Nat → Nat) (lv : Nat) (of : Int32) (node : Int32) (k : Int32) : Int32 → Unit → Prop := fun (r : Int32) (u : Unit) => r = if isNd nd node ∧ tg node.toNatClampNeg = 6 ∧ ¬ k < 0 then oidS row (st node.toNatClampNeg) (ln node.toNatClampNeg) k.toNatClampNeg else -1
abbrev vX0_arcOf (cA : ClassId) (r0 : Nat) (r1 : Nat) (r2 : Nat) (r3 : Nat) (r4 : Nat) (r5 : Nat) (r6 : Nat) (row : Nat → Nat) (rs : Nat) (tg : Nat → Nat) (st : Nat → Nat) (ln : Nat → Nat) (pa : Nat → Int32) (nd : Nat) (ar : Nat → Nat) (lv : Nat) (of : Int32) (node : Int32) (k : Int32) : Unit → va_W := fun (u : Unit) => wR cA r0 r1 r2 r3 r4 r5 r6 row rs tg st ln pa nd ar lv of
abbrev qX0_arcOf (dC : Nat → ClassId) (dI : Nat → Nat → Nat) (cA : ClassId) (A : Nat → Prop) (r0 : Nat) (r1 : Nat) (r2 : Nat) (r3 : Nat) (r4 : Nat) (r5 : Nat) (r6 : Nat) (row : Nat → Nat) (rs : Nat) (tg : Nat → Nat) (st : Nat → Nat) (ln : Nat → Nat) (pa : Nat → Int32) (nd : Nat) (ar : Nat → Nat) (lv : Nat) (of : Int32) (node : Int32) (k : Int32) : Array Value → State → Outcome → State → Prop := va_Qi (pX0_arcOf r0 r1 r2 r3 r4 r5 r6 row rs tg st ln pa nd ar lv of node k) (fun u => cAft dC dI cA A (vX0_arcOf cA r0 r1 r2 r3 r4 r5 r6 row rs tg st ln pa nd ar lv of node k u)) A
set_option maxHeartbeats 4000000 in
set_option maxRecDepth 100000 in
theorem k_X0_arcOf (l : Launch) (dC : Nat → ClassId) (dI : Nat → Nat → Nat) (cA : ClassId) (r0 : Nat) (r1 : Nat) (r2 : Nat) (r3 : Nat) (r4 : Nat) (r5 : Nat) (r6 : Nat) (row : Nat → Nat) (rs : Nat) (tg : Nat → Nat) (st : Nat → Nat) (ln : Nat → Nat) (pa : Nat → Int32) (nd : Nat) (ar : Nat → Nat) (lv : Nat) (of : Int32) (node : Int32) (k : Int32) (sz : Nat) (hnd : nd ≤ 64) (hrow : ∀ j, row j < 256) (htg : ∀ j, tg j < 256) (hse : ∀ j, j < nd → st j + ln j ≤ 300) : Met l yX0_arcOf wsX0_arcOf ({ frames := 2, cells := 0, slots := 0, locals := 49 } : Room) (va_Pc [.ref r0, .int node, .int k] (cPre dC dI cA (wR cA r0 r1 r2 r3 r4 r5 r6 row rs tg st ln pa nd ar lv of) sz)) (qX0_arcOf dC dI cA (va_A (wR cA r0 r1 r2 r3 r4 r5 r6 row rs tg st ln pa nd ar lv of) sz) r0 r1 r2 r3 r4 r5 r6 row rs tg st ln pa nd ar lv of node k) 0 0 (va_A (wR cA r0 r1 r2 r3 r4 r5 r6 row rs tg st ln pa nd ar lv of) sz) := by
  refine Met.ofW (cc := cX0_arcOf) (maxL := 8) (ret := (some .int)) (by decide) rfl ?_
  intro p e s m args below meth c s₁ B hml hv
  obtain ⟨rfl, hsz, hP, hK, hD0⟩ := hv
  have hx := B.exec
  have hb := B.bytes
  have hr := B.returns
  have hts := atoms_spec (ws := wsX0_arcOf) B.pre
  have hown : s.vm.findClass RX0 = some m.cls := findClass_of_methodNamed B.named
  have hlocks := B.notSynchronized
  subst hsz
  have hD := hD0.self (sz := s.heap.size)
  generalize hAe : va_A (wR cA r0 r1 r2 r3 r4 r5 r6 row rs tg st ln pa nd ar lv of) s.heap.size = A at hD ⊢
  have hA : ∀ q : Nat, s.heap.size ≤ q → A q := fun q h => by rw [← hAe]; exact Or.inr h
  have hS : va_S A s.heap s.heap [] := va_S.rf
  have hl := lv_entry ([.ref r0, .int node, .int k]) (n := 8) (Nat.le_of_ble_eq_true rfl)
  rw [lg_entry_eq]
  generalize (lg_sl ([.ref r0, .int node, .int k]) ++ List.replicate (8 - (lg_sl ([.ref r0, .int node, .int k])).length) Slot.unset).toArray = ls at hl ⊢
  have hl : lv_has ls 8 [(0, .ref r0), (1, .int node), (2, .int k)] := hl
  have hinX0 : ∀ w ∈ wsX00, w ∈ wsX0_arcOf := fun _ h => List.mem_cons_of_mem _ (List.mem_append_right _ h)
  have hf_19 := hts (.fieldLink RX0 19 "DerDesk$Reader" "tags" "[I") (by decide +kernel)
  have hP : va_P (dC, dI) vwCl (wR cA r0 r1 r2 r3 r4 r5 r6 row rs tg st ln pa nd ar lv of) s.heap := hP
  refine lv_aload_n hx hb dX0_arcOf_0 rfl (lv_at hl 0 rfl) ?_
  refine lv_iload_n hx hb dX0_arcOf_1 rfl (lv_at hl 1 rfl) ?_
  refine cl_Vi (As := [.int node]) (rest := []) (wr := []) ⟨hx, hb, hml, hown, hts⟩ (k_X0_isNode l dC dI cA r0 r1 r2 r3 r4 r5 r6 row rs tg st ln pa nd ar lv of node _ ) (cwV 1 hts gX0_arcOf_X0_isNode rfl rfl rfl (by decide +kernel) ⟨Nat.le_of_ble_eq_true rfl, Nat.le_of_ble_eq_true rfl⟩) hK hP hD hS hA [0, 1, 2, 3, 4, 5, 6] [] rfl rfl (by decide) (by decide) (by decide) (ci := 0) (q0 := 0) rfl rfl rfl rfl hl.1 rfl (Nat.le_of_ble_eq_true rfl) dX0_arcOf_2 ⟨Nat.le_of_ble_eq_true rfl, Nat.le_of_ble_eq_true rfl⟩ (fun r_1 u_1 H locs hw_1 hP hD hS => ?_)
  have hP : va_P (dC, dI) vwCl (wR cA r0 r1 r2 r3 r4 r5 r6 row rs tg st ln pa nd ar lv of) H := hP
  have hD : va_D A (wR cA r0 r1 r2 r3 r4 r5 r6 row rs tg st ln pa nd ar lv of) := hD
  have hw_1 : r_1 = if isNd nd node then 1 else 0 := hw_1
  have hw_1 := hw_1.symm
  subst hw_1
  refine hl_ifb_eq (tgt := 23) hx hb dX0_arcOf_5 (by decide) (fun c_2 => ?_) (fun c_2 => ?_)
  · refine lv_iconst (v := (-1)) hx hb dX0_arcOf_23 (by decide) ?_
    have hP9 : va_P (dC, dI) vwCl (vX0_arcOf cA r0 r1 r2 r3 r4 r5 r6 row rs tg st ln pa nd ar lv of node k ()) _ := hP
    have hD9 : va_D A (vX0_arcOf cA r0 r1 r2 r3 r4 r5 r6 row rs tg st ln pa nd ar lv of node k ()) := hD
    have hq9 : pX0_arcOf r0 r1 r2 r3 r4 r5 r6 row rs tg st ln pa nd ar lv of node k ((-1)) () := (if_neg (fun h => by first | exact absurd h.1 (by assumption) | exact absurd h.2.1 (by assumption) | exact absurd (by assumption : 0 ≤ k) (fun z => h.2.2 (by exact Int32.not_le.mp z)) | grind)).symm
    exact W.iret (v := (-1)) hx hb hr (fun t ht hW => ⟨⟨(-1), (), rfl, hq9, by rw [ht]; exact hP9, va_K.moved hW.alike hK, hD9⟩, hS.F ht⟩) hS.2.2 dX0_arcOf_24
  · refine lv_aload_n hx hb dX0_arcOf_8 rfl (lv_at hl 0 rfl) ?_
    refine va_get (D := (dC, dI)) (ci := 0) (v := .ref r2) (C := RX0) (T := TX0) (N := 10) hx hb hts hinX0 hown hK hP 0 rfl rfl 2 (by decide) hf_19 (fun _ h9 => h9) rfl dX0_arcOf_9 ?_
    refine lv_iload_n hx hb dX0_arcOf_12 rfl (lv_at hl 1 rfl) ?_
    have hq := ‹isNd nd node›
    have hnl := cl_lt hq.1 (by omega) hq.2
    refine hl_top (cl_of hq.1) ?_
    refine hl_iald hx hb hK hP 2 0 rfl rfl (by omega) (by decide) dX0_arcOf_13 ?_
    have hv_3 := htg node.toNatClampNeg
    refine lv_bipush (v := nI 6) hx hb dX0_arcOf_14 (by decide) ?_
    refine hl_icmp_ne (tgt := 23) hx hb dX0_arcOf_16 (by decide) (by omega) (by omega) (fun c_4 => ?_) (fun c_4 => ?_)
    · refine lv_iconst (v := (-1)) hx hb dX0_arcOf_23 (by decide) ?_
      have hP9 : va_P (dC, dI) vwCl (vX0_arcOf cA r0 r1 r2 r3 r4 r5 r6 row rs tg st ln pa nd ar lv of node k ()) _ := hP
      have hD9 : va_D A (vX0_arcOf cA r0 r1 r2 r3 r4 r5 r6 row rs tg st ln pa nd ar lv of node k ()) := hD
      have hq9 : pX0_arcOf r0 r1 r2 r3 r4 r5 r6 row rs tg st ln pa nd ar lv of node k ((-1)) () := (if_neg (fun h => by first | exact absurd h.1 (by assumption) | exact absurd h.2.1 (by assumption) | exact absurd (by assumption : 0 ≤ k) (fun z => h.2.2 (by exact Int32.not_le.mp z)) | grind)).symm
      exact W.iret (v := (-1)) hx hb hr (fun t ht hW => ⟨⟨(-1), (), rfl, hq9, by rw [ht]; exact hP9, va_K.moved hW.alike hK, hD9⟩, hS.F ht⟩) hS.2.2 dX0_arcOf_24
    · refine lv_iload_n hx hb dX0_arcOf_19 rfl (lv_at hl 2 rfl) ?_
      refine lv_if_ge (tgt := 25) hx hb dX0_arcOf_20 (by decide) (fun c_5 => ?_) (fun c_5 => ?_)
      · have hq := ‹isNd nd node›
        have hnl := cl_lt hq.1 (by omega) hq.2
        have hse1 := hse _ hnl
        have hk0 : ¬ k < 0 := Int32.not_lt.mpr (by assumption)
        have hne : node = nI node.toNatClampNeg := cl_of hq.1
        have hke : k = nI k.toNatClampNeg := cl_of hk0
        have hkb := cl_b k
        have hl : lv_has ls 8 [(0, .ref r0), (1, .int (nI node.toNatClampNeg)), (2, .int (nI k.toNatClampNeg))] := by rw [← hne, ← hke]; exact hl
        refine lv_aload_n hx hb dX0_arcOf_25 rfl (lv_at hl 0 rfl) ?_
        refine lv_iload_n hx hb dX0_arcOf_26 rfl (lv_at hl 1 rfl) ?_
        refine lv_iload_n hx hb dX0_arcOf_27 rfl (lv_at hl 2 rfl) ?_
        refine lv_iconst (v := nI 2) hx hb dX0_arcOf_28 (by decide) ?_
        refine hl_icmp_ge (tgt := 36) hx hb dX0_arcOf_29 (by decide) (by omega) (by omega) (fun c_6 => ?_) (fun c_6 => ?_)
        · refine lv_iload_n hx hb dX0_arcOf_36 rfl (lv_at hl 2 rfl) ?_
          refine lv_iconst (v := nI 1) hx hb dX0_arcOf_37 (by decide) ?_
          refine hl_isub hx hb (by omega) dX0_arcOf_38 ?_
          refine cl_Vl (As := [.int (nI node.toNatClampNeg), .int (nI (k.toNatClampNeg - 1))]) (rest := []) (wr := []) ⟨hx, hb, hml, hown, hts⟩ (k_X0_partOf l dC dI cA r0 r1 r2 r3 r4 r5 r6 row rs tg st ln pa nd ar lv of node.toNatClampNeg (k.toNatClampNeg - 1) _ hrow (by omega) (by omega) (by omega)) (cwV 2 hts gX0_arcOf_X0_partOf rfl rfl rfl (by decide +kernel) ⟨Nat.le_of_ble_eq_true rfl, Nat.le_of_ble_eq_true rfl⟩) hK hP hD hS hA [0, 1, 2, 3, 4, 5, 6] [] rfl rfl (by decide) (by decide) (by decide) (ci := 0) (q0 := 0) rfl rfl rfl rfl hl.1 rfl (Nat.le_of_ble_eq_true rfl) dX0_arcOf_39 ⟨Nat.le_of_ble_eq_true rfl, Nat.le_of_ble_eq_true rfl⟩ (fun r_7 u_7 H locs hw_7 hP hD hS => ?_)
          have hP : va_P (dC, dI) vwCl (wR cA r0 r1 r2 r3 r4 r5 r6 row rs tg st ln pa nd ar lv of) H := hP
          have hD : va_D A (wR cA r0 r1 r2 r3 r4 r5 r6 row rs tg st ln pa nd ar lv of) := hD
          have hw_7 : r_7 = capL (partS row (st node.toNatClampNeg + ln node.toNatClampNeg) (ln node.toNatClampNeg) 0 0 (k.toNatClampNeg - 1)) := hw_7
          rcases hp : partS row (st node.toNatClampNeg + ln node.toNatClampNeg) (ln node.toNatClampNeg) 0 0 (k.toNatClampNeg - 1) with _ | tt
          · rw [hp] at hw_7
            have hw_7 : (-1) = r_7 := hw_7.symm
            subst hw_7
            refine lv_lstore_n (lv' := [(3, .long (-1)), (0, .ref r0), (1, .int (nI node.toNatClampNeg)), (2, .int (nI k.toNatClampNeg))]) hx hb dX0_arcOf_42 rfl hl (by decide) rfl (fun ls hl => ?_)
            refine lv_lload_n hx hb dX0_arcOf_43 rfl (lv_at hl 0 rfl) ?_
            refine lv_lconst (v := lN 0) hx hb dX0_arcOf_44 (by decide) ?_
            refine W.lcmp hx hb dX0_arcOf_45 ?_
            refine lv_if_ge (tgt := 51) hx hb dX0_arcOf_46 (by decide) (fun c_8 => absurd c_8 (by decide)) (fun c_8 => ?_)
            refine lv_iconst (v := (-1)) hx hb dX0_arcOf_49 (by decide) ?_
            have hP9 : va_P (dC, dI) vwCl (vX0_arcOf cA r0 r1 r2 r3 r4 r5 r6 row rs tg st ln pa nd ar lv of node k ()) _ := hP
            have hD9 : va_D A (vX0_arcOf cA r0 r1 r2 r3 r4 r5 r6 row rs tg st ln pa nd ar lv of node k ()) := hD
            have hq9 : pX0_arcOf r0 r1 r2 r3 r4 r5 r6 row rs tg st ln pa nd ar lv of node k ((-1)) () := (by show _ = if _ then _ else _; rw [if_pos ⟨hq, by assumption, hk0⟩]; unfold oidS; (first | rw [if_pos (by omega)] | rw [if_neg (by omega)]); rw [hp]; rfl)
            exact W.iret (v := (-1)) hx hb hr (fun t ht hW => ⟨⟨(-1), (), rfl, hq9, by rw [ht]; exact hP9, va_K.moved hW.alike hK, hD9⟩, hS.F ht⟩) hS.2.2 dX0_arcOf_50
          · rw [hp] at hw_7
            have hw_7 : lN (min tt 1099511627776) = r_7 := hw_7.symm
            subst hw_7
            have hmn : min tt 1099511627776 ≤ 1099511627776 := Nat.min_le_right _ _
            refine lv_lstore_n (lv' := [(3, .long (lN (min tt 1099511627776))), (0, .ref r0), (1, .int (nI node.toNatClampNeg)), (2, .int (nI k.toNatClampNeg))]) hx hb dX0_arcOf_42 rfl hl (by decide) rfl (fun ls hl => ?_)
            refine lv_lload_n hx hb dX0_arcOf_43 rfl (lv_at hl 0 rfl) ?_
            refine lv_lconst (v := lN 0) hx hb dX0_arcOf_44 (by decide) ?_
            refine W.lcmp hx hb dX0_arcOf_45 ?_
            refine lv_if_ge (tgt := 51) hx hb dX0_arcOf_46 (by decide) (fun c_9 => ?_) (fun c_9 => absurd ((lg_cmp_ge _ _).mpr ((pk_lLE (by decide) (by omega)).mpr (Nat.zero_le _))) c_9)
            refine lv_lload_n hx hb dX0_arcOf_51 rfl (lv_at hl 0 rfl) ?_
            refine lv_lstore (lv' := [(5, .long (lN (min tt 1099511627776))), (3, .long (lN (min tt 1099511627776))), (0, .ref r0), (1, .int (nI node.toNatClampNeg)), (2, .int (nI k.toNatClampNeg))]) hx hb dX0_arcOf_52 hl (by decide) rfl (fun ls hl => ?_)
            refine lv_iload_n hx hb dX0_arcOf_54 rfl (lv_at hl 4 rfl) ?_
            refine lv_iconst (v := nI 2) hx hb dX0_arcOf_55 (by decide) ?_
            refine hl_icmp_ge (tgt := 85) hx hb dX0_arcOf_56 (by decide) (by omega) (by omega) (fun c_10 => ?_) (fun c_10 => absurd (by omega) c_10)
            refine lv_lload hx hb dX0_arcOf_85 (lv_at hl 0 rfl) ?_
            refine lv_ldc2 (v := 2147483647) hx hb hown (hts (.constantLong RX0 115 (2147483647)) (by decide +kernel)) dX0_arcOf_87 ?_
            rw [show (2147483647 : Int64) = lN 2147483647 from rfl]
            refine W.lcmp hx hb dX0_arcOf_90 ?_
            refine lv_if_le (tgt := 99) hx hb dX0_arcOf_91 (by decide) (fun c_11 => ?_) (fun c_11 => ?_)
            · have c_11 := lle_t (by omega) (by omega) c_11
              refine lv_lload hx hb dX0_arcOf_99 (lv_at hl 0 rfl) ?_
              refine lv_l2i (v := (lN (min tt 1099511627776)).toInt32) hx hb dX0_arcOf_101 rfl ?_
              have hP9 : va_P (dC, dI) vwCl (vX0_arcOf cA r0 r1 r2 r3 r4 r5 r6 row rs tg st ln pa nd ar lv of node k ()) _ := hP
              have hD9 : va_D A (vX0_arcOf cA r0 r1 r2 r3 r4 r5 r6 row rs tg st ln pa nd ar lv of node k ()) := hD
              have hq9 : pX0_arcOf r0 r1 r2 r3 r4 r5 r6 row rs tg st ln pa nd ar lv of node k (((lN (min tt 1099511627776)).toInt32)) () := (by show _ = if _ then _ else _; rw [if_pos ⟨hq, by assumption, hk0⟩]; unfold oidS; (first | rw [if_pos (show k.toNatClampNeg < 2 by omega)] | rw [if_neg (show ¬ k.toNatClampNeg < 2 by omega)]); rw [hp, arc_cap]; unfold arcV; (first | rw [if_pos (show k.toNatClampNeg = 0 by omega)] | rw [if_neg (show ¬ k.toNatClampNeg = 0 by omega), if_pos (show k.toNatClampNeg = 1 by omega)] | rw [if_neg (show ¬ k.toNatClampNeg = 0 by omega), if_neg (show ¬ k.toNatClampNeg = 1 by omega)]); first | rw [if_pos (by omega)] | (rw [if_neg (by omega)]; exact lN_i _))
              exact W.iret (v := ((lN (min tt 1099511627776)).toInt32)) hx hb hr (fun t ht hW => ⟨⟨((lN (min tt 1099511627776)).toInt32), (), rfl, hq9, by rw [ht]; exact hP9, va_K.moved hW.alike hK, hD9⟩, hS.F ht⟩) hS.2.2 dX0_arcOf_102
            · have c_11 := lle_f (by omega) (by omega) c_11
              refine lv_bipush (v := (-2)) hx hb dX0_arcOf_94 (by decide) ?_
              refine lv_goto (tgt := 102) hx hb dX0_arcOf_96 (by decide) ?_
              have hP9 : va_P (dC, dI) vwCl (vX0_arcOf cA r0 r1 r2 r3 r4 r5 r6 row rs tg st ln pa nd ar lv of node k ()) _ := hP
              have hD9 : va_D A (vX0_arcOf cA r0 r1 r2 r3 r4 r5 r6 row rs tg st ln pa nd ar lv of node k ()) := hD
              have hq9 : pX0_arcOf r0 r1 r2 r3 r4 r5 r6 row rs tg st ln pa nd ar lv of node k ((-2)) () := (by show _ = if _ then _ else _; rw [if_pos ⟨hq, by assumption, hk0⟩]; unfold oidS; (first | rw [if_pos (show k.toNatClampNeg < 2 by omega)] | rw [if_neg (show ¬ k.toNatClampNeg < 2 by omega)]); rw [hp, arc_cap]; unfold arcV; (first | rw [if_pos (show k.toNatClampNeg = 0 by omega)] | rw [if_neg (show ¬ k.toNatClampNeg = 0 by omega), if_pos (show k.toNatClampNeg = 1 by omega)] | rw [if_neg (show ¬ k.toNatClampNeg = 0 by omega), if_neg (show ¬ k.toNatClampNeg = 1 by omega)]); first | rw [if_pos (by omega)] | (rw [if_neg (by omega)]; exact lN_i _))
              exact W.iret (v := (-2)) hx hb hr (fun t ht hW => ⟨⟨(-2), (), rfl, hq9, by rw [ht]; exact hP9, va_K.moved hW.alike hK, hD9⟩, hS.F ht⟩) hS.2.2 dX0_arcOf_102
        · refine lv_iconst (v := nI 0) hx hb dX0_arcOf_32 (by decide) ?_
          refine lv_goto (tgt := 39) hx hb dX0_arcOf_33 (by decide) ?_
          refine cl_Vl (As := [.int (nI node.toNatClampNeg), .int (nI 0)]) (rest := []) (wr := []) ⟨hx, hb, hml, hown, hts⟩ (k_X0_partOf l dC dI cA r0 r1 r2 r3 r4 r5 r6 row rs tg st ln pa nd ar lv of node.toNatClampNeg 0 _ hrow (by omega) (by omega) (by omega)) (cwV 2 hts gX0_arcOf_X0_partOf rfl rfl rfl (by decide +kernel) ⟨Nat.le_of_ble_eq_true rfl, Nat.le_of_ble_eq_true rfl⟩) hK hP hD hS hA [0, 1, 2, 3, 4, 5, 6] [] rfl rfl (by decide) (by decide) (by decide) (ci := 0) (q0 := 0) rfl rfl rfl rfl hl.1 rfl (Nat.le_of_ble_eq_true rfl) dX0_arcOf_39 ⟨Nat.le_of_ble_eq_true rfl, Nat.le_of_ble_eq_true rfl⟩ (fun r_12 u_12 H locs hw_12 hP hD hS => ?_)
          have hP : va_P (dC, dI) vwCl (wR cA r0 r1 r2 r3 r4 r5 r6 row rs tg st ln pa nd ar lv of) H := hP
          have hD : va_D A (wR cA r0 r1 r2 r3 r4 r5 r6 row rs tg st ln pa nd ar lv of) := hD
          have hw_12 : r_12 = capL (partS row (st node.toNatClampNeg + ln node.toNatClampNeg) (ln node.toNatClampNeg) 0 0 0) := hw_12
          rcases hp : partS row (st node.toNatClampNeg + ln node.toNatClampNeg) (ln node.toNatClampNeg) 0 0 0 with _ | tt
          · rw [hp] at hw_12
            have hw_12 : (-1) = r_12 := hw_12.symm
            subst hw_12
            refine lv_lstore_n (lv' := [(3, .long (-1)), (0, .ref r0), (1, .int (nI node.toNatClampNeg)), (2, .int (nI k.toNatClampNeg))]) hx hb dX0_arcOf_42 rfl hl (by decide) rfl (fun ls hl => ?_)
            refine lv_lload_n hx hb dX0_arcOf_43 rfl (lv_at hl 0 rfl) ?_
            refine lv_lconst (v := lN 0) hx hb dX0_arcOf_44 (by decide) ?_
            refine W.lcmp hx hb dX0_arcOf_45 ?_
            refine lv_if_ge (tgt := 51) hx hb dX0_arcOf_46 (by decide) (fun c_13 => absurd c_13 (by decide)) (fun c_13 => ?_)
            refine lv_iconst (v := (-1)) hx hb dX0_arcOf_49 (by decide) ?_
            have hP9 : va_P (dC, dI) vwCl (vX0_arcOf cA r0 r1 r2 r3 r4 r5 r6 row rs tg st ln pa nd ar lv of node k ()) _ := hP
            have hD9 : va_D A (vX0_arcOf cA r0 r1 r2 r3 r4 r5 r6 row rs tg st ln pa nd ar lv of node k ()) := hD
            have hq9 : pX0_arcOf r0 r1 r2 r3 r4 r5 r6 row rs tg st ln pa nd ar lv of node k ((-1)) () := (by show _ = if _ then _ else _; rw [if_pos ⟨hq, by assumption, hk0⟩]; unfold oidS; (first | rw [if_pos (by omega)] | rw [if_neg (by omega)]); rw [hp]; rfl)
            exact W.iret (v := (-1)) hx hb hr (fun t ht hW => ⟨⟨(-1), (), rfl, hq9, by rw [ht]; exact hP9, va_K.moved hW.alike hK, hD9⟩, hS.F ht⟩) hS.2.2 dX0_arcOf_50
          · rw [hp] at hw_12
            have hw_12 : lN (min tt 1099511627776) = r_12 := hw_12.symm
            subst hw_12
            have hmn : min tt 1099511627776 ≤ 1099511627776 := Nat.min_le_right _ _
            refine lv_lstore_n (lv' := [(3, .long (lN (min tt 1099511627776))), (0, .ref r0), (1, .int (nI node.toNatClampNeg)), (2, .int (nI k.toNatClampNeg))]) hx hb dX0_arcOf_42 rfl hl (by decide) rfl (fun ls hl => ?_)
            refine lv_lload_n hx hb dX0_arcOf_43 rfl (lv_at hl 0 rfl) ?_
            refine lv_lconst (v := lN 0) hx hb dX0_arcOf_44 (by decide) ?_
            refine W.lcmp hx hb dX0_arcOf_45 ?_
            refine lv_if_ge (tgt := 51) hx hb dX0_arcOf_46 (by decide) (fun c_14 => ?_) (fun c_14 => absurd ((lg_cmp_ge _ _).mpr ((pk_lLE (by decide) (by omega)).mpr (Nat.zero_le _))) c_14)
            refine lv_lload_n hx hb dX0_arcOf_51 rfl (lv_at hl 0 rfl) ?_
            refine lv_lstore (lv' := [(5, .long (lN (min tt 1099511627776))), (3, .long (lN (min tt 1099511627776))), (0, .ref r0), (1, .int (nI node.toNatClampNeg)), (2, .int (nI k.toNatClampNeg))]) hx hb dX0_arcOf_52 hl (by decide) rfl (fun ls hl => ?_)
            refine lv_iload_n hx hb dX0_arcOf_54 rfl (lv_at hl 4 rfl) ?_
            refine lv_iconst (v := nI 2) hx hb dX0_arcOf_55 (by decide) ?_
            refine hl_icmp_ge (tgt := 85) hx hb dX0_arcOf_56 (by decide) (by omega) (by omega) (fun c_15 => absurd c_15 (by omega)) (fun c_15 => ?_)
            refine lv_lload_n hx hb dX0_arcOf_59 rfl (lv_at hl 1 rfl) ?_
            refine cl_Si (As := [.long (lN (min tt 1099511627776))]) (rest := []) (wr := [(r0, .inr (0, [.ref r1, .int (nI rs), .ref r2, .ref r3, .ref r4, .ref r5, .int (nI nd), .ref r6, .int (nI lv), .int of])), (r1, .inl (cA, 300, .inl (nA row))), (r2, .inl (cA, 64, .inl (nA tg))), (r3, .inl (cA, 64, .inl (nA st))), (r4, .inl (cA, 64, .inl (nA ln))), (r5, .inl (cA, 64, .inl (pa))), (r6, .inl (cA, 16, .inl (nA ar)))]) ⟨hx, hb, hml, hown, hts⟩ (k_X0_firstArcOf l dC dI cA (min tt 1099511627776) _ (by omega)) (va_cwS 1 hts gX0_arcOf_X0_firstArcOf rfl rfl rfl (by decide +kernel) ⟨Nat.le_of_ble_eq_true rfl, Nat.le_of_ble_eq_true rfl⟩) hK hP hD hS hA [] [0, 1, 2, 3, 4, 5, 6] rfl rfl (by decide) (by decide) (by decide) rfl hl.1 rfl (Nat.le_of_ble_eq_true rfl) dX0_arcOf_60 ⟨Nat.le_of_ble_eq_true rfl, Nat.le_of_ble_eq_true rfl⟩ (fun r_16 u_16 H locs hw_16 hP hD hS => ?_)
            have hP : va_P (dC, dI) vwCl (wR cA r0 r1 r2 r3 r4 r5 r6 row rs tg st ln pa nd ar lv of) H := hP
            have hD : va_D A (wR cA r0 r1 r2 r3 r4 r5 r6 row rs tg st ln pa nd ar lv of) := hD
            have hw_16 : r_16 = nI (fst1 (min tt 1099511627776)) := hw_16
            have hw_16 := hw_16.symm
            subst hw_16
            have hf1 := fst1_le (min tt 1099511627776)
            refine lv_istore (lv' := [(7, .int (nI (fst1 (min tt 1099511627776)))), (5, .long (lN (min tt 1099511627776))), (3, .long (lN (min tt 1099511627776))), (0, .ref r0), (1, .int (nI node.toNatClampNeg)), (2, .int (nI k.toNatClampNeg))]) hx hb dX0_arcOf_63 hl (by decide) rfl (fun ls hl => ?_)
            refine lv_iload_n hx hb dX0_arcOf_65 rfl (lv_at hl 5 rfl) ?_
            refine hl_if_ne (tgt := 75) hx hb dX0_arcOf_66 (by decide) (by omega) (fun c_17 => ?_) (fun c_17 => ?_)
            · refine lv_lload_n hx hb dX0_arcOf_75 rfl (lv_at hl 2 rfl) ?_
              refine lv_bipush (v := nI 40) hx hb dX0_arcOf_76 (by decide) ?_
              refine lv_iload hx hb dX0_arcOf_78 (lv_at hl 0 rfl) ?_
              refine hl_imul hx hb dX0_arcOf_80 ?_
              refine lv_i2l (v := (nI (40 * (fst1 (min tt 1099511627776)))).toInt64) hx hb dX0_arcOf_81 rfl ?_
              refine lv_lsub hx hb dX0_arcOf_82 ?_
              refine hl_topl (show _ = lN (min tt 1099511627776 - 40 * fst1 (min tt 1099511627776)) by rw [nI_l (by omega), lN_sub (by omega)]) ?_
              refine lv_lstore (lv' := [(5, .long (lN (min tt 1099511627776 - 40 * fst1 (min tt 1099511627776)))), (7, .int (nI (fst1 (min tt 1099511627776)))), (3, .long (lN (min tt 1099511627776))), (0, .ref r0), (1, .int (nI node.toNatClampNeg)), (2, .int (nI k.toNatClampNeg))]) hx hb dX0_arcOf_83 hl (by decide) rfl (fun ls hl => ?_)
              refine lv_lload hx hb dX0_arcOf_85 (lv_at hl 0 rfl) ?_
              refine lv_ldc2 (v := 2147483647) hx hb hown (hts (.constantLong RX0 115 (2147483647)) (by decide +kernel)) dX0_arcOf_87 ?_
              rw [show (2147483647 : Int64) = lN 2147483647 from rfl]
              refine W.lcmp hx hb dX0_arcOf_90 ?_
              refine lv_if_le (tgt := 99) hx hb dX0_arcOf_91 (by decide) (fun c_18 => ?_) (fun c_18 => ?_)
              · have c_18 := lle_t (by omega) (by omega) c_18
                refine lv_lload hx hb dX0_arcOf_99 (lv_at hl 0 rfl) ?_
                refine lv_l2i (v := (lN (min tt 1099511627776 - 40 * fst1 (min tt 1099511627776))).toInt32) hx hb dX0_arcOf_101 rfl ?_
                have hP9 : va_P (dC, dI) vwCl (vX0_arcOf cA r0 r1 r2 r3 r4 r5 r6 row rs tg st ln pa nd ar lv of node k ()) _ := hP
                have hD9 : va_D A (vX0_arcOf cA r0 r1 r2 r3 r4 r5 r6 row rs tg st ln pa nd ar lv of node k ()) := hD
                have hq9 : pX0_arcOf r0 r1 r2 r3 r4 r5 r6 row rs tg st ln pa nd ar lv of node k (((lN (min tt 1099511627776 - 40 * fst1 (min tt 1099511627776))).toInt32)) () := (by show _ = if _ then _ else _; rw [if_pos ⟨hq, by assumption, hk0⟩]; unfold oidS; (first | rw [if_pos (show k.toNatClampNeg < 2 by omega)] | rw [if_neg (show ¬ k.toNatClampNeg < 2 by omega)]); rw [hp, arc_cap]; unfold arcV; (first | rw [if_pos (show k.toNatClampNeg = 0 by omega)] | rw [if_neg (show ¬ k.toNatClampNeg = 0 by omega), if_pos (show k.toNatClampNeg = 1 by omega)] | rw [if_neg (show ¬ k.toNatClampNeg = 0 by omega), if_neg (show ¬ k.toNatClampNeg = 1 by omega)]); first | rw [if_pos (by omega)] | (rw [if_neg (by omega)]; exact lN_i _))
                exact W.iret (v := ((lN (min tt 1099511627776 - 40 * fst1 (min tt 1099511627776))).toInt32)) hx hb hr (fun t ht hW => ⟨⟨((lN (min tt 1099511627776 - 40 * fst1 (min tt 1099511627776))).toInt32), (), rfl, hq9, by rw [ht]; exact hP9, va_K.moved hW.alike hK, hD9⟩, hS.F ht⟩) hS.2.2 dX0_arcOf_102
              · have c_18 := lle_f (by omega) (by omega) c_18
                refine lv_bipush (v := (-2)) hx hb dX0_arcOf_94 (by decide) ?_
                refine lv_goto (tgt := 102) hx hb dX0_arcOf_96 (by decide) ?_
                have hP9 : va_P (dC, dI) vwCl (vX0_arcOf cA r0 r1 r2 r3 r4 r5 r6 row rs tg st ln pa nd ar lv of node k ()) _ := hP
                have hD9 : va_D A (vX0_arcOf cA r0 r1 r2 r3 r4 r5 r6 row rs tg st ln pa nd ar lv of node k ()) := hD
                have hq9 : pX0_arcOf r0 r1 r2 r3 r4 r5 r6 row rs tg st ln pa nd ar lv of node k ((-2)) () := (by show _ = if _ then _ else _; rw [if_pos ⟨hq, by assumption, hk0⟩]; unfold oidS; (first | rw [if_pos (show k.toNatClampNeg < 2 by omega)] | rw [if_neg (show ¬ k.toNatClampNeg < 2 by omega)]); rw [hp, arc_cap]; unfold arcV; (first | rw [if_pos (show k.toNatClampNeg = 0 by omega)] | rw [if_neg (show ¬ k.toNatClampNeg = 0 by omega), if_pos (show k.toNatClampNeg = 1 by omega)] | rw [if_neg (show ¬ k.toNatClampNeg = 0 by omega), if_neg (show ¬ k.toNatClampNeg = 1 by omega)]); first | rw [if_pos (by omega)] | (rw [if_neg (by omega)]; exact lN_i _))
                exact W.iret (v := (-2)) hx hb hr (fun t ht hW => ⟨⟨(-2), (), rfl, hq9, by rw [ht]; exact hP9, va_K.moved hW.alike hK, hD9⟩, hS.F ht⟩) hS.2.2 dX0_arcOf_102
            · refine lv_iload hx hb dX0_arcOf_69 (lv_at hl 0 rfl) ?_
              refine lv_i2l (v := (nI (fst1 (min tt 1099511627776))).toInt64) hx hb dX0_arcOf_71 rfl ?_
              refine lv_goto (tgt := 83) hx hb dX0_arcOf_72 (by decide) ?_
              refine hl_topl (show _ = lN (fst1 (min tt 1099511627776)) from nI_l (by omega)) ?_
              refine lv_lstore (lv' := [(5, .long (lN (fst1 (min tt 1099511627776)))), (7, .int (nI (fst1 (min tt 1099511627776)))), (3, .long (lN (min tt 1099511627776))), (0, .ref r0), (1, .int (nI node.toNatClampNeg)), (2, .int (nI k.toNatClampNeg))]) hx hb dX0_arcOf_83 hl (by decide) rfl (fun ls hl => ?_)
              refine lv_lload hx hb dX0_arcOf_85 (lv_at hl 0 rfl) ?_
              refine lv_ldc2 (v := 2147483647) hx hb hown (hts (.constantLong RX0 115 (2147483647)) (by decide +kernel)) dX0_arcOf_87 ?_
              rw [show (2147483647 : Int64) = lN 2147483647 from rfl]
              refine W.lcmp hx hb dX0_arcOf_90 ?_
              refine lv_if_le (tgt := 99) hx hb dX0_arcOf_91 (by decide) (fun c_19 => ?_) (fun c_19 => ?_)
              · have c_19 := lle_t (by omega) (by omega) c_19
                refine lv_lload hx hb dX0_arcOf_99 (lv_at hl 0 rfl) ?_
                refine lv_l2i (v := (lN (fst1 (min tt 1099511627776))).toInt32) hx hb dX0_arcOf_101 rfl ?_
                have hP9 : va_P (dC, dI) vwCl (vX0_arcOf cA r0 r1 r2 r3 r4 r5 r6 row rs tg st ln pa nd ar lv of node k ()) _ := hP
                have hD9 : va_D A (vX0_arcOf cA r0 r1 r2 r3 r4 r5 r6 row rs tg st ln pa nd ar lv of node k ()) := hD
                have hq9 : pX0_arcOf r0 r1 r2 r3 r4 r5 r6 row rs tg st ln pa nd ar lv of node k (((lN (fst1 (min tt 1099511627776))).toInt32)) () := (by show _ = if _ then _ else _; rw [if_pos ⟨hq, by assumption, hk0⟩]; unfold oidS; (first | rw [if_pos (show k.toNatClampNeg < 2 by omega)] | rw [if_neg (show ¬ k.toNatClampNeg < 2 by omega)]); rw [hp, arc_cap]; unfold arcV; (first | rw [if_pos (show k.toNatClampNeg = 0 by omega)] | rw [if_neg (show ¬ k.toNatClampNeg = 0 by omega), if_pos (show k.toNatClampNeg = 1 by omega)] | rw [if_neg (show ¬ k.toNatClampNeg = 0 by omega), if_neg (show ¬ k.toNatClampNeg = 1 by omega)]); first | rw [if_pos (by omega)] | (rw [if_neg (by omega)]; exact lN_i _))
                exact W.iret (v := ((lN (fst1 (min tt 1099511627776))).toInt32)) hx hb hr (fun t ht hW => ⟨⟨((lN (fst1 (min tt 1099511627776))).toInt32), (), rfl, hq9, by rw [ht]; exact hP9, va_K.moved hW.alike hK, hD9⟩, hS.F ht⟩) hS.2.2 dX0_arcOf_102
              · have c_19 := lle_f (by omega) (by omega) c_19
                refine lv_bipush (v := (-2)) hx hb dX0_arcOf_94 (by decide) ?_
                refine lv_goto (tgt := 102) hx hb dX0_arcOf_96 (by decide) ?_
                have hP9 : va_P (dC, dI) vwCl (vX0_arcOf cA r0 r1 r2 r3 r4 r5 r6 row rs tg st ln pa nd ar lv of node k ()) _ := hP
                have hD9 : va_D A (vX0_arcOf cA r0 r1 r2 r3 r4 r5 r6 row rs tg st ln pa nd ar lv of node k ()) := hD
                have hq9 : pX0_arcOf r0 r1 r2 r3 r4 r5 r6 row rs tg st ln pa nd ar lv of node k ((-2)) () := (by show _ = if _ then _ else _; rw [if_pos ⟨hq, by assumption, hk0⟩]; unfold oidS; (first | rw [if_pos (show k.toNatClampNeg < 2 by omega)] | rw [if_neg (show ¬ k.toNatClampNeg < 2 by omega)]); rw [hp, arc_cap]; unfold arcV; (first | rw [if_pos (show k.toNatClampNeg = 0 by omega)] | rw [if_neg (show ¬ k.toNatClampNeg = 0 by omega), if_pos (show k.toNatClampNeg = 1 by omega)] | rw [if_neg (show ¬ k.toNatClampNeg = 0 by omega), if_neg (show ¬ k.toNatClampNeg = 1 by omega)]); first | rw [if_pos (by omega)] | (rw [if_neg (by omega)]; exact lN_i _))
                exact W.iret (v := (-2)) hx hb hr (fun t ht hW => ⟨⟨(-2), (), rfl, hq9, by rw [ht]; exact hP9, va_K.moved hW.alike hK, hD9⟩, hS.F ht⟩) hS.2.2 dX0_arcOf_102
      · refine lv_iconst (v := (-1)) hx hb dX0_arcOf_23 (by decide) ?_
        have hP9 : va_P (dC, dI) vwCl (vX0_arcOf cA r0 r1 r2 r3 r4 r5 r6 row rs tg st ln pa nd ar lv of node k ()) _ := hP
        have hD9 : va_D A (vX0_arcOf cA r0 r1 r2 r3 r4 r5 r6 row rs tg st ln pa nd ar lv of node k ()) := hD
        have hq9 : pX0_arcOf r0 r1 r2 r3 r4 r5 r6 row rs tg st ln pa nd ar lv of node k ((-1)) () := (if_neg (fun h => by first | exact absurd h.1 (by assumption) | exact absurd h.2.1 (by assumption) | exact absurd (by assumption : 0 ≤ k) (fun z => h.2.2 (by exact Int32.not_le.mp z)) | grind)).symm
        exact W.iret (v := (-1)) hx hb hr (fun t ht hW => ⟨⟨(-1), (), rfl, hq9, by rw [ht]; exact hP9, va_K.moved hW.alike hK, hD9⟩, hS.F ht⟩) hS.2.2 dX0_arcOf_24
end
section
/-! what writing is, without a machine -/
theorem id_of {x : Int32} (h : isId x) : x = nI x.toNatClampNeg ∧ x.toNatClampNeg < 256 := by
  have h0 : ¬ x < 0 := by
    simp only [isId, Int32.lt_iff_toInt_lt, Int32.le_iff_toInt_le, show (nI 1).toInt = 1 from rfl, show (nI 6).toInt = 6 from rfl, show (0 : Int32).toInt = 0 from rfl] at h ⊢
    rcases h with h | h
    · omega
    · rw [h]; decide
  refine ⟨cl_of h0, ?_⟩
  rcases h with h | h
  · have := cl_le (n := 6) h0 (by decide) (fun q => by
      have h2 := h.2
      rw [Int32.le_iff_toInt_le] at h2
      rw [Int32.lt_iff_toInt_lt] at q
      omega)
    omega
  · rw [h]; decide
abbrev canH (dp wz : Nat) (bt op : Nat → Nat) : Prop := (dp = 0 ∧ wz = 0) ∨ (0 < dp ∧ bt (op (dp - 1)) = 48)
def intSz (v : Int32) : Nat := if v >>> (nI 7 &&& 31) = v >>> (nI 31 &&& 31) then 1 else if v >>> (nI 15 &&& 31) = v >>> (nI 31 &&& 31) then 2 else if v >>> (nI 23 &&& 31) = v >>> (nI 31 &&& 31) then 3 else 4
def partSz (v : Int32) : Nat := if v >>> (nI 7 &&& 31) = 0 then 1 else if v >>> (nI 14 &&& 31) = 0 then 2 else if v >>> (nI 21 &&& 31) = 0 then 3 else if v >>> (nI 28 &&& 31) = 0 then 4 else 5
theorem intSz_le (v : Int32) : 1 ≤ intSz v ∧ intSz v ≤ 4 := by unfold intSz; (repeat' split) <;> omega
theorem partSz_le (v : Int32) : 1 ≤ partSz v ∧ partSz v ≤ 5 := by unfold partSz; (repeat' split) <;> omega
def byN (v : Int32) (k : Nat) : Nat := (v >>> (nI (8 * k) &&& 31)).toBitVec.toNat % 256
def b7N (v : Int32) (k : Nat) : Nat := (v >>> (nI (7 * k) &&& 31)).toBitVec.toNat % 128
def bpN (v : Int32) (k : Nat) : Nat := if k = 0 then b7N v k else b7N v k + 128
theorem byN_lt (v : Int32) (k : Nat) : byN v k < 256 := Nat.mod_lt _ (by decide)
theorem b7N_lt (v : Int32) (k : Nat) : b7N v k < 128 := Nat.mod_lt _ (by decide)
theorem bpN_lt (v : Int32) (k : Nat) : bpN v k < 256 := by
  have := b7N_lt v k
  unfold bpN
  split <;> omega
theorem byN_eq (v : Int32) (k : Nat) : v >>> (nI (8 * k) &&& 31) &&& nI 255 = nI (byN v k) := pk_and _ 8 (by decide)
theorem b7N_eq (v : Int32) (k : Nat) : v >>> (nI (7 * k) &&& 31) &&& nI 127 = nI (b7N v k) := pk_and _ 7 (by decide)
theorem or128 : ∀ s, s < 128 → nI s ||| nI 128 = nI (s + 128) := by decide +kernel
/-- bytes appended: of n bytes, B (n - 1) first -/
def pB (f : Nat → Nat) (w : Nat) (B : Nat → Nat) (n : Nat) : Nat → Nat → Nat
  | 0 => f
  | i + 1 => va_up (pB f w B n i) (w + i) (B (n - 1 - i))
theorem pB_step (f : Nat → Nat) (w : Nat) (B : Nat → Nat) {n k : Nat} (hk : k + 1 ≤ n) : va_up (pB f w B n (n - (k + 1))) (w + (n - (k + 1))) (B k) = pB f w B n (n - k) := by
  rw [show n - k = (n - (k + 1)) + 1 by omega]
  show _ = va_up (pB f w B n (n - (k + 1))) (w + (n - (k + 1))) (B (n - 1 - (n - (k + 1))))
  rw [show n - 1 - (n - (k + 1)) = k by omega]
theorem pB_lt {f : Nat → Nat} {w : Nat} {B : Nat → Nat} {n : Nat} (hf : ∀ j, f j < 256) (hB : ∀ k, B k < 256) : ∀ i j, pB f w B n i j < 256
  | 0, j => hf j
  | i + 1, j => up_lt (pB_lt hf hB i) (hB _) j
/-- byte i of a length n that is told in z bytes -/
def lnB (n z i : Nat) : Nat := if z = 1 then n else if i = 0 then 128 + (z - 1) else n / 256 ^ (z - 1 - i) % 256
theorem nI_dec {i : Nat} (h : 1 ≤ i) : nI i + Int32.ofInt (-1) = nI (i - 1) := by
  rw [mI_dec]
  obtain ⟨j, rfl⟩ : ∃ j, i = j + 1 := ⟨i - 1, by omega⟩
  rfl
theorem shr_and {n k : Nat} (hn : n < 2 ^ 31) (s : Int32) (hs : (s.toBitVec.smod 32).toNat = k) : nI n >>> s &&& nI 255 = nI (n / 2 ^ k % 256) := by
  rw [pk_shrN hn s k hs]
  exact pk_andN (n := n / 2 ^ k) (Nat.lt_of_le_of_lt (Nat.div_le_self _ _) (by omega)) 8 (by decide)
def begC (tag : Int32) (dp wz : Nat) (bt op : Nat → Nat) : Int32 := if ¬ isId tag then -1 else if ¬ canH dp wz bt op then -2 else if 16 ≤ dp ∨ wz = 300 then -3 else 0
def pbC (b : Int32) (dp wz : Nat) (bt op : Nat → Nat) : Int32 := if ¬ isB b then -1 else if dp = 0 ∨ bt (op (dp - 1)) = 48 then -2 else if wz = 300 then -3 else 0
def piC (v : Int32) (dp wz : Nat) (bt op : Nat → Nat) : Int32 := if dp = 0 ∨ ¬ bt (op (dp - 1)) = 2 ∨ ¬ wz = op (dp - 1) + 1 then -2 else if 300 < wz + intSz v then -3 else 0
def ppC (v : Int32) (dp wz : Nat) (bt op : Nat → Nat) : Int32 := if v < 0 then -1 else if dp = 0 ∨ ¬ bt (op (dp - 1)) = 6 then -2 else if 300 < wz + partSz v then -3 else 0
/-- the contents of the innermost open value: their number, and whether they keep to their rule -/
abbrev enN (dp wz : Nat) (op : Nat → Nat) : Nat := wz - (op (dp - 1) + 1)
abbrev enK (dp wz : Nat) (bt op : Nat → Nat) : Bool := okC (bt (op (dp - 1))) bt (op (dp - 1) + 1) (enN dp wz op)
def enC (dp wz : Nat) (bt op : Nat → Nat) : Int32 := if dp = 0 then -2 else if ¬ enK dp wz bt op = true then -4 else if 300 < wz + lenSz (enN dp wz op) then -3 else 0
/-- behind a value that was closed: what was below it, its length, its contents -/
def enB (dp wz : Nat) (bt op bt2 : Nat → Nat) : Prop := (∀ j, j < op (dp - 1) + 1 → bt2 j = bt j) ∧ (∀ i, i < lenSz (enN dp wz op) → bt2 (op (dp - 1) + 1 + i) = lnB (enN dp wz op) (lenSz (enN dp wz op)) i) ∧ (∀ j, op (dp - 1) + 1 ≤ j → j < wz → bt2 (j + lenSz (enN dp wz op)) = bt j)
end
section
abbrev pX2_clear (v0 : Nat) (v1 : Nat) (v2 : Nat) (bt : Nat → Nat) (wz : Nat) (op : Nat → Nat) (dp : Nat) : Nat × Nat → Prop := fun (u : Nat × Nat) => match u with | (wz2, dp2) => wz2 = 0 ∧ dp2 = 0
abbrev vX2_clear (cA : ClassId) (v0 : Nat) (v1 : Nat) (v2 : Nat) (bt : Nat → Nat) (wz : Nat) (op : Nat → Nat) (dp : Nat) : Nat × Nat → va_W := fun (u : Nat × Nat) => match u with | (wz2, dp2) => wW cA v0 v1 v2 bt wz2 op dp2
abbrev qX2_clear (dC : Nat → ClassId) (dI : Nat → Nat → Nat) (cA : ClassId) (A : Nat → Prop) (v0 : Nat) (v1 : Nat) (v2 : Nat) (bt : Nat → Nat) (wz : Nat) (op : Nat → Nat) (dp : Nat) : Array Value → State → Outcome → State → Prop := va_Qv (pX2_clear v0 v1 v2 bt wz op dp) (fun u => cAft dC dI cA A (vX2_clear cA v0 v1 v2 bt wz op dp u)) A
set_option maxHeartbeats 4000000 in
set_option maxRecDepth 100000 in
theorem k_X2_clear (l : Launch) (dC : Nat → ClassId) (dI : Nat → Nat → Nat) (cA : ClassId) (v0 : Nat) (v1 : Nat) (v2 : Nat) (bt : Nat → Nat) (wz : Nat) (op : Nat → Nat) (dp : Nat) (sz : Nat)  : Met l yX2_clear wsX2_clear ({ frames := 0, cells := 0, slots := 0, locals := 0 } : Room) (va_Pc [.ref v0] (cPre dC dI cA (wW cA v0 v1 v2 bt wz op dp) sz)) (qX2_clear dC dI cA (va_A (wW cA v0 v1 v2 bt wz op dp) sz) v0 v1 v2 bt wz op dp) 0 0 (va_A (wW cA v0 v1 v2 bt wz op dp) sz) := by
  refine Met.ofW (cc := cX2_clear) (maxL := 1) (ret := none) (by decide) rfl ?_
  intro p e s m args below meth c s₁ B hml hv
  obtain ⟨rfl, hsz, hP, hK, hD0⟩ := hv
  have hx := B.exec
  have hb := B.bytes
  have hr := B.returns
  have hts := atoms_spec (ws := wsX2_clear) B.pre
  have hown : s.vm.findClass RX2 = some m.cls := findClass_of_methodNamed B.named
  have hlocks := B.notSynchronized
  subst hsz
  have hD := hD0.self (sz := s.heap.size)
  generalize hAe : va_A (wW cA v0 v1 v2 bt wz op dp) s.heap.size = A at hD ⊢
  have hA : ∀ q : Nat, s.heap.size ≤ q → A q := fun q h => by rw [← hAe]; exact Or.inr h
  have hS : va_S A s.heap s.heap [] := va_S.rf
  have hl := lv_entry ([.ref v0]) (n := 1) (Nat.le_of_ble_eq_true rfl)
  rw [lg_entry_eq]
  generalize (lg_sl ([.ref v0]) ++ List.replicate (1 - (lg_sl ([.ref v0])).length) Slot.unset).toArray = ls at hl ⊢
  have hl : lv_has ls 1 [(0, .ref v0)] := hl
  have hinX2 : ∀ w ∈ wsX20, w ∈ wsX2_clear := fun _ h => List.mem_cons_of_mem _ (List.mem_append_right _ h)
  have hf_15 := hts (.fieldLink RX2 15 "DerDesk$Writer" "size" "I") (by decide +kernel)
  have hf_22 := hts (.fieldLink RX2 22 "DerDesk$Writer" "depth" "I") (by decide +kernel)
  have hP : va_P (dC, dI) vwCl (wW cA v0 v1 v2 bt wz op dp) s.heap := hP
  refine lv_aload_n hx hb dX2_clear_0 rfl (lv_at hl 0 rfl) ?_
  refine lv_iconst (v := nI 0) hx hb dX2_clear_1 (by decide) ?_
  refine va_put (D := (dC, dI)) (ci := 1) (v := .int (nI 0)) (ty := .int) (C := RX2) (T := TX2) (N := 4) hx hb hts hinX2 tyX2 tyX2_ok nmX2 hown hK hP hD hS 0 rfl rfl 1 (by decide) hf_15 (fun _ h9 => h9) rfl (by decide +kernel) rfl rfl (Nat.le_of_ble_eq_true rfl) dX2_clear_2 (fun H locs hP hD hS => ?_)
  have hP : va_P (dC, dI) vwCl (wW cA v0 v1 v2 bt 0 op dp) H := hP
  have hD : va_D A (wW cA v0 v1 v2 bt 0 op dp) := hD
  refine lv_aload_n hx hb dX2_clear_5 rfl (lv_at hl 0 rfl) ?_
  refine lv_iconst (v := nI 0) hx hb dX2_clear_6 (by decide) ?_
  refine va_put (D := (dC, dI)) (ci := 1) (v := .int (nI 0)) (ty := .int) (C := RX2) (T := TX2) (N := 4) hx hb hts hinX2 tyX2 tyX2_ok nmX2 hown hK hP hD hS 0 rfl rfl 3 (by decide) hf_22 (fun _ h9 => h9) rfl (by decide +kernel) rfl rfl (Nat.le_of_ble_eq_true rfl) dX2_clear_7 (fun H locs hP hD hS => ?_)
  have hP : va_P (dC, dI) vwCl (wW cA v0 v1 v2 bt 0 op 0) H := hP
  have hD : va_D A (wW cA v0 v1 v2 bt 0 op 0) := hD
  have hP9 : va_P (dC, dI) vwCl (vX2_clear cA v0 v1 v2 bt wz op dp (0, 0)) _ := hP
  have hD9 : va_D A (vX2_clear cA v0 v1 v2 bt wz op dp (0, 0)) := hD
  have hq9 : pX2_clear v0 v1 v2 bt wz op dp (0, 0) := ⟨rfl, rfl⟩
  exact W.vret hx hb hr (fun t ht hW => ⟨⟨(0, 0), rfl, hq9, by rw [ht]; exact hP9, va_K.moved hW.alike hK, hD9⟩, hS.F ht⟩) hS.2.2 dX2_clear_10
abbrev pX2_hasRoom (v0 : Nat) (v1 : Nat) (v2 : Nat) (bt : Nat → Nat) (wz : Nat) (op : Nat → Nat) (dp : Nat) (cnt : Nat) : Int32 → Unit → Prop := fun (r : Int32) (u : Unit) => r = if wz + cnt ≤ 300 then 1 else 0
abbrev vX2_hasRoom (cA : ClassId) (v0 : Nat) (v1 : Nat) (v2 : Nat) (bt : Nat → Nat) (wz : Nat) (op : Nat → Nat) (dp : Nat) (cnt : Nat) : Unit → va_W := fun (u : Unit) => wW cA v0 v1 v2 bt wz op dp
abbrev qX2_hasRoom (dC : Nat → ClassId) (dI : Nat → Nat → Nat) (cA : ClassId) (A : Nat → Prop) (v0 : Nat) (v1 : Nat) (v2 : Nat) (bt : Nat → Nat) (wz : Nat) (op : Nat → Nat) (dp : Nat) (cnt : Nat) : Array Value → State → Outcome → State → Prop := va_Qi (pX2_hasRoom v0 v1 v2 bt wz op dp cnt) (fun u => cAft dC dI cA A (vX2_hasRoom cA v0 v1 v2 bt wz op dp cnt u)) A
set_option maxHeartbeats 4000000 in
set_option maxRecDepth 100000 in
theorem k_X2_hasRoom (l : Launch) (dC : Nat → ClassId) (dI : Nat → Nat → Nat) (cA : ClassId) (v0 : Nat) (v1 : Nat) (v2 : Nat) (bt : Nat → Nat) (wz : Nat) (op : Nat → Nat) (dp : Nat) (cnt : Nat) (sz : Nat) (hwz : wz ≤ 300) (hcn : cnt ≤ 300) : Met l yX2_hasRoom wsX2_hasRoom ({ frames := 0, cells := 0, slots := 0, locals := 0 } : Room) (va_Pc [.ref v0, .int (nI cnt)] (cPre dC dI cA (wW cA v0 v1 v2 bt wz op dp) sz)) (qX2_hasRoom dC dI cA (va_A (wW cA v0 v1 v2 bt wz op dp) sz) v0 v1 v2 bt wz op dp cnt) 0 0 (va_A (wW cA v0 v1 v2 bt wz op dp) sz) := by
  refine Met.ofW (cc := cX2_hasRoom) (maxL := 2) (ret := (some .boolean)) (by decide) rfl ?_
  intro p e s m args below meth c s₁ B hml hv
  obtain ⟨rfl, hsz, hP, hK, hD0⟩ := hv
  have hx := B.exec
  have hb := B.bytes
  have hr := B.returns
  have hts := atoms_spec (ws := wsX2_hasRoom) B.pre
  have hown : s.vm.findClass RX2 = some m.cls := findClass_of_methodNamed B.named
  have hlocks := B.notSynchronized
  subst hsz
  have hD := hD0.self (sz := s.heap.size)
  generalize hAe : va_A (wW cA v0 v1 v2 bt wz op dp) s.heap.size = A at hD ⊢
  have hA : ∀ q : Nat, s.heap.size ≤ q → A q := fun q h => by rw [← hAe]; exact Or.inr h
  have hS : va_S A s.heap s.heap [] := va_S.rf
  have hl := lv_entry ([.ref v0, .int (nI cnt)]) (n := 2) (Nat.le_of_ble_eq_true rfl)
  rw [lg_entry_eq]
  generalize (lg_sl ([.ref v0, .int (nI cnt)]) ++ List.replicate (2 - (lg_sl ([.ref v0, .int (nI cnt)])).length) Slot.unset).toArray = ls at hl ⊢
  have hl : lv_has ls 2 [(0, .ref v0), (1, .int (nI cnt))] := hl
  have hinX2 : ∀ w ∈ wsX20, w ∈ wsX2_hasRoom := fun _ h => List.mem_cons_of_mem _ (List.mem_append_right _ h)
  have hf_15 := hts (.fieldLink RX2 15 "DerDesk$Writer" "size" "I") (by decide +kernel)
  have hP : va_P (dC, dI) vwCl (wW cA v0 v1 v2 bt wz op dp) s.heap := hP
  refine lv_aload_n hx hb dX2_hasRoom_0 rfl (lv_at hl 0 rfl) ?_
  refine va_get (D := (dC, dI)) (ci := 1) (v := .int (nI wz)) (C := RX2) (T := TX2) (N := 4) hx hb hts hinX2 hown hK hP 0 rfl rfl 1 (by decide) hf_15 (fun _ h9 => h9) rfl dX2_hasRoom_1 ?_
  refine lv_iload_n hx hb dX2_hasRoom_4 rfl (lv_at hl 1 rfl) ?_
  refine hl_iadd hx hb dX2_hasRoom_5 ?_
  refine lv_sipush (v := nI 300) hx hb dX2_hasRoom_6 (by decide) ?_
  refine hl_icmp_gt (tgt := 16) hx hb dX2_hasRoom_9 (by decide) (by omega) (by omega) (fun c_1 => ?_) (fun c_1 => ?_)
  · refine lv_iconst (v := nI 0) hx hb dX2_hasRoom_16 (by decide) ?_
    have hP9 : va_P (dC, dI) vwCl (vX2_hasRoom cA v0 v1 v2 bt wz op dp cnt ()) _ := hP
    have hD9 : va_D A (vX2_hasRoom cA v0 v1 v2 bt wz op dp cnt ()) := hD
    have hq9 : pX2_hasRoom v0 v1 v2 bt wz op dp cnt (nI 0) () := (if_neg (by omega)).symm
    exact W.zret (v := nI 0) hx hb hr rfl (fun t ht hW => ⟨⟨nI 0, (), rfl, hq9, by rw [ht]; exact hP9, va_K.moved hW.alike hK, hD9⟩, hS.F ht⟩) hS.2.2 dX2_hasRoom_17
  · refine lv_iconst (v := nI 1) hx hb dX2_hasRoom_12 (by decide) ?_
    refine lv_goto (tgt := 17) hx hb dX2_hasRoom_13 (by decide) ?_
    have hP9 : va_P (dC, dI) vwCl (vX2_hasRoom cA v0 v1 v2 bt wz op dp cnt ()) _ := hP
    have hD9 : va_D A (vX2_hasRoom cA v0 v1 v2 bt wz op dp cnt ()) := hD
    have hq9 : pX2_hasRoom v0 v1 v2 bt wz op dp cnt (nI 1) () := (if_pos (by omega)).symm
    exact W.zret (v := nI 1) hx hb hr rfl (fun t ht hW => ⟨⟨nI 1, (), rfl, hq9, by rw [ht]; exact hP9, va_K.moved hW.alike hK, hD9⟩, hS.F ht⟩) hS.2.2 dX2_hasRoom_17
abbrev pX2_append (v0 : Nat) (v1 : Nat) (v2 : Nat) (bt : Nat → Nat) (wz : Nat) (op : Nat → Nat) (dp : Nat) (x : Nat) : (Nat → Nat) × Nat → Prop := fun (u : (Nat → Nat) × Nat) => match u with | (bt2, wz2) => bt2 = va_up bt wz x ∧ wz2 = wz + 1
abbrev vX2_append (cA : ClassId) (v0 : Nat) (v1 : Nat) (v2 : Nat) (bt : Nat → Nat) (wz : Nat) (op : Nat → Nat) (dp : Nat) (x : Nat) : (Nat → Nat) × Nat → va_W := fun (u : (Nat → Nat) × Nat) => match u with | (bt2, wz2) => wW cA v0 v1 v2 bt2 wz2 op dp
abbrev qX2_append (dC : Nat → ClassId) (dI : Nat → Nat → Nat) (cA : ClassId) (A : Nat → Prop) (v0 : Nat) (v1 : Nat) (v2 : Nat) (bt : Nat → Nat) (wz : Nat) (op : Nat → Nat) (dp : Nat) (x : Nat) : Array Value → State → Outcome → State → Prop := va_Qv (pX2_append v0 v1 v2 bt wz op dp x) (fun u => cAft dC dI cA A (vX2_append cA v0 v1 v2 bt wz op dp x u)) A
set_option maxHeartbeats 4000000 in
set_option maxRecDepth 100000 in
theorem k_X2_append (l : Launch) (dC : Nat → ClassId) (dI : Nat → Nat → Nat) (cA : ClassId) (v0 : Nat) (v1 : Nat) (v2 : Nat) (bt : Nat → Nat) (wz : Nat) (op : Nat → Nat) (dp : Nat) (x : Nat) (sz : Nat) (hw3 : wz < 300) : Met l yX2_append wsX2_append ({ frames := 0, cells := 0, slots := 0, locals := 0 } : Room) (va_Pc [.ref v0, .int (nI x)] (cPre dC dI cA (wW cA v0 v1 v2 bt wz op dp) sz)) (qX2_append dC dI cA (va_A (wW cA v0 v1 v2 bt wz op dp) sz) v0 v1 v2 bt wz op dp x) 0 0 (va_A (wW cA v0 v1 v2 bt wz op dp) sz) := by
  refine Met.ofW (cc := cX2_append) (maxL := 2) (ret := none) (by decide) rfl ?_
  intro p e s m args below meth c s₁ B hml hv
  obtain ⟨rfl, hsz, hP, hK, hD0⟩ := hv
  have hx := B.exec
  have hb := B.bytes
  have hr := B.returns
  have hts := atoms_spec (ws := wsX2_append) B.pre
  have hown : s.vm.findClass RX2 = some m.cls := findClass_of_methodNamed B.named
  have hlocks := B.notSynchronized
  subst hsz
  have hD := hD0.self (sz := s.heap.size)
  generalize hAe : va_A (wW cA v0 v1 v2 bt wz op dp) s.heap.size = A at hD ⊢
  have hA : ∀ q : Nat, s.heap.size ≤ q → A q := fun q h => by rw [← hAe]; exact Or.inr h
  have hS : va_S A s.heap s.heap [] := va_S.rf
  have hl := lv_entry ([.ref v0, .int (nI x)]) (n := 2) (Nat.le_of_ble_eq_true rfl)
  rw [lg_entry_eq]
  generalize (lg_sl ([.ref v0, .int (nI x)]) ++ List.replicate (2 - (lg_sl ([.ref v0, .int (nI x)])).length) Slot.unset).toArray = ls at hl ⊢
  have hl : lv_has ls 2 [(0, .ref v0), (1, .int (nI x))] := hl
  have hinX2 : ∀ w ∈ wsX20, w ∈ wsX2_append := fun _ h => List.mem_cons_of_mem _ (List.mem_append_right _ h)
  have hf_9 := hts (.fieldLink RX2 9 "DerDesk$Writer" "bytes" "[I") (by decide +kernel)
  have hf_15 := hts (.fieldLink RX2 15 "DerDesk$Writer" "size" "I") (by decide +kernel)
  have hP : va_P (dC, dI) vwCl (wW cA v0 v1 v2 bt wz op dp) s.heap := hP
  refine lv_aload_n hx hb dX2_append_0 rfl (lv_at hl 0 rfl) ?_
  refine va_get (D := (dC, dI)) (ci := 1) (v := .int (nI wz)) (C := RX2) (T := TX2) (N := 4) hx hb hts hinX2 hown hK hP 0 rfl rfl 1 (by decide) hf_15 (fun _ h9 => h9) rfl dX2_append_1 ?_
  refine lv_sipush (v := nI 300) hx hb dX2_append_4 (by decide) ?_
  refine hl_icmp_ge (tgt := 30) hx hb dX2_append_7 (by decide) (by omega) (by omega) (fun c_1 => absurd c_1 (by omega)) (fun c_1 => ?_)
  refine lv_aload_n hx hb dX2_append_10 rfl (lv_at hl 0 rfl) ?_
  refine va_get (D := (dC, dI)) (ci := 1) (v := .ref v1) (C := RX2) (T := TX2) (N := 4) hx hb hts hinX2 hown hK hP 0 rfl rfl 0 (by decide) hf_9 (fun _ h9 => h9) rfl dX2_append_11 ?_
  refine lv_aload_n hx hb dX2_append_14 rfl (lv_at hl 0 rfl) ?_
  refine va_get (D := (dC, dI)) (ci := 1) (v := .int (nI wz)) (C := RX2) (T := TX2) (N := 4) hx hb hts hinX2 hown hK hP 0 rfl rfl 1 (by decide) hf_15 (fun _ h9 => h9) rfl dX2_append_15 ?_
  refine lv_iload_n hx hb dX2_append_18 rfl (lv_at hl 1 rfl) ?_
  refine hl_iast hx hb hK hP hD hS 1 0 rfl rfl (by omega) (by decide) dX2_append_19 (fun H locs hP hD hS => ?_)
  have hP : va_P (dC, dI) vwCl (wW cA v0 v1 v2 (va_up bt wz x) wz op dp) H := hP
  have hD : va_D A (wW cA v0 v1 v2 (va_up bt wz x) wz op dp) := hD
  refine lv_aload_n hx hb dX2_append_20 rfl (lv_at hl 0 rfl) ?_
  refine lv_dup hx hb dX2_append_21 rfl ?_
  refine va_get (D := (dC, dI)) (ci := 1) (v := .int (nI wz)) (C := RX2) (T := TX2) (N := 4) hx hb hts hinX2 hown hK hP 0 rfl rfl 1 (by decide) hf_15 (fun _ h9 => h9) rfl dX2_append_22 ?_
  refine lv_iconst (v := nI 1) hx hb dX2_append_25 (by decide) ?_
  refine hl_iadd hx hb dX2_append_26 ?_
  refine va_put (D := (dC, dI)) (ci := 1) (v := .int (nI (wz + 1))) (ty := .int) (C := RX2) (T := TX2) (N := 4) hx hb hts hinX2 tyX2 tyX2_ok nmX2 hown hK hP hD hS 0 rfl rfl 1 (by decide) hf_15 (fun _ h9 => h9) rfl (by decide +kernel) rfl rfl (Nat.le_of_ble_eq_true rfl) dX2_append_27 (fun H locs hP hD hS => ?_)
  have hP : va_P (dC, dI) vwCl (wW cA v0 v1 v2 (va_up bt wz x) (wz + 1) op dp) H := hP
  have hD : va_D A (wW cA v0 v1 v2 (va_up bt wz x) (wz + 1) op dp) := hD
  have hP9 : va_P (dC, dI) vwCl (vX2_append cA v0 v1 v2 bt wz op dp x (va_up bt wz x, wz + 1)) _ := hP
  have hD9 : va_D A (vX2_append cA v0 v1 v2 bt wz op dp x (va_up bt wz x, wz + 1)) := hD
  have hq9 : pX2_append v0 v1 v2 bt wz op dp x (va_up bt wz x, wz + 1) := ⟨rfl, rfl⟩
  exact W.vret hx hb hr (fun t ht hW => ⟨⟨(va_up bt wz x, wz + 1), rfl, hq9, by rw [ht]; exact hP9, va_K.moved hW.alike hK, hD9⟩, hS.F ht⟩) hS.2.2 dX2_append_30
abbrev pX2_openTag (v0 : Nat) (v1 : Nat) (v2 : Nat) (bt : Nat → Nat) (wz : Nat) (op : Nat → Nat) (dp : Nat) : Int32 → Unit → Prop := fun (r : Int32) (u : Unit) => (dp = 0 ∧ r = -1) ∨ (0 < dp ∧ r = nI (bt (op (dp - 1))))
abbrev vX2_openTag (cA : ClassId) (v0 : Nat) (v1 : Nat) (v2 : Nat) (bt : Nat → Nat) (wz : Nat) (op : Nat → Nat) (dp : Nat) : Unit → va_W := fun (u : Unit) => wW cA v0 v1 v2 bt wz op dp
abbrev qX2_openTag (dC : Nat → ClassId) (dI : Nat → Nat → Nat) (cA : ClassId) (A : Nat → Prop) (v0 : Nat) (v1 : Nat) (v2 : Nat) (bt : Nat → Nat) (wz : Nat) (op : Nat → Nat) (dp : Nat) : Array Value → State → Outcome → State → Prop := va_Qi (pX2_openTag v0 v1 v2 bt wz op dp) (fun u => cAft dC dI cA A (vX2_openTag cA v0 v1 v2 bt wz op dp u)) A
set_option maxHeartbeats 4000000 in
set_option maxRecDepth 100000 in
theorem k_X2_openTag (l : Launch) (dC : Nat → ClassId) (dI : Nat → Nat → Nat) (cA : ClassId) (v0 : Nat) (v1 : Nat) (v2 : Nat) (bt : Nat → Nat) (wz : Nat) (op : Nat → Nat) (dp : Nat) (sz : Nat) (hbt : ∀ j, bt j < 256) (hwz : wz ≤ 300) (hdp : dp ≤ 16) (hop : ∀ j, j < dp → op j < wz) : Met l yX2_openTag wsX2_openTag ({ frames := 0, cells := 0, slots := 0, locals := 0 } : Room) (va_Pc [.ref v0] (cPre dC dI cA (wW cA v0 v1 v2 bt wz op dp) sz)) (qX2_openTag dC dI cA (va_A (wW cA v0 v1 v2 bt wz op dp) sz) v0 v1 v2 bt wz op dp) 0 0 (va_A (wW cA v0 v1 v2 bt wz op dp) sz) := by
  refine Met.ofW (cc := cX2_openTag) (maxL := 1) (ret := (some .int)) (by decide) rfl ?_
  intro p e s m args below meth c s₁ B hml hv
  obtain ⟨rfl, hsz, hP, hK, hD0⟩ := hv
  have hx := B.exec
  have hb := B.bytes
  have hr := B.returns
  have hts := atoms_spec (ws := wsX2_openTag) B.pre
  have hown : s.vm.findClass RX2 = some m.cls := findClass_of_methodNamed B.named
  have hlocks := B.notSynchronized
  subst hsz
  have hD := hD0.self (sz := s.heap.size)
  generalize hAe : va_A (wW cA v0 v1 v2 bt wz op dp) s.heap.size = A at hD ⊢
  have hA : ∀ q : Nat, s.heap.size ≤ q → A q := fun q h => by rw [← hAe]; exact Or.inr h
  have hS : va_S A s.heap s.heap [] := va_S.rf
  have hl := lv_entry ([.ref v0]) (n := 1) (Nat.le_of_ble_eq_true rfl)
  rw [lg_entry_eq]
  generalize (lg_sl ([.ref v0]) ++ List.replicate (1 - (lg_sl ([.ref v0])).length) Slot.unset).toArray = ls at hl ⊢
  have hl : lv_has ls 1 [(0, .ref v0)] := hl
  have hinX2 : ∀ w ∈ wsX20, w ∈ wsX2_openTag := fun _ h => List.mem_cons_of_mem _ (List.mem_append_right _ h)
  have hf_9 := hts (.fieldLink RX2 9 "DerDesk$Writer" "bytes" "[I") (by decide +kernel)
  have hf_19 := hts (.fieldLink RX2 19 "DerDesk$Writer" "opened" "[I") (by decide +kernel)
  have hf_22 := hts (.fieldLink RX2 22 "DerDesk$Writer" "depth" "I") (by decide +kernel)
  have hP : va_P (dC, dI) vwCl (wW cA v0 v1 v2 bt wz op dp) s.heap := hP
  refine lv_aload_n hx hb dX2_openTag_0 rfl (lv_at hl 0 rfl) ?_
  refine va_get (D := (dC, dI)) (ci := 1) (v := .int (nI dp)) (C := RX2) (T := TX2) (N := 4) hx hb hts hinX2 hown hK hP 0 rfl rfl 3 (by decide) hf_22 (fun _ h9 => h9) rfl dX2_openTag_1 ?_
  refine hl_if_ne (tgt := 11) hx hb dX2_openTag_4 (by decide) (by omega) (fun c_1 => ?_) (fun c_1 => ?_)
  · refine lv_aload_n hx hb dX2_openTag_11 rfl (lv_at hl 0 rfl) ?_
    refine va_get (D := (dC, dI)) (ci := 1) (v := .ref v1) (C := RX2) (T := TX2) (N := 4) hx hb hts hinX2 hown hK hP 0 rfl rfl 0 (by decide) hf_9 (fun _ h9 => h9) rfl dX2_openTag_12 ?_
    refine lv_aload_n hx hb dX2_openTag_15 rfl (lv_at hl 0 rfl) ?_
    refine va_get (D := (dC, dI)) (ci := 1) (v := .ref v2) (C := RX2) (T := TX2) (N := 4) hx hb hts hinX2 hown hK hP 0 rfl rfl 2 (by decide) hf_19 (fun _ h9 => h9) rfl dX2_openTag_16 ?_
    refine lv_aload_n hx hb dX2_openTag_19 rfl (lv_at hl 0 rfl) ?_
    refine va_get (D := (dC, dI)) (ci := 1) (v := .int (nI dp)) (C := RX2) (T := TX2) (N := 4) hx hb hts hinX2 hown hK hP 0 rfl rfl 3 (by decide) hf_22 (fun _ h9 => h9) rfl dX2_openTag_20 ?_
    refine lv_iconst (v := nI 1) hx hb dX2_openTag_23 (by decide) ?_
    refine hl_isub hx hb (by omega) dX2_openTag_24 ?_
    refine hl_iald hx hb hK hP 2 0 rfl rfl (by omega) (by decide) dX2_openTag_25 ?_
    refine hl_iald hx hb hK hP 1 0 rfl rfl (by have := hop (dp - 1) (by omega); omega) (by decide) dX2_openTag_26 ?_
    have hP9 : va_P (dC, dI) vwCl (vX2_openTag cA v0 v1 v2 bt wz op dp ()) _ := hP
    have hD9 : va_D A (vX2_openTag cA v0 v1 v2 bt wz op dp ()) := hD
    have hq9 : pX2_openTag v0 v1 v2 bt wz op dp (nI (bt (op (dp - 1)))) () := Or.inr ⟨by omega, rfl⟩
    exact W.iret (v := nI (bt (op (dp - 1)))) hx hb hr (fun t ht hW => ⟨⟨nI (bt (op (dp - 1))), (), rfl, hq9, by rw [ht]; exact hP9, va_K.moved hW.alike hK, hD9⟩, hS.F ht⟩) hS.2.2 dX2_openTag_27
  · refine lv_iconst (v := (-1)) hx hb dX2_openTag_7 (by decide) ?_
    refine lv_goto (tgt := 27) hx hb dX2_openTag_8 (by decide) ?_
    have hP9 : va_P (dC, dI) vwCl (vX2_openTag cA v0 v1 v2 bt wz op dp ()) _ := hP
    have hD9 : va_D A (vX2_openTag cA v0 v1 v2 bt wz op dp ()) := hD
    have hq9 : pX2_openTag v0 v1 v2 bt wz op dp ((-1)) () := Or.inl ⟨by assumption, rfl⟩
    exact W.iret (v := (-1)) hx hb hr (fun t ht hW => ⟨⟨(-1), (), rfl, hq9, by rw [ht]; exact hP9, va_K.moved hW.alike hK, hD9⟩, hS.F ht⟩) hS.2.2 dX2_openTag_27
abbrev pX2_openLength (v0 : Nat) (v1 : Nat) (v2 : Nat) (bt : Nat → Nat) (wz : Nat) (op : Nat → Nat) (dp : Nat) : Int32 → Unit → Prop := fun (r : Int32) (u : Unit) => r = nI (if dp = 0 then 0 else wz - op (dp - 1) - 1)
abbrev vX2_openLength (cA : ClassId) (v0 : Nat) (v1 : Nat) (v2 : Nat) (bt : Nat → Nat) (wz : Nat) (op : Nat → Nat) (dp : Nat) : Unit → va_W := fun (u : Unit) => wW cA v0 v1 v2 bt wz op dp
abbrev qX2_openLength (dC : Nat → ClassId) (dI : Nat → Nat → Nat) (cA : ClassId) (A : Nat → Prop) (v0 : Nat) (v1 : Nat) (v2 : Nat) (bt : Nat → Nat) (wz : Nat) (op : Nat → Nat) (dp : Nat) : Array Value → State → Outcome → State → Prop := va_Qi (pX2_openLength v0 v1 v2 bt wz op dp) (fun u => cAft dC dI cA A (vX2_openLength cA v0 v1 v2 bt wz op dp u)) A
set_option maxHeartbeats 4000000 in
set_option maxRecDepth 100000 in
theorem k_X2_openLength (l : Launch) (dC : Nat → ClassId) (dI : Nat → Nat → Nat) (cA : ClassId) (v0 : Nat) (v1 : Nat) (v2 : Nat) (bt : Nat → Nat) (wz : Nat) (op : Nat → Nat) (dp : Nat) (sz : Nat) (hwz : wz ≤ 300) (hdp : dp ≤ 16) (hop : ∀ j, j < dp → op j < wz) : Met l yX2_openLength wsX2_openLength ({ frames := 0, cells := 0, slots := 0, locals := 0 } : Room) (va_Pc [.ref v0] (cPre dC dI cA (wW cA v0 v1 v2 bt wz op dp) sz)) (qX2_openLength dC dI cA (va_A (wW cA v0 v1 v2 bt wz op dp) sz) v0 v1 v2 bt wz op dp) 0 0 (va_A (wW cA v0 v1 v2 bt wz op dp) sz) := by
  refine Met.ofW (cc := cX2_openLength) (maxL := 1) (ret := (some .int)) (by decide) rfl ?_
  intro p e s m args below meth c s₁ B hml hv
  obtain ⟨rfl, hsz, hP, hK, hD0⟩ := hv
  have hx := B.exec
  have hb := B.bytes
  have hr := B.returns
  have hts := atoms_spec (ws := wsX2_openLength) B.pre
  have hown : s.vm.findClass RX2 = some m.cls := findClass_of_methodNamed B.named
  have hlocks := B.notSynchronized
  subst hsz
  have hD := hD0.self (sz := s.heap.size)
  generalize hAe : va_A (wW cA v0 v1 v2 bt wz op dp) s.heap.size = A at hD ⊢
  have hA : ∀ q : Nat, s.heap.size ≤ q → A q := fun q h => by rw [← hAe]; exact Or.inr h
  have hS : va_S A s.heap s.heap [] := va_S.rf
  have hl := lv_entry ([.ref v0]) (n := 1) (Nat.le_of_ble_eq_true rfl)
  rw [lg_entry_eq]
  generalize (lg_sl ([.ref v0]) ++ List.replicate (1 - (lg_sl ([.ref v0])).length) Slot.unset).toArray = ls at hl ⊢
  have hl : lv_has ls 1 [(0, .ref v0)] := hl
  have hinX2 : ∀ w ∈ wsX20, w ∈ wsX2_openLength := fun _ h => List.mem_cons_of_mem _ (List.mem_append_right _ h)
  have hf_15 := hts (.fieldLink RX2 15 "DerDesk$Writer" "size" "I") (by decide +kernel)
  have hf_19 := hts (.fieldLink RX2 19 "DerDesk$Writer" "opened" "[I") (by decide +kernel)
  have hf_22 := hts (.fieldLink RX2 22 "DerDesk$Writer" "depth" "I") (by decide +kernel)
  have hP : va_P (dC, dI) vwCl (wW cA v0 v1 v2 bt wz op dp) s.heap := hP
  refine lv_aload_n hx hb dX2_openLength_0 rfl (lv_at hl 0 rfl) ?_
  refine va_get (D := (dC, dI)) (ci := 1) (v := .int (nI dp)) (C := RX2) (T := TX2) (N := 4) hx hb hts hinX2 hown hK hP 0 rfl rfl 3 (by decide) hf_22 (fun _ h9 => h9) rfl dX2_openLength_1 ?_
  refine hl_if_ne (tgt := 11) hx hb dX2_openLength_4 (by decide) (by omega) (fun c_1 => ?_) (fun c_1 => ?_)
  · refine lv_aload_n hx hb dX2_openLength_11 rfl (lv_at hl 0 rfl) ?_
    refine va_get (D := (dC, dI)) (ci := 1) (v := .int (nI wz)) (C := RX2) (T := TX2) (N := 4) hx hb hts hinX2 hown hK hP 0 rfl rfl 1 (by decide) hf_15 (fun _ h9 => h9) rfl dX2_openLength_12 ?_
    refine lv_aload_n hx hb dX2_openLength_15 rfl (lv_at hl 0 rfl) ?_
    refine va_get (D := (dC, dI)) (ci := 1) (v := .ref v2) (C := RX2) (T := TX2) (N := 4) hx hb hts hinX2 hown hK hP 0 rfl rfl 2 (by decide) hf_19 (fun _ h9 => h9) rfl dX2_openLength_16 ?_
    refine lv_aload_n hx hb dX2_openLength_19 rfl (lv_at hl 0 rfl) ?_
    refine va_get (D := (dC, dI)) (ci := 1) (v := .int (nI dp)) (C := RX2) (T := TX2) (N := 4) hx hb hts hinX2 hown hK hP 0 rfl rfl 3 (by decide) hf_22 (fun _ h9 => h9) rfl dX2_openLength_20 ?_
    refine lv_iconst (v := nI 1) hx hb dX2_openLength_23 (by decide) ?_
    refine hl_isub hx hb (by omega) dX2_openLength_24 ?_
    refine hl_iald hx hb hK hP 2 0 rfl rfl (by omega) (by decide) dX2_openLength_25 ?_
    have ho := hop (dp - 1) (by omega)
    refine hl_isub hx hb (by omega) dX2_openLength_26 ?_
    refine lv_iconst (v := nI 1) hx hb dX2_openLength_27 (by decide) ?_
    refine hl_isub hx hb (by omega) dX2_openLength_28 ?_
    have hP9 : va_P (dC, dI) vwCl (vX2_openLength cA v0 v1 v2 bt wz op dp ()) _ := hP
    have hD9 : va_D A (vX2_openLength cA v0 v1 v2 bt wz op dp ()) := hD
    have hq9 : pX2_openLength v0 v1 v2 bt wz op dp (nI ((wz - (op (dp - 1))) - 1)) () := congrArg nI (by first | rw [if_pos (by assumption)] | rw [if_neg (by assumption)])
    exact W.iret (v := nI ((wz - (op (dp - 1))) - 1)) hx hb hr (fun t ht hW => ⟨⟨nI ((wz - (op (dp - 1))) - 1), (), rfl, hq9, by rw [ht]; exact hP9, va_K.moved hW.alike hK, hD9⟩, hS.F ht⟩) hS.2.2 dX2_openLength_29
  · refine lv_iconst (v := nI 0) hx hb dX2_openLength_7 (by decide) ?_
    refine lv_goto (tgt := 29) hx hb dX2_openLength_8 (by decide) ?_
    have hP9 : va_P (dC, dI) vwCl (vX2_openLength cA v0 v1 v2 bt wz op dp ()) _ := hP
    have hD9 : va_D A (vX2_openLength cA v0 v1 v2 bt wz op dp ()) := hD
    have hq9 : pX2_openLength v0 v1 v2 bt wz op dp (nI 0) () := congrArg nI (by first | rw [if_pos (by assumption)] | rw [if_neg (by assumption)])
    exact W.iret (v := nI 0) hx hb hr (fun t ht hW => ⟨⟨nI 0, (), rfl, hq9, by rw [ht]; exact hP9, va_K.moved hW.alike hK, hD9⟩, hS.F ht⟩) hS.2.2 dX2_openLength_29
abbrev pX2_canHoldValue (v0 : Nat) (v1 : Nat) (v2 : Nat) (bt : Nat → Nat) (wz : Nat) (op : Nat → Nat) (dp : Nat) : Int32 → Unit → Prop := fun (r : Int32) (u : Unit) => r = if canH dp wz bt op then 1 else 0
abbrev vX2_canHoldValue (cA : ClassId) (v0 : Nat) (v1 : Nat) (v2 : Nat) (bt : Nat → Nat) (wz : Nat) (op : Nat → Nat) (dp : Nat) : Unit → va_W := fun (u : Unit) => wW cA v0 v1 v2 bt wz op dp
abbrev qX2_canHoldValue (dC : Nat → ClassId) (dI : Nat → Nat → Nat) (cA : ClassId) (A : Nat → Prop) (v0 : Nat) (v1 : Nat) (v2 : Nat) (bt : Nat → Nat) (wz : Nat) (op : Nat → Nat) (dp : Nat) : Array Value → State → Outcome → State → Prop := va_Qi (pX2_canHoldValue v0 v1 v2 bt wz op dp) (fun u => cAft dC dI cA A (vX2_canHoldValue cA v0 v1 v2 bt wz op dp u)) A
set_option maxHeartbeats 4000000 in
set_option maxRecDepth 100000 in
theorem k_X2_canHoldValue (l : Launch) (dC : Nat → ClassId) (dI : Nat → Nat → Nat) (cA : ClassId) (v0 : Nat) (v1 : Nat) (v2 : Nat) (bt : Nat → Nat) (wz : Nat) (op : Nat → Nat) (dp : Nat) (sz : Nat) (hbt : ∀ j, bt j < 256) (hwz : wz ≤ 300) (hdp : dp ≤ 16) (hop : ∀ j, j < dp → op j < wz) : Met l yX2_canHoldValue wsX2_canHoldValue ({ frames := 1, cells := 0, slots := 0, locals := 20 } : Room) (va_Pc [.ref v0] (cPre dC dI cA (wW cA v0 v1 v2 bt wz op dp) sz)) (qX2_canHoldValue dC dI cA (va_A (wW cA v0 v1 v2 bt wz op dp) sz) v0 v1 v2 bt wz op dp) 0 0 (va_A (wW cA v0 v1 v2 bt wz op dp) sz) := by
  refine Met.ofW (cc := cX2_canHoldValue) (maxL := 1) (ret := (some .boolean)) (by decide) rfl ?_
  intro p e s m args below meth c s₁ B hml hv
  obtain ⟨rfl, hsz, hP, hK, hD0⟩ := hv
  have hx := B.exec
  have hb := B.bytes
  have hr := B.returns
  have hts := atoms_spec (ws := wsX2_canHoldValue) B.pre
  have hown : s.vm.findClass RX2 = some m.cls := findClass_of_methodNamed B.named
  have hlocks := B.notSynchronized
  subst hsz
  have hD := hD0.self (sz := s.heap.size)
  generalize hAe : va_A (wW cA v0 v1 v2 bt wz op dp) s.heap.size = A at hD ⊢
  have hA : ∀ q : Nat, s.heap.size ≤ q → A q := fun q h => by rw [← hAe]; exact Or.inr h
  have hS : va_S A s.heap s.heap [] := va_S.rf
  have hl := lv_entry ([.ref v0]) (n := 1) (Nat.le_of_ble_eq_true rfl)
  rw [lg_entry_eq]
  generalize (lg_sl ([.ref v0]) ++ List.replicate (1 - (lg_sl ([.ref v0])).length) Slot.unset).toArray = ls at hl ⊢
  have hl : lv_has ls 1 [(0, .ref v0)] := hl
  have hinX2 : ∀ w ∈ wsX20, w ∈ wsX2_canHoldValue := fun _ h => List.mem_cons_of_mem _ (List.mem_append_right _ h)
  have hf_15 := hts (.fieldLink RX2 15 "DerDesk$Writer" "size" "I") (by decide +kernel)
  have hf_22 := hts (.fieldLink RX2 22 "DerDesk$Writer" "depth" "I") (by decide +kernel)
  have hP : va_P (dC, dI) vwCl (wW cA v0 v1 v2 bt wz op dp) s.heap := hP
  refine lv_aload_n hx hb dX2_canHoldValue_0 rfl (lv_at hl 0 rfl) ?_
  refine va_get (D := (dC, dI)) (ci := 1) (v := .int (nI dp)) (C := RX2) (T := TX2) (N := 4) hx hb hts hinX2 hown hK hP 0 rfl rfl 3 (by decide) hf_22 (fun _ h9 => h9) rfl dX2_canHoldValue_1 ?_
  refine hl_if_ne (tgt := 22) hx hb dX2_canHoldValue_4 (by decide) (by omega) (fun c_1 => ?_) (fun c_1 => ?_)
  · refine lv_aload_n hx hb dX2_canHoldValue_22 rfl (lv_at hl 0 rfl) ?_
    refine cl_Vi (As := []) (rest := []) (wr := []) ⟨hx, hb, hml, hown, hts⟩ (k_X2_openTag l dC dI cA v0 v1 v2 bt wz op dp _ hbt hwz hdp hop) (cwV 0 hts gX2_canHoldValue_X2_openTag rfl rfl rfl (by decide +kernel) ⟨Nat.le_of_ble_eq_true rfl, Nat.le_of_ble_eq_true rfl⟩) hK hP hD hS hA [0, 1, 2] [] rfl rfl (by decide) (by decide) (by decide) (ci := 1) (q0 := 0) rfl rfl rfl rfl hl.1 rfl (Nat.le_of_ble_eq_true rfl) dX2_canHoldValue_23 ⟨Nat.le_of_ble_eq_true rfl, Nat.le_of_ble_eq_true rfl⟩ (fun r_2 u_2 H locs hw_2 hP hD hS => ?_)
    have hP : va_P (dC, dI) vwCl (wW cA v0 v1 v2 bt wz op dp) H := hP
    have hD : va_D A (wW cA v0 v1 v2 bt wz op dp) := hD
    have hw_2 : (dp = 0 ∧ r_2 = -1) ∨ (0 < dp ∧ r_2 = nI (bt (op (dp - 1)))) := hw_2
    have hw_2 := ((hw_2.resolve_left (fun h => absurd h.1 (by omega))).2).symm
    subst hw_2
    have hv_2 := hbt (op (dp - 1))
    refine lv_bipush (v := nI 48) hx hb dX2_canHoldValue_26 (by decide) ?_
    refine hl_icmp_ne (tgt := 35) hx hb dX2_canHoldValue_28 (by decide) (by omega) (by omega) (fun c_3 => ?_) (fun c_3 => ?_)
    · refine lv_iconst (v := nI 0) hx hb dX2_canHoldValue_35 (by decide) ?_
      have hP9 : va_P (dC, dI) vwCl (vX2_canHoldValue cA v0 v1 v2 bt wz op dp ()) _ := hP
      have hD9 : va_D A (vX2_canHoldValue cA v0 v1 v2 bt wz op dp ()) := hD
      have hq9 : pX2_canHoldValue v0 v1 v2 bt wz op dp (nI 0) () := (if_neg (by unfold canH; omega)).symm
      exact W.zret (v := nI 0) hx hb hr rfl (fun t ht hW => ⟨⟨nI 0, (), rfl, hq9, by rw [ht]; exact hP9, va_K.moved hW.alike hK, hD9⟩, hS.F ht⟩) hS.2.2 dX2_canHoldValue_36
    · refine lv_iconst (v := nI 1) hx hb dX2_canHoldValue_31 (by decide) ?_
      refine lv_goto (tgt := 36) hx hb dX2_canHoldValue_32 (by decide) ?_
      have hP9 : va_P (dC, dI) vwCl (vX2_canHoldValue cA v0 v1 v2 bt wz op dp ()) _ := hP
      have hD9 : va_D A (vX2_canHoldValue cA v0 v1 v2 bt wz op dp ()) := hD
      have hq9 : pX2_canHoldValue v0 v1 v2 bt wz op dp (nI 1) () := (if_pos (by unfold canH; omega)).symm
      exact W.zret (v := nI 1) hx hb hr rfl (fun t ht hW => ⟨⟨nI 1, (), rfl, hq9, by rw [ht]; exact hP9, va_K.moved hW.alike hK, hD9⟩, hS.F ht⟩) hS.2.2 dX2_canHoldValue_36
  · refine lv_aload_n hx hb dX2_canHoldValue_7 rfl (lv_at hl 0 rfl) ?_
    refine va_get (D := (dC, dI)) (ci := 1) (v := .int (nI wz)) (C := RX2) (T := TX2) (N := 4) hx hb hts hinX2 hown hK hP 0 rfl rfl 1 (by decide) hf_15 (fun _ h9 => h9) rfl dX2_canHoldValue_8 ?_
    refine hl_if_ne (tgt := 18) hx hb dX2_canHoldValue_11 (by decide) (by omega) (fun c_4 => ?_) (fun c_4 => ?_)
    · refine lv_iconst (v := nI 0) hx hb dX2_canHoldValue_18 (by decide) ?_
      refine lv_goto (tgt := 36) hx hb dX2_canHoldValue_19 (by decide) ?_
      have hP9 : va_P (dC, dI) vwCl (vX2_canHoldValue cA v0 v1 v2 bt wz op dp ()) _ := hP
      have hD9 : va_D A (vX2_canHoldValue cA v0 v1 v2 bt wz op dp ()) := hD
      have hq9 : pX2_canHoldValue v0 v1 v2 bt wz op dp (nI 0) () := (if_neg (by unfold canH; omega)).symm
      exact W.zret (v := nI 0) hx hb hr rfl (fun t ht hW => ⟨⟨nI 0, (), rfl, hq9, by rw [ht]; exact hP9, va_K.moved hW.alike hK, hD9⟩, hS.F ht⟩) hS.2.2 dX2_canHoldValue_36
    · refine lv_iconst (v := nI 1) hx hb dX2_canHoldValue_14 (by decide) ?_
      refine lv_goto (tgt := 36) hx hb dX2_canHoldValue_15 (by decide) ?_
      have hP9 : va_P (dC, dI) vwCl (vX2_canHoldValue cA v0 v1 v2 bt wz op dp ()) _ := hP
      have hD9 : va_D A (vX2_canHoldValue cA v0 v1 v2 bt wz op dp ()) := hD
      have hq9 : pX2_canHoldValue v0 v1 v2 bt wz op dp (nI 1) () := (if_pos (by unfold canH; omega)).symm
      exact W.zret (v := nI 1) hx hb hr rfl (fun t ht hW => ⟨⟨nI 1, (), rfl, hq9, by rw [ht]; exact hP9, va_K.moved hW.alike hK, hD9⟩, hS.F ht⟩) hS.2.2 dX2_canHoldValue_36
abbrev pX2_open (v0 : Nat) (v1 : Nat) (v2 : Nat) (bt : Nat → Nat) (wz : Nat) (op : Nat → Nat) (dp : Nat) (tag : Int32) : Int32 → (Nat → Nat) × Nat × (Nat → Nat) × Nat → Prop := fun (r : Int32) (u : (Nat → Nat) × Nat × (Nat → Nat) × Nat) => match u with | (bt2, wz2, op2, dp2) => r = begC tag dp wz bt op ∧ ((begC tag dp wz bt op = 0 ∧ isId tag ∧ canH dp wz bt op ∧ dp < 16 ∧ wz < 300 ∧ bt2 = va_up bt wz tag.toNatClampNeg ∧ wz2 = wz + 1 ∧ op2 = va_up op dp wz ∧ dp2 = dp + 1) ∨ (begC tag dp wz bt op ≠ 0 ∧ bt2 = bt ∧ wz2 = wz ∧ op2 = op ∧ dp2 = dp))
abbrev vX2_open (cA : ClassId) (v0 : Nat) (v1 : Nat) (v2 : Nat) (bt : Nat → Nat) (wz : Nat) (op : Nat → Nat) (dp : Nat) (tag : Int32) : (Nat → Nat) × Nat × (Nat → Nat) × Nat → va_W := fun (u : (Nat → Nat) × Nat × (Nat → Nat) × Nat) => match u with | (bt2, wz2, op2, dp2) => wW cA v0 v1 v2 bt2 wz2 op2 dp2
abbrev qX2_open (dC : Nat → ClassId) (dI : Nat → Nat → Nat) (cA : ClassId) (A : Nat → Prop) (v0 : Nat) (v1 : Nat) (v2 : Nat) (bt : Nat → Nat) (wz : Nat) (op : Nat → Nat) (dp : Nat) (tag : Int32) : Array Value → State → Outcome → State → Prop := va_Qi (pX2_open v0 v1 v2 bt wz op dp tag) (fun u => cAft dC dI cA A (vX2_open cA v0 v1 v2 bt wz op dp tag u)) A
set_option maxHeartbeats 4000000 in
set_option maxRecDepth 100000 in
theorem k_X2_open (l : Launch) (dC : Nat → ClassId) (dI : Nat → Nat → Nat) (cA : ClassId) (v0 : Nat) (v1 : Nat) (v2 : Nat) (bt : Nat → Nat) (wz : Nat) (op : Nat → Nat) (dp : Nat) (tag : Int32) (sz : Nat) (hbt : ∀ j, bt j < 256) (hwz : wz ≤ 300) (hdp : dp ≤ 16) (hop : ∀ j, j < dp → op j < wz) : Met l yX2_open wsX2_open ({ frames := 2, cells := 0, slots := 0, locals := 40 } : Room) (va_Pc [.ref v0, .int tag] (cPre dC dI cA (wW cA v0 v1 v2 bt wz op dp) sz)) (qX2_open dC dI cA (va_A (wW cA v0 v1 v2 bt wz op dp) sz) v0 v1 v2 bt wz op dp tag) 0 0 (va_A (wW cA v0 v1 v2 bt wz op dp) sz) := by
  refine Met.ofW (cc := cX2_open) (maxL := 2) (ret := (some .int)) (by decide) rfl ?_
  intro p e s m args below meth c s₁ B hml hv
  obtain ⟨rfl, hsz, hP, hK, hD0⟩ := hv
  have hx := B.exec
  have hb := B.bytes
  have hr := B.returns
  have hts := atoms_spec (ws := wsX2_open) B.pre
  have hown : s.vm.findClass RX2 = some m.cls := findClass_of_methodNamed B.named
  have hlocks := B.notSynchronized
  subst hsz
  have hD := hD0.self (sz := s.heap.size)
  generalize hAe : va_A (wW cA v0 v1 v2 bt wz op dp) s.heap.size = A at hD ⊢
  have hA : ∀ q : Nat, s.heap.size ≤ q → A q := fun q h => by rw [← hAe]; exact Or.inr h
  have hS : va_S A s.heap s.heap [] := va_S.rf
  have hl := lv_entry ([.ref v0, .int tag]) (n := 2) (Nat.le_of_ble_eq_true rfl)
  rw [lg_entry_eq]
  generalize (lg_sl ([.ref v0, .int tag]) ++ List.replicate (2 - (lg_sl ([.ref v0, .int tag])).length) Slot.unset).toArray = ls at hl ⊢
  have hl : lv_has ls 2 [(0, .ref v0), (1, .int tag)] := hl
  have hinX2 : ∀ w ∈ wsX20, w ∈ wsX2_open := fun _ h => List.mem_cons_of_mem _ (List.mem_append_right _ h)
  have hf_15 := hts (.fieldLink RX2 15 "DerDesk$Writer" "size" "I") (by decide +kernel)
  have hf_19 := hts (.fieldLink RX2 19 "DerDesk$Writer" "opened" "[I") (by decide +kernel)
  have hf_22 := hts (.fieldLink RX2 22 "DerDesk$Writer" "depth" "I") (by decide +kernel)
  have hP : va_P (dC, dI) vwCl (wW cA v0 v1 v2 bt wz op dp) s.heap := hP
  refine lv_iload_n hx hb dX2_open_0 rfl (lv_at hl 1 rfl) ?_
  refine cl_Si (As := [.int tag]) (rest := []) (wr := [(v0, .inr (1, [.ref v1, .int (nI wz), .ref v2, .int (nI dp)])), (v1, .inl (cA, 300, .inl (nA bt))), (v2, .inl (cA, 16, .inl (nA op)))]) ⟨hx, hb, hml, hown, hts⟩ (k_X1_isIdentifier l dC dI cA tag _ ) (va_cwS 1 hts gX2_open_X1_isIdentifier rfl rfl rfl (by decide +kernel) ⟨Nat.le_of_ble_eq_true rfl, Nat.le_of_ble_eq_true rfl⟩) hK hP hD hS hA [] [0, 1, 2] rfl rfl (by decide) (by decide) (by decide) rfl hl.1 rfl (Nat.le_of_ble_eq_true rfl) dX2_open_1 ⟨Nat.le_of_ble_eq_true rfl, Nat.le_of_ble_eq_true rfl⟩ (fun r_1 u_1 H locs hw_1 hP hD hS => ?_)
  have hP : va_P (dC, dI) vwCl (wW cA v0 v1 v2 bt wz op dp) H := hP
  have hD : va_D A (wW cA v0 v1 v2 bt wz op dp) := hD
  have hw_1 : r_1 = if isId tag then 1 else 0 := hw_1
  have hw_1 := hw_1.symm
  subst hw_1
  refine hl_ifb_ne (tgt := 9) hx hb dX2_open_4 (by decide) (fun c_2 => ?_) (fun c_2 => ?_)
  · refine lv_aload_n hx hb dX2_open_9 rfl (lv_at hl 0 rfl) ?_
    refine cl_Vi (As := []) (rest := []) (wr := []) ⟨hx, hb, hml, hown, hts⟩ (k_X2_canHoldValue l dC dI cA v0 v1 v2 bt wz op dp _ hbt hwz hdp hop) (cwV 0 hts gX2_open_X2_canHoldValue rfl rfl rfl (by decide +kernel) ⟨Nat.le_of_ble_eq_true rfl, Nat.le_of_ble_eq_true rfl⟩) hK hP hD hS hA [0, 1, 2] [] rfl rfl (by decide) (by decide) (by decide) (ci := 1) (q0 := 0) rfl rfl rfl rfl hl.1 rfl (Nat.le_of_ble_eq_true rfl) dX2_open_10 ⟨Nat.le_of_ble_eq_true rfl, Nat.le_of_ble_eq_true rfl⟩ (fun r_3 u_3 H locs hw_3 hP hD hS => ?_)
    have hP : va_P (dC, dI) vwCl (wW cA v0 v1 v2 bt wz op dp) H := hP
    have hD : va_D A (wW cA v0 v1 v2 bt wz op dp) := hD
    have hw_3 : r_3 = if canH dp wz bt op then 1 else 0 := hw_3
    have hw_3 := hw_3.symm
    subst hw_3
    refine hl_ifb_ne (tgt := 19) hx hb dX2_open_13 (by decide) (fun c_4 => ?_) (fun c_4 => ?_)
    · refine lv_aload_n hx hb dX2_open_19 rfl (lv_at hl 0 rfl) ?_
      refine va_get (D := (dC, dI)) (ci := 1) (v := .int (nI dp)) (C := RX2) (T := TX2) (N := 4) hx hb hts hinX2 hown hK hP 0 rfl rfl 3 (by decide) hf_22 (fun _ h9 => h9) rfl dX2_open_20 ?_
      refine lv_bipush (v := nI 16) hx hb dX2_open_23 (by decide) ?_
      refine hl_icmp_ge (tgt := 36) hx hb dX2_open_25 (by decide) (by omega) (by omega) (fun c_5 => ?_) (fun c_5 => ?_)
      · refine lv_bipush (v := (-3)) hx hb dX2_open_36 (by decide) ?_
        have hP9 : va_P (dC, dI) vwCl (vX2_open cA v0 v1 v2 bt wz op dp tag (bt, wz, op, dp)) _ := hP
        have hD9 : va_D A (vX2_open cA v0 v1 v2 bt wz op dp tag (bt, wz, op, dp)) := hD
        have hq9 : pX2_open v0 v1 v2 bt wz op dp tag ((-3)) (bt, wz, op, dp) := (by have e : begC tag dp wz bt op = (-3) := (by unfold begC; rw [if_neg (fun h => h (by assumption)), if_neg (fun h => h (by assumption)), if_pos (by omega)]); exact ⟨e.symm, Or.inr ⟨by rw [e]; decide, rfl, rfl, rfl, rfl⟩⟩)
        exact W.iret (v := (-3)) hx hb hr (fun t ht hW => ⟨⟨(-3), (bt, wz, op, dp), rfl, hq9, by rw [ht]; exact hP9, va_K.moved hW.alike hK, hD9⟩, hS.F ht⟩) hS.2.2 dX2_open_38
      · refine lv_aload_n hx hb dX2_open_28 rfl (lv_at hl 0 rfl) ?_
        refine lv_iconst (v := nI 1) hx hb dX2_open_29 (by decide) ?_
        refine cl_Vi (As := [.int (nI 1)]) (rest := []) (wr := []) ⟨hx, hb, hml, hown, hts⟩ (k_X2_hasRoom l dC dI cA v0 v1 v2 bt wz op dp 1 _ hwz (by omega)) (cwV 1 hts gX2_open_X2_hasRoom rfl rfl rfl (by decide +kernel) ⟨Nat.le_of_ble_eq_true rfl, Nat.le_of_ble_eq_true rfl⟩) hK hP hD hS hA [0, 1, 2] [] rfl rfl (by decide) (by decide) (by decide) (ci := 1) (q0 := 0) rfl rfl rfl rfl hl.1 rfl (Nat.le_of_ble_eq_true rfl) dX2_open_30 ⟨Nat.le_of_ble_eq_true rfl, Nat.le_of_ble_eq_true rfl⟩ (fun r_6 u_6 H locs hw_6 hP hD hS => ?_)
        have hP : va_P (dC, dI) vwCl (wW cA v0 v1 v2 bt wz op dp) H := hP
        have hD : va_D A (wW cA v0 v1 v2 bt wz op dp) := hD
        have hw_6 : r_6 = if wz + 1 ≤ 300 then 1 else 0 := hw_6
        have hw_6 := hw_6.symm
        subst hw_6
        refine hl_ifb_ne (tgt := 39) hx hb dX2_open_33 (by decide) (fun c_7 => ?_) (fun c_7 => ?_)
        · refine lv_aload_n hx hb dX2_open_39 rfl (lv_at hl 0 rfl) ?_
          refine va_get (D := (dC, dI)) (ci := 1) (v := .ref v2) (C := RX2) (T := TX2) (N := 4) hx hb hts hinX2 hown hK hP 0 rfl rfl 2 (by decide) hf_19 (fun _ h9 => h9) rfl dX2_open_40 ?_
          refine lv_aload_n hx hb dX2_open_43 rfl (lv_at hl 0 rfl) ?_
          refine va_get (D := (dC, dI)) (ci := 1) (v := .int (nI dp)) (C := RX2) (T := TX2) (N := 4) hx hb hts hinX2 hown hK hP 0 rfl rfl 3 (by decide) hf_22 (fun _ h9 => h9) rfl dX2_open_44 ?_
          refine lv_aload_n hx hb dX2_open_47 rfl (lv_at hl 0 rfl) ?_
          refine va_get (D := (dC, dI)) (ci := 1) (v := .int (nI wz)) (C := RX2) (T := TX2) (N := 4) hx hb hts hinX2 hown hK hP 0 rfl rfl 1 (by decide) hf_15 (fun _ h9 => h9) rfl dX2_open_48 ?_
          refine hl_iast hx hb hK hP hD hS 2 0 rfl rfl (by omega) (by decide) dX2_open_51 (fun H locs hP hD hS => ?_)
          have hP : va_P (dC, dI) vwCl (wW cA v0 v1 v2 bt wz (va_up op dp wz) dp) H := hP
          have hD : va_D A (wW cA v0 v1 v2 bt wz (va_up op dp wz) dp) := hD
          refine lv_aload_n hx hb dX2_open_52 rfl (lv_at hl 0 rfl) ?_
          refine lv_dup hx hb dX2_open_53 rfl ?_
          refine va_get (D := (dC, dI)) (ci := 1) (v := .int (nI dp)) (C := RX2) (T := TX2) (N := 4) hx hb hts hinX2 hown hK hP 0 rfl rfl 3 (by decide) hf_22 (fun _ h9 => h9) rfl dX2_open_54 ?_
          refine lv_iconst (v := nI 1) hx hb dX2_open_57 (by decide) ?_
          refine hl_iadd hx hb dX2_open_58 ?_
          refine va_put (D := (dC, dI)) (ci := 1) (v := .int (nI (dp + 1))) (ty := .int) (C := RX2) (T := TX2) (N := 4) hx hb hts hinX2 tyX2 tyX2_ok nmX2 hown hK hP hD hS 0 rfl rfl 3 (by decide) hf_22 (fun _ h9 => h9) rfl (by decide +kernel) rfl rfl (Nat.le_of_ble_eq_true rfl) dX2_open_59 (fun H locs hP hD hS => ?_)
          have hP : va_P (dC, dI) vwCl (wW cA v0 v1 v2 bt wz (va_up op dp wz) (dp + 1)) H := hP
          have hD : va_D A (wW cA v0 v1 v2 bt wz (va_up op dp wz) (dp + 1)) := hD
          refine lv_aload_n hx hb dX2_open_62 rfl (lv_at hl 0 rfl) ?_
          refine lv_iload_n hx hb dX2_open_63 rfl (lv_at hl 1 rfl) ?_
          have hid := id_of ‹isId tag›
          refine hl_top hid.1 ?_
          refine cl_Vv (As := [.int (nI tag.toNatClampNeg)]) (rest := []) (wr := []) ⟨hx, hb, hml, hown, hts⟩ (k_X2_append l dC dI cA v0 v1 v2 bt wz (va_up op dp wz) (dp + 1) tag.toNatClampNeg _ (by omega)) (cwV 1 hts gX2_open_X2_append rfl rfl rfl (by decide +kernel) ⟨Nat.le_of_ble_eq_true rfl, Nat.le_of_ble_eq_true rfl⟩) hK hP hD hS hA [0, 1, 2] [] rfl rfl (by decide) (by decide) (by decide) (ci := 1) (q0 := 0) rfl rfl rfl rfl hl.1 rfl (Nat.le_of_ble_eq_true rfl) dX2_open_64 ⟨Nat.le_of_ble_eq_true rfl, Nat.le_of_ble_eq_true rfl⟩ (fun u_8 H locs hw_8 hP hD hS => ?_)
          obtain ⟨bt2_8, wz2_8⟩ := u_8
          have hP : va_P (dC, dI) vwCl (wW cA v0 v1 v2 bt2_8 wz2_8 (va_up op dp wz) (dp + 1)) H := hP
          have hD : va_D A (wW cA v0 v1 v2 bt2_8 wz2_8 (va_up op dp wz) (dp + 1)) := hD
          have hw_8 : bt2_8 = va_up bt wz tag.toNatClampNeg ∧ wz2_8 = wz + 1 := hw_8
          obtain ⟨e0_8, e1_8⟩ := hw_8
          have e0_8 := e0_8.symm
          subst e0_8
          have e1_8 := e1_8.symm
          subst e1_8
          refine lv_iconst (v := nI 0) hx hb dX2_open_67 (by decide) ?_
          have hP9 : va_P (dC, dI) vwCl (vX2_open cA v0 v1 v2 bt wz op dp tag (va_up bt wz tag.toNatClampNeg, wz + 1, va_up op dp wz, dp + 1)) _ := hP
          have hD9 : va_D A (vX2_open cA v0 v1 v2 bt wz op dp tag (va_up bt wz tag.toNatClampNeg, wz + 1, va_up op dp wz, dp + 1)) := hD
          have hq9 : pX2_open v0 v1 v2 bt wz op dp tag (nI 0) (va_up bt wz tag.toNatClampNeg, wz + 1, va_up op dp wz, dp + 1) := (by have e : begC tag dp wz bt op = 0 := (by unfold begC; rw [if_neg (fun h => h (by assumption)), if_neg (fun h => h (by assumption)), if_neg (by omega)]); exact ⟨e.symm, Or.inl ⟨e, by assumption, by assumption, by omega, by omega, rfl, rfl, rfl, rfl⟩⟩)
          exact W.iret (v := nI 0) hx hb hr (fun t ht hW => ⟨⟨nI 0, (va_up bt wz tag.toNatClampNeg, wz + 1, va_up op dp wz, dp + 1), rfl, hq9, by rw [ht]; exact hP9, va_K.moved hW.alike hK, hD9⟩, hS.F ht⟩) hS.2.2 dX2_open_68
        · refine lv_bipush (v := (-3)) hx hb dX2_open_36 (by decide) ?_
          have hP9 : va_P (dC, dI) vwCl (vX2_open cA v0 v1 v2 bt wz op dp tag (bt, wz, op, dp)) _ := hP
          have hD9 : va_D A (vX2_open cA v0 v1 v2 bt wz op dp tag (bt, wz, op, dp)) := hD
          have hq9 : pX2_open v0 v1 v2 bt wz op dp tag ((-3)) (bt, wz, op, dp) := (by have e : begC tag dp wz bt op = (-3) := (by unfold begC; rw [if_neg (fun h => h (by assumption)), if_neg (fun h => h (by assumption)), if_pos (by omega)]); exact ⟨e.symm, Or.inr ⟨by rw [e]; decide, rfl, rfl, rfl, rfl⟩⟩)
          exact W.iret (v := (-3)) hx hb hr (fun t ht hW => ⟨⟨(-3), (bt, wz, op, dp), rfl, hq9, by rw [ht]; exact hP9, va_K.moved hW.alike hK, hD9⟩, hS.F ht⟩) hS.2.2 dX2_open_38
    · refine lv_bipush (v := (-2)) hx hb dX2_open_16 (by decide) ?_
      have hP9 : va_P (dC, dI) vwCl (vX2_open cA v0 v1 v2 bt wz op dp tag (bt, wz, op, dp)) _ := hP
      have hD9 : va_D A (vX2_open cA v0 v1 v2 bt wz op dp tag (bt, wz, op, dp)) := hD
      have hq9 : pX2_open v0 v1 v2 bt wz op dp tag ((-2)) (bt, wz, op, dp) := (by have e : begC tag dp wz bt op = (-2) := (by unfold begC; rw [if_neg (fun h => h (by assumption)), if_pos (by assumption)]); exact ⟨e.symm, Or.inr ⟨by rw [e]; decide, rfl, rfl, rfl, rfl⟩⟩)
      exact W.iret (v := (-2)) hx hb hr (fun t ht hW => ⟨⟨(-2), (bt, wz, op, dp), rfl, hq9, by rw [ht]; exact hP9, va_K.moved hW.alike hK, hD9⟩, hS.F ht⟩) hS.2.2 dX2_open_18
  · refine lv_iconst (v := (-1)) hx hb dX2_open_7 (by decide) ?_
    have hP9 : va_P (dC, dI) vwCl (vX2_open cA v0 v1 v2 bt wz op dp tag (bt, wz, op, dp)) _ := hP
    have hD9 : va_D A (vX2_open cA v0 v1 v2 bt wz op dp tag (bt, wz, op, dp)) := hD
    have hq9 : pX2_open v0 v1 v2 bt wz op dp tag ((-1)) (bt, wz, op, dp) := (by have e : begC tag dp wz bt op = (-1) := (by unfold begC; rw [if_pos (by assumption)]); exact ⟨e.symm, Or.inr ⟨by rw [e]; decide, rfl, rfl, rfl, rfl⟩⟩)
    exact W.iret (v := (-1)) hx hb hr (fun t ht hW => ⟨⟨(-1), (bt, wz, op, dp), rfl, hq9, by rw [ht]; exact hP9, va_K.moved hW.alike hK, hD9⟩, hS.F ht⟩) hS.2.2 dX2_open_8
abbrev pX2_addByte (v0 : Nat) (v1 : Nat) (v2 : Nat) (bt : Nat → Nat) (wz : Nat) (op : Nat → Nat) (dp : Nat) (b : Int32) : Int32 → (Nat → Nat) × Nat → Prop := fun (r : Int32) (u : (Nat → Nat) × Nat) => match u with | (bt2, wz2) => r = pbC b dp wz bt op ∧ ((pbC b dp wz bt op = 0 ∧ isB b ∧ wz < 300 ∧ bt2 = va_up bt wz b.toNatClampNeg ∧ wz2 = wz + 1) ∨ (pbC b dp wz bt op ≠ 0 ∧ bt2 = bt ∧ wz2 = wz))
abbrev vX2_addByte (cA : ClassId) (v0 : Nat) (v1 : Nat) (v2 : Nat) (bt : Nat → Nat) (wz : Nat) (op : Nat → Nat) (dp : Nat) (b : Int32) : (Nat → Nat) × Nat → va_W := fun (u : (Nat → Nat) × Nat) => match u with | (bt2, wz2) => wW cA v0 v1 v2 bt2 wz2 op dp
abbrev qX2_addByte (dC : Nat → ClassId) (dI : Nat → Nat → Nat) (cA : ClassId) (A : Nat → Prop) (v0 : Nat) (v1 : Nat) (v2 : Nat) (bt : Nat → Nat) (wz : Nat) (op : Nat → Nat) (dp : Nat) (b : Int32) : Array Value → State → Outcome → State → Prop := va_Qi (pX2_addByte v0 v1 v2 bt wz op dp b) (fun u => cAft dC dI cA A (vX2_addByte cA v0 v1 v2 bt wz op dp b u)) A
set_option maxHeartbeats 4000000 in
set_option maxRecDepth 100000 in
theorem k_X2_addByte (l : Launch) (dC : Nat → ClassId) (dI : Nat → Nat → Nat) (cA : ClassId) (v0 : Nat) (v1 : Nat) (v2 : Nat) (bt : Nat → Nat) (wz : Nat) (op : Nat → Nat) (dp : Nat) (b : Int32) (sz : Nat) (hbt : ∀ j, bt j < 256) (hwz : wz ≤ 300) (hdp : dp ≤ 16) (hop : ∀ j, j < dp → op j < wz) : Met l yX2_addByte wsX2_addByte ({ frames := 1, cells := 0, slots := 0, locals := 21 } : Room) (va_Pc [.ref v0, .int b] (cPre dC dI cA (wW cA v0 v1 v2 bt wz op dp) sz)) (qX2_addByte dC dI cA (va_A (wW cA v0 v1 v2 bt wz op dp) sz) v0 v1 v2 bt wz op dp b) 0 0 (va_A (wW cA v0 v1 v2 bt wz op dp) sz) := by
  refine Met.ofW (cc := cX2_addByte) (maxL := 2) (ret := (some .int)) (by decide) rfl ?_
  intro p e s m args below meth c s₁ B hml hv
  obtain ⟨rfl, hsz, hP, hK, hD0⟩ := hv
  have hx := B.exec
  have hb := B.bytes
  have hr := B.returns
  have hts := atoms_spec (ws := wsX2_addByte) B.pre
  have hown : s.vm.findClass RX2 = some m.cls := findClass_of_methodNamed B.named
  have hlocks := B.notSynchronized
  subst hsz
  have hD := hD0.self (sz := s.heap.size)
  generalize hAe : va_A (wW cA v0 v1 v2 bt wz op dp) s.heap.size = A at hD ⊢
  have hA : ∀ q : Nat, s.heap.size ≤ q → A q := fun q h => by rw [← hAe]; exact Or.inr h
  have hS : va_S A s.heap s.heap [] := va_S.rf
  have hl := lv_entry ([.ref v0, .int b]) (n := 2) (Nat.le_of_ble_eq_true rfl)
  rw [lg_entry_eq]
  generalize (lg_sl ([.ref v0, .int b]) ++ List.replicate (2 - (lg_sl ([.ref v0, .int b])).length) Slot.unset).toArray = ls at hl ⊢
  have hl : lv_has ls 2 [(0, .ref v0), (1, .int b)] := hl
  have hinX2 : ∀ w ∈ wsX20, w ∈ wsX2_addByte := fun _ h => List.mem_cons_of_mem _ (List.mem_append_right _ h)
  have hf_22 := hts (.fieldLink RX2 22 "DerDesk$Writer" "depth" "I") (by decide +kernel)
  have hP : va_P (dC, dI) vwCl (wW cA v0 v1 v2 bt wz op dp) s.heap := hP
  refine lv_iload_n hx hb dX2_addByte_0 rfl (lv_at hl 1 rfl) ?_
  refine cl_Si (As := [.int b]) (rest := []) (wr := [(v0, .inr (1, [.ref v1, .int (nI wz), .ref v2, .int (nI dp)])), (v1, .inl (cA, 300, .inl (nA bt))), (v2, .inl (cA, 16, .inl (nA op)))]) ⟨hx, hb, hml, hown, hts⟩ (k_X1_isByte l dC dI cA b _ ) (va_cwS 1 hts gX2_addByte_X1_isByte rfl rfl rfl (by decide +kernel) ⟨Nat.le_of_ble_eq_true rfl, Nat.le_of_ble_eq_true rfl⟩) hK hP hD hS hA [] [0, 1, 2] rfl rfl (by decide) (by decide) (by decide) rfl hl.1 rfl (Nat.le_of_ble_eq_true rfl) dX2_addByte_1 ⟨Nat.le_of_ble_eq_true rfl, Nat.le_of_ble_eq_true rfl⟩ (fun r_1 u_1 H locs hw_1 hP hD hS => ?_)
  have hP : va_P (dC, dI) vwCl (wW cA v0 v1 v2 bt wz op dp) H := hP
  have hD : va_D A (wW cA v0 v1 v2 bt wz op dp) := hD
  have hw_1 : r_1 = if isB b then 1 else 0 := hw_1
  have hw_1 := hw_1.symm
  subst hw_1
  refine hl_ifb_ne (tgt := 9) hx hb dX2_addByte_4 (by decide) (fun c_2 => ?_) (fun c_2 => ?_)
  · refine lv_aload_n hx hb dX2_addByte_9 rfl (lv_at hl 0 rfl) ?_
    refine va_get (D := (dC, dI)) (ci := 1) (v := .int (nI dp)) (C := RX2) (T := TX2) (N := 4) hx hb hts hinX2 hown hK hP 0 rfl rfl 3 (by decide) hf_22 (fun _ h9 => h9) rfl dX2_addByte_10 ?_
    refine hl_if_eq (tgt := 25) hx hb dX2_addByte_13 (by decide) (by omega) (fun c_3 => ?_) (fun c_3 => ?_)
    · refine lv_bipush (v := (-2)) hx hb dX2_addByte_25 (by decide) ?_
      have hP9 : va_P (dC, dI) vwCl (vX2_addByte cA v0 v1 v2 bt wz op dp b (bt, wz)) _ := hP
      have hD9 : va_D A (vX2_addByte cA v0 v1 v2 bt wz op dp b (bt, wz)) := hD
      have hq9 : pX2_addByte v0 v1 v2 bt wz op dp b ((-2)) (bt, wz) := (by have e : pbC b dp wz bt op = (-2) := (by unfold pbC; rw [if_neg (fun h => h (by assumption)), if_pos (by omega)]); exact ⟨e.symm, Or.inr ⟨by rw [e]; decide, rfl, rfl⟩⟩)
      exact W.iret (v := (-2)) hx hb hr (fun t ht hW => ⟨⟨(-2), (bt, wz), rfl, hq9, by rw [ht]; exact hP9, va_K.moved hW.alike hK, hD9⟩, hS.F ht⟩) hS.2.2 dX2_addByte_27
    · refine lv_aload_n hx hb dX2_addByte_16 rfl (lv_at hl 0 rfl) ?_
      refine cl_Vi (As := []) (rest := []) (wr := []) ⟨hx, hb, hml, hown, hts⟩ (k_X2_openTag l dC dI cA v0 v1 v2 bt wz op dp _ hbt hwz hdp hop) (cwV 0 hts gX2_addByte_X2_openTag rfl rfl rfl (by decide +kernel) ⟨Nat.le_of_ble_eq_true rfl, Nat.le_of_ble_eq_true rfl⟩) hK hP hD hS hA [0, 1, 2] [] rfl rfl (by decide) (by decide) (by decide) (ci := 1) (q0 := 0) rfl rfl rfl rfl hl.1 rfl (Nat.le_of_ble_eq_true rfl) dX2_addByte_17 ⟨Nat.le_of_ble_eq_true rfl, Nat.le_of_ble_eq_true rfl⟩ (fun r_4 u_4 H locs hw_4 hP hD hS => ?_)
      have hP : va_P (dC, dI) vwCl (wW cA v0 v1 v2 bt wz op dp) H := hP
      have hD : va_D A (wW cA v0 v1 v2 bt wz op dp) := hD
      have hw_4 : (dp = 0 ∧ r_4 = -1) ∨ (0 < dp ∧ r_4 = nI (bt (op (dp - 1)))) := hw_4
      have hw_4 := ((hw_4.resolve_left (fun h => absurd h.1 (by omega))).2).symm
      subst hw_4
      have hv_4 := hbt (op (dp - 1))
      refine lv_bipush (v := nI 48) hx hb dX2_addByte_20 (by decide) ?_
      refine hl_icmp_ne (tgt := 28) hx hb dX2_addByte_22 (by decide) (by omega) (by omega) (fun c_5 => ?_) (fun c_5 => ?_)
      · refine lv_aload_n hx hb dX2_addByte_28 rfl (lv_at hl 0 rfl) ?_
        refine lv_iconst (v := nI 1) hx hb dX2_addByte_29 (by decide) ?_
        refine cl_Vi (As := [.int (nI 1)]) (rest := []) (wr := []) ⟨hx, hb, hml, hown, hts⟩ (k_X2_hasRoom l dC dI cA v0 v1 v2 bt wz op dp 1 _ hwz (by omega)) (cwV 1 hts gX2_addByte_X2_hasRoom rfl rfl rfl (by decide +kernel) ⟨Nat.le_of_ble_eq_true rfl, Nat.le_of_ble_eq_true rfl⟩) hK hP hD hS hA [0, 1, 2] [] rfl rfl (by decide) (by decide) (by decide) (ci := 1) (q0 := 0) rfl rfl rfl rfl hl.1 rfl (Nat.le_of_ble_eq_true rfl) dX2_addByte_30 ⟨Nat.le_of_ble_eq_true rfl, Nat.le_of_ble_eq_true rfl⟩ (fun r_6 u_6 H locs hw_6 hP hD hS => ?_)
        have hP : va_P (dC, dI) vwCl (wW cA v0 v1 v2 bt wz op dp) H := hP
        have hD : va_D A (wW cA v0 v1 v2 bt wz op dp) := hD
        have hw_6 : r_6 = if wz + 1 ≤ 300 then 1 else 0 := hw_6
        have hw_6 := hw_6.symm
        subst hw_6
        refine hl_ifb_ne (tgt := 39) hx hb dX2_addByte_33 (by decide) (fun c_7 => ?_) (fun c_7 => ?_)
        · refine lv_aload_n hx hb dX2_addByte_39 rfl (lv_at hl 0 rfl) ?_
          refine lv_iload_n hx hb dX2_addByte_40 rfl (lv_at hl 1 rfl) ?_
          have hq := ‹isB b›
          have hbl := cl_le hq.1 (by decide) hq.2
          refine hl_top (cl_of hq.1) ?_
          refine cl_Vv (As := [.int (nI b.toNatClampNeg)]) (rest := []) (wr := []) ⟨hx, hb, hml, hown, hts⟩ (k_X2_append l dC dI cA v0 v1 v2 bt wz op dp b.toNatClampNeg _ (by omega)) (cwV 1 hts gX2_addByte_X2_append rfl rfl rfl (by decide +kernel) ⟨Nat.le_of_ble_eq_true rfl, Nat.le_of_ble_eq_true rfl⟩) hK hP hD hS hA [0, 1, 2] [] rfl rfl (by decide) (by decide) (by decide) (ci := 1) (q0 := 0) rfl rfl rfl rfl hl.1 rfl (Nat.le_of_ble_eq_true rfl) dX2_addByte_41 ⟨Nat.le_of_ble_eq_true rfl, Nat.le_of_ble_eq_true rfl⟩ (fun u_8 H locs hw_8 hP hD hS => ?_)
          obtain ⟨bt2_8, wz2_8⟩ := u_8
          have hP : va_P (dC, dI) vwCl (wW cA v0 v1 v2 bt2_8 wz2_8 op dp) H := hP
          have hD : va_D A (wW cA v0 v1 v2 bt2_8 wz2_8 op dp) := hD
          have hw_8 : bt2_8 = va_up bt wz b.toNatClampNeg ∧ wz2_8 = wz + 1 := hw_8
          obtain ⟨e0_8, e1_8⟩ := hw_8
          have e0_8 := e0_8.symm
          subst e0_8
          have e1_8 := e1_8.symm
          subst e1_8
          refine lv_iconst (v := nI 0) hx hb dX2_addByte_44 (by decide) ?_
          have hP9 : va_P (dC, dI) vwCl (vX2_addByte cA v0 v1 v2 bt wz op dp b (va_up bt wz b.toNatClampNeg, wz + 1)) _ := hP
          have hD9 : va_D A (vX2_addByte cA v0 v1 v2 bt wz op dp b (va_up bt wz b.toNatClampNeg, wz + 1)) := hD
          have hq9 : pX2_addByte v0 v1 v2 bt wz op dp b (nI 0) (va_up bt wz b.toNatClampNeg, wz + 1) := (by have e : pbC b dp wz bt op = 0 := (by unfold pbC; rw [if_neg (fun h => h (by assumption)), if_neg (by omega), if_neg (by omega)]); exact ⟨e.symm, Or.inl ⟨e, by assumption, by omega, rfl, rfl⟩⟩)
          exact W.iret (v := nI 0) hx hb hr (fun t ht hW => ⟨⟨nI 0, (va_up bt wz b.toNatClampNeg, wz + 1), rfl, hq9, by rw [ht]; exact hP9, va_K.moved hW.alike hK, hD9⟩, hS.F ht⟩) hS.2.2 dX2_addByte_45
        · refine lv_bipush (v := (-3)) hx hb dX2_addByte_36 (by decide) ?_
          have hP9 : va_P (dC, dI) vwCl (vX2_addByte cA v0 v1 v2 bt wz op dp b (bt, wz)) _ := hP
          have hD9 : va_D A (vX2_addByte cA v0 v1 v2 bt wz op dp b (bt, wz)) := hD
          have hq9 : pX2_addByte v0 v1 v2 bt wz op dp b ((-3)) (bt, wz) := (by have e : pbC b dp wz bt op = (-3) := (by unfold pbC; rw [if_neg (fun h => h (by assumption)), if_neg (by omega), if_pos (by omega)]); exact ⟨e.symm, Or.inr ⟨by rw [e]; decide, rfl, rfl⟩⟩)
          exact W.iret (v := (-3)) hx hb hr (fun t ht hW => ⟨⟨(-3), (bt, wz), rfl, hq9, by rw [ht]; exact hP9, va_K.moved hW.alike hK, hD9⟩, hS.F ht⟩) hS.2.2 dX2_addByte_38
      · refine lv_bipush (v := (-2)) hx hb dX2_addByte_25 (by decide) ?_
        have hP9 : va_P (dC, dI) vwCl (vX2_addByte cA v0 v1 v2 bt wz op dp b (bt, wz)) _ := hP
        have hD9 : va_D A (vX2_addByte cA v0 v1 v2 bt wz op dp b (bt, wz)) := hD
        have hq9 : pX2_addByte v0 v1 v2 bt wz op dp b ((-2)) (bt, wz) := (by have e : pbC b dp wz bt op = (-2) := (by unfold pbC; rw [if_neg (fun h => h (by assumption)), if_pos (by omega)]); exact ⟨e.symm, Or.inr ⟨by rw [e]; decide, rfl, rfl⟩⟩)
        exact W.iret (v := (-2)) hx hb hr (fun t ht hW => ⟨⟨(-2), (bt, wz), rfl, hq9, by rw [ht]; exact hP9, va_K.moved hW.alike hK, hD9⟩, hS.F ht⟩) hS.2.2 dX2_addByte_27
  · refine lv_iconst (v := (-1)) hx hb dX2_addByte_7 (by decide) ?_
    have hP9 : va_P (dC, dI) vwCl (vX2_addByte cA v0 v1 v2 bt wz op dp b (bt, wz)) _ := hP
    have hD9 : va_D A (vX2_addByte cA v0 v1 v2 bt wz op dp b (bt, wz)) := hD
    have hq9 : pX2_addByte v0 v1 v2 bt wz op dp b ((-1)) (bt, wz) := (by have e : pbC b dp wz bt op = (-1) := (by unfold pbC; rw [if_pos (by assumption)]); exact ⟨e.symm, Or.inr ⟨by rw [e]; decide, rfl, rfl⟩⟩)
    exact W.iret (v := (-1)) hx hb hr (fun t ht hW => ⟨⟨(-1), (bt, wz), rfl, hq9, by rw [ht]; exact hP9, va_K.moved hW.alike hK, hD9⟩, hS.F ht⟩) hS.2.2 dX2_addByte_8
abbrev pX2_integerSize (v : Int32) : Int32 → Unit → Prop := fun (r : Int32) (u : Unit) => r = nI (intSz v)
abbrev vX2_integerSize (cA : ClassId) (v : Int32) : Unit → va_W := fun (u : Unit) => []
abbrev qX2_integerSize (dC : Nat → ClassId) (dI : Nat → Nat → Nat) (cA : ClassId) (A : Nat → Prop) (v : Int32) : Array Value → State → Outcome → State → Prop := va_Qi (pX2_integerSize v) (fun u => cAft dC dI cA A (vX2_integerSize cA v u)) A
set_option maxHeartbeats 4000000 in
set_option maxRecDepth 100000 in
theorem k_X2_integerSize (l : Launch) (dC : Nat → ClassId) (dI : Nat → Nat → Nat) (cA : ClassId) (v : Int32) (sz : Nat)  : Met l yX2_integerSize wsX2_integerSize ({ frames := 0, cells := 0, slots := 0, locals := 0 } : Room) (va_Pc [.int v] (cPre dC dI cA ([]) sz)) (qX2_integerSize dC dI cA (va_A ([]) sz) v) 0 0 (va_A ([]) sz) := by
  refine Met.ofW (cc := cX2_integerSize) (maxL := 2) (ret := (some .int)) (by decide) rfl ?_
  intro p e s m args below meth c s₁ B hml hv
  obtain ⟨rfl, hsz, hP, hK, hD0⟩ := hv
  have hx := B.exec
  have hb := B.bytes
  have hr := B.returns
  have hts := atoms_spec (ws := wsX2_integerSize) B.pre
  have hown : s.vm.findClass RX2 = some m.cls := findClass_of_methodNamed B.named
  have hlocks := B.notSynchronized
  subst hsz
  have hD := hD0.self (sz := s.heap.size)
  generalize hAe : va_A ([]) s.heap.size = A at hD ⊢
  have hA : ∀ q : Nat, s.heap.size ≤ q → A q := fun q h => by rw [← hAe]; exact Or.inr h
  have hS : va_S A s.heap s.heap [] := va_S.rf
  have hl := lv_entry ([.int v]) (n := 2) (Nat.le_of_ble_eq_true rfl)
  rw [lg_entry_eq]
  generalize (lg_sl ([.int v]) ++ List.replicate (2 - (lg_sl ([.int v])).length) Slot.unset).toArray = ls at hl ⊢
  have hl : lv_has ls 2 [(0, .int v)] := hl
  have hP : va_P (dC, dI) vwCl ([]) s.heap := hP
  refine lv_iconst (v := nI 1) hx hb dX2_integerSize_0 (by decide) ?_
  refine lv_istore_n (lv' := [(1, .int (nI 1)), (0, .int v)]) hx hb dX2_integerSize_1 rfl hl (by decide) rfl (fun ls hl => ?_)
  refine lv_iload_n hx hb dX2_integerSize_2 rfl (lv_at hl 0 rfl) ?_
  refine lv_iconst (v := nI 4) hx hb dX2_integerSize_3 (by decide) ?_
  refine hl_icmp_ge (tgt := 28) hx hb dX2_integerSize_4 (by decide) (by omega) (by omega) (fun c_1 => absurd c_1 (by decide)) (fun c_1 => ?_)
  refine lv_iload_n hx hb dX2_integerSize_7 rfl (lv_at hl 1 rfl) ?_
  refine lv_bipush (v := nI 8) hx hb dX2_integerSize_8 (by decide) ?_
  refine lv_iload_n hx hb dX2_integerSize_10 rfl (lv_at hl 0 rfl) ?_
  refine lv_imul hx hb dX2_integerSize_11 ?_
  refine hl_top (show _ = nI 8 by decide) ?_
  refine lv_iconst (v := nI 1) hx hb dX2_integerSize_12 (by decide) ?_
  refine lv_isub hx hb dX2_integerSize_13 ?_
  refine hl_top (show _ = nI 7 by decide) ?_
  refine lv_ishr hx hb dX2_integerSize_14 ?_
  refine lv_iload_n hx hb dX2_integerSize_15 rfl (lv_at hl 1 rfl) ?_
  refine lv_bipush (v := nI 31) hx hb dX2_integerSize_16 (by decide) ?_
  refine lv_ishr hx hb dX2_integerSize_18 ?_
  refine lv_icmp_eq (tgt := 28) hx hb dX2_integerSize_19 (by decide) (fun c_2 => ?_) (fun c_2 => ?_)
  · refine lv_iload_n hx hb dX2_integerSize_28 rfl (lv_at hl 0 rfl) ?_
    have hP9 : va_P (dC, dI) vwCl (vX2_integerSize cA v ()) _ := hP
    have hD9 : va_D A (vX2_integerSize cA v ()) := hD
    have hq9 : pX2_integerSize v (nI 1) () := congrArg nI (by unfold intSz; simp only [*, if_true, if_false])
    exact W.iret (v := nI 1) hx hb hr (fun t ht hW => ⟨⟨nI 1, (), rfl, hq9, by rw [ht]; exact hP9, va_K.moved hW.alike hK, hD9⟩, hS.F ht⟩) hS.2.2 dX2_integerSize_29
  · refine lv_iinc (v := (nI 2)) (lv' := [(1, .int (nI 2)), (0, .int v)]) hx hb dX2_integerSize_22 hl (k := 0) rfl (by decide) (by decide) rfl (fun ls hl => ?_)
    refine lv_goto (tgt := 2) hx hb dX2_integerSize_25 (by decide) ?_
    refine lv_iload_n hx hb dX2_integerSize_2 rfl (lv_at hl 0 rfl) ?_
    refine lv_iconst (v := nI 4) hx hb dX2_integerSize_3 (by decide) ?_
    refine hl_icmp_ge (tgt := 28) hx hb dX2_integerSize_4 (by decide) (by omega) (by omega) (fun c_3 => absurd c_3 (by decide)) (fun c_3 => ?_)
    refine lv_iload_n hx hb dX2_integerSize_7 rfl (lv_at hl 1 rfl) ?_
    refine lv_bipush (v := nI 8) hx hb dX2_integerSize_8 (by decide) ?_
    refine lv_iload_n hx hb dX2_integerSize_10 rfl (lv_at hl 0 rfl) ?_
    refine lv_imul hx hb dX2_integerSize_11 ?_
    refine hl_top (show _ = nI 16 by decide) ?_
    refine lv_iconst (v := nI 1) hx hb dX2_integerSize_12 (by decide) ?_
    refine lv_isub hx hb dX2_integerSize_13 ?_
    refine hl_top (show _ = nI 15 by decide) ?_
    refine lv_ishr hx hb dX2_integerSize_14 ?_
    refine lv_iload_n hx hb dX2_integerSize_15 rfl (lv_at hl 1 rfl) ?_
    refine lv_bipush (v := nI 31) hx hb dX2_integerSize_16 (by decide) ?_
    refine lv_ishr hx hb dX2_integerSize_18 ?_
    refine lv_icmp_eq (tgt := 28) hx hb dX2_integerSize_19 (by decide) (fun c_4 => ?_) (fun c_4 => ?_)
    · refine lv_iload_n hx hb dX2_integerSize_28 rfl (lv_at hl 0 rfl) ?_
      have hP9 : va_P (dC, dI) vwCl (vX2_integerSize cA v ()) _ := hP
      have hD9 : va_D A (vX2_integerSize cA v ()) := hD
      have hq9 : pX2_integerSize v (nI 2) () := congrArg nI (by unfold intSz; simp only [*, if_true, if_false])
      exact W.iret (v := nI 2) hx hb hr (fun t ht hW => ⟨⟨nI 2, (), rfl, hq9, by rw [ht]; exact hP9, va_K.moved hW.alike hK, hD9⟩, hS.F ht⟩) hS.2.2 dX2_integerSize_29
    · refine lv_iinc (v := (nI 3)) (lv' := [(1, .int (nI 3)), (0, .int v)]) hx hb dX2_integerSize_22 hl (k := 0) rfl (by decide) (by decide) rfl (fun ls hl => ?_)
      refine lv_goto (tgt := 2) hx hb dX2_integerSize_25 (by decide) ?_
      refine lv_iload_n hx hb dX2_integerSize_2 rfl (lv_at hl 0 rfl) ?_
      refine lv_iconst (v := nI 4) hx hb dX2_integerSize_3 (by decide) ?_
      refine hl_icmp_ge (tgt := 28) hx hb dX2_integerSize_4 (by decide) (by omega) (by omega) (fun c_5 => absurd c_5 (by decide)) (fun c_5 => ?_)
      refine lv_iload_n hx hb dX2_integerSize_7 rfl (lv_at hl 1 rfl) ?_
      refine lv_bipush (v := nI 8) hx hb dX2_integerSize_8 (by decide) ?_
      refine lv_iload_n hx hb dX2_integerSize_10 rfl (lv_at hl 0 rfl) ?_
      refine lv_imul hx hb dX2_integerSize_11 ?_
      refine hl_top (show _ = nI 24 by decide) ?_
      refine lv_iconst (v := nI 1) hx hb dX2_integerSize_12 (by decide) ?_
      refine lv_isub hx hb dX2_integerSize_13 ?_
      refine hl_top (show _ = nI 23 by decide) ?_
      refine lv_ishr hx hb dX2_integerSize_14 ?_
      refine lv_iload_n hx hb dX2_integerSize_15 rfl (lv_at hl 1 rfl) ?_
      refine lv_bipush (v := nI 31) hx hb dX2_integerSize_16 (by decide) ?_
      refine lv_ishr hx hb dX2_integerSize_18 ?_
      refine lv_icmp_eq (tgt := 28) hx hb dX2_integerSize_19 (by decide) (fun c_6 => ?_) (fun c_6 => ?_)
      · refine lv_iload_n hx hb dX2_integerSize_28 rfl (lv_at hl 0 rfl) ?_
        have hP9 : va_P (dC, dI) vwCl (vX2_integerSize cA v ()) _ := hP
        have hD9 : va_D A (vX2_integerSize cA v ()) := hD
        have hq9 : pX2_integerSize v (nI 3) () := congrArg nI (by unfold intSz; simp only [*, if_true, if_false])
        exact W.iret (v := nI 3) hx hb hr (fun t ht hW => ⟨⟨nI 3, (), rfl, hq9, by rw [ht]; exact hP9, va_K.moved hW.alike hK, hD9⟩, hS.F ht⟩) hS.2.2 dX2_integerSize_29
      · refine lv_iinc (v := (nI 4)) (lv' := [(1, .int (nI 4)), (0, .int v)]) hx hb dX2_integerSize_22 hl (k := 0) rfl (by decide) (by decide) rfl (fun ls hl => ?_)
        refine lv_goto (tgt := 2) hx hb dX2_integerSize_25 (by decide) ?_
        refine lv_iload_n hx hb dX2_integerSize_2 rfl (lv_at hl 0 rfl) ?_
        refine lv_iconst (v := nI 4) hx hb dX2_integerSize_3 (by decide) ?_
        refine hl_icmp_ge (tgt := 28) hx hb dX2_integerSize_4 (by decide) (by omega) (by omega) (fun c_7 => ?_) (fun c_7 => absurd c_7 (by decide))
        refine lv_iload_n hx hb dX2_integerSize_28 rfl (lv_at hl 0 rfl) ?_
        have hP9 : va_P (dC, dI) vwCl (vX2_integerSize cA v ()) _ := hP
        have hD9 : va_D A (vX2_integerSize cA v ()) := hD
        have hq9 : pX2_integerSize v (nI 4) () := congrArg nI (by unfold intSz; simp only [*, if_true, if_false])
        exact W.iret (v := nI 4) hx hb hr (fun t ht hW => ⟨⟨nI 4, (), rfl, hq9, by rw [ht]; exact hP9, va_K.moved hW.alike hK, hD9⟩, hS.F ht⟩) hS.2.2 dX2_integerSize_29
abbrev pX2_partSize (v : Int32) : Int32 → Unit → Prop := fun (r : Int32) (u : Unit) => r = nI (partSz v)
abbrev vX2_partSize (cA : ClassId) (v : Int32) : Unit → va_W := fun (u : Unit) => []
abbrev qX2_partSize (dC : Nat → ClassId) (dI : Nat → Nat → Nat) (cA : ClassId) (A : Nat → Prop) (v : Int32) : Array Value → State → Outcome → State → Prop := va_Qi (pX2_partSize v) (fun u => cAft dC dI cA A (vX2_partSize cA v u)) A
set_option maxHeartbeats 4000000 in
set_option maxRecDepth 100000 in
theorem k_X2_partSize (l : Launch) (dC : Nat → ClassId) (dI : Nat → Nat → Nat) (cA : ClassId) (v : Int32) (sz : Nat)  : Met l yX2_partSize wsX2_partSize ({ frames := 0, cells := 0, slots := 0, locals := 0 } : Room) (va_Pc [.int v] (cPre dC dI cA ([]) sz)) (qX2_partSize dC dI cA (va_A ([]) sz) v) 0 0 (va_A ([]) sz) := by
  refine Met.ofW (cc := cX2_partSize) (maxL := 2) (ret := (some .int)) (by decide) rfl ?_
  intro p e s m args below meth c s₁ B hml hv
  obtain ⟨rfl, hsz, hP, hK, hD0⟩ := hv
  have hx := B.exec
  have hb := B.bytes
  have hr := B.returns
  have hts := atoms_spec (ws := wsX2_partSize) B.pre
  have hown : s.vm.findClass RX2 = some m.cls := findClass_of_methodNamed B.named
  have hlocks := B.notSynchronized
  subst hsz
  have hD := hD0.self (sz := s.heap.size)
  generalize hAe : va_A ([]) s.heap.size = A at hD ⊢
  have hA : ∀ q : Nat, s.heap.size ≤ q → A q := fun q h => by rw [← hAe]; exact Or.inr h
  have hS : va_S A s.heap s.heap [] := va_S.rf
  have hl := lv_entry ([.int v]) (n := 2) (Nat.le_of_ble_eq_true rfl)
  rw [lg_entry_eq]
  generalize (lg_sl ([.int v]) ++ List.replicate (2 - (lg_sl ([.int v])).length) Slot.unset).toArray = ls at hl ⊢
  have hl : lv_has ls 2 [(0, .int v)] := hl
  have hP : va_P (dC, dI) vwCl ([]) s.heap := hP
  refine lv_iconst (v := nI 1) hx hb dX2_partSize_0 (by decide) ?_
  refine lv_istore_n (lv' := [(1, .int (nI 1)), (0, .int v)]) hx hb dX2_partSize_1 rfl hl (by decide) rfl (fun ls hl => ?_)
  refine lv_iload_n hx hb dX2_partSize_2 rfl (lv_at hl 0 rfl) ?_
  refine lv_iconst (v := nI 5) hx hb dX2_partSize_3 (by decide) ?_
  refine hl_icmp_ge (tgt := 22) hx hb dX2_partSize_4 (by decide) (by omega) (by omega) (fun c_1 => absurd c_1 (by decide)) (fun c_1 => ?_)
  refine lv_iload_n hx hb dX2_partSize_7 rfl (lv_at hl 1 rfl) ?_
  refine lv_bipush (v := nI 7) hx hb dX2_partSize_8 (by decide) ?_
  refine lv_iload_n hx hb dX2_partSize_10 rfl (lv_at hl 0 rfl) ?_
  refine lv_imul hx hb dX2_partSize_11 ?_
  refine hl_top (show _ = nI 7 by decide) ?_
  refine lv_ishr hx hb dX2_partSize_12 ?_
  refine lv_if_eq (tgt := 22) hx hb dX2_partSize_13 (by decide) (fun c_2 => ?_) (fun c_2 => ?_)
  · refine lv_iload_n hx hb dX2_partSize_22 rfl (lv_at hl 0 rfl) ?_
    have hP9 : va_P (dC, dI) vwCl (vX2_partSize cA v ()) _ := hP
    have hD9 : va_D A (vX2_partSize cA v ()) := hD
    have hq9 : pX2_partSize v (nI 1) () := congrArg nI (by unfold partSz; simp only [*, if_true, if_false])
    exact W.iret (v := nI 1) hx hb hr (fun t ht hW => ⟨⟨nI 1, (), rfl, hq9, by rw [ht]; exact hP9, va_K.moved hW.alike hK, hD9⟩, hS.F ht⟩) hS.2.2 dX2_partSize_23
  · refine lv_iinc (v := (nI 2)) (lv' := [(1, .int (nI 2)), (0, .int v)]) hx hb dX2_partSize_16 hl (k := 0) rfl (by decide) (by decide) rfl (fun ls hl => ?_)
    refine lv_goto (tgt := 2) hx hb dX2_partSize_19 (by decide) ?_
    refine lv_iload_n hx hb dX2_partSize_2 rfl (lv_at hl 0 rfl) ?_
    refine lv_iconst (v := nI 5) hx hb dX2_partSize_3 (by decide) ?_
    refine hl_icmp_ge (tgt := 22) hx hb dX2_partSize_4 (by decide) (by omega) (by omega) (fun c_3 => absurd c_3 (by decide)) (fun c_3 => ?_)
    refine lv_iload_n hx hb dX2_partSize_7 rfl (lv_at hl 1 rfl) ?_
    refine lv_bipush (v := nI 7) hx hb dX2_partSize_8 (by decide) ?_
    refine lv_iload_n hx hb dX2_partSize_10 rfl (lv_at hl 0 rfl) ?_
    refine lv_imul hx hb dX2_partSize_11 ?_
    refine hl_top (show _ = nI 14 by decide) ?_
    refine lv_ishr hx hb dX2_partSize_12 ?_
    refine lv_if_eq (tgt := 22) hx hb dX2_partSize_13 (by decide) (fun c_4 => ?_) (fun c_4 => ?_)
    · refine lv_iload_n hx hb dX2_partSize_22 rfl (lv_at hl 0 rfl) ?_
      have hP9 : va_P (dC, dI) vwCl (vX2_partSize cA v ()) _ := hP
      have hD9 : va_D A (vX2_partSize cA v ()) := hD
      have hq9 : pX2_partSize v (nI 2) () := congrArg nI (by unfold partSz; simp only [*, if_true, if_false])
      exact W.iret (v := nI 2) hx hb hr (fun t ht hW => ⟨⟨nI 2, (), rfl, hq9, by rw [ht]; exact hP9, va_K.moved hW.alike hK, hD9⟩, hS.F ht⟩) hS.2.2 dX2_partSize_23
    · refine lv_iinc (v := (nI 3)) (lv' := [(1, .int (nI 3)), (0, .int v)]) hx hb dX2_partSize_16 hl (k := 0) rfl (by decide) (by decide) rfl (fun ls hl => ?_)
      refine lv_goto (tgt := 2) hx hb dX2_partSize_19 (by decide) ?_
      refine lv_iload_n hx hb dX2_partSize_2 rfl (lv_at hl 0 rfl) ?_
      refine lv_iconst (v := nI 5) hx hb dX2_partSize_3 (by decide) ?_
      refine hl_icmp_ge (tgt := 22) hx hb dX2_partSize_4 (by decide) (by omega) (by omega) (fun c_5 => absurd c_5 (by decide)) (fun c_5 => ?_)
      refine lv_iload_n hx hb dX2_partSize_7 rfl (lv_at hl 1 rfl) ?_
      refine lv_bipush (v := nI 7) hx hb dX2_partSize_8 (by decide) ?_
      refine lv_iload_n hx hb dX2_partSize_10 rfl (lv_at hl 0 rfl) ?_
      refine lv_imul hx hb dX2_partSize_11 ?_
      refine hl_top (show _ = nI 21 by decide) ?_
      refine lv_ishr hx hb dX2_partSize_12 ?_
      refine lv_if_eq (tgt := 22) hx hb dX2_partSize_13 (by decide) (fun c_6 => ?_) (fun c_6 => ?_)
      · refine lv_iload_n hx hb dX2_partSize_22 rfl (lv_at hl 0 rfl) ?_
        have hP9 : va_P (dC, dI) vwCl (vX2_partSize cA v ()) _ := hP
        have hD9 : va_D A (vX2_partSize cA v ()) := hD
        have hq9 : pX2_partSize v (nI 3) () := congrArg nI (by unfold partSz; simp only [*, if_true, if_false])
        exact W.iret (v := nI 3) hx hb hr (fun t ht hW => ⟨⟨nI 3, (), rfl, hq9, by rw [ht]; exact hP9, va_K.moved hW.alike hK, hD9⟩, hS.F ht⟩) hS.2.2 dX2_partSize_23
      · refine lv_iinc (v := (nI 4)) (lv' := [(1, .int (nI 4)), (0, .int v)]) hx hb dX2_partSize_16 hl (k := 0) rfl (by decide) (by decide) rfl (fun ls hl => ?_)
        refine lv_goto (tgt := 2) hx hb dX2_partSize_19 (by decide) ?_
        refine lv_iload_n hx hb dX2_partSize_2 rfl (lv_at hl 0 rfl) ?_
        refine lv_iconst (v := nI 5) hx hb dX2_partSize_3 (by decide) ?_
        refine hl_icmp_ge (tgt := 22) hx hb dX2_partSize_4 (by decide) (by omega) (by omega) (fun c_7 => absurd c_7 (by decide)) (fun c_7 => ?_)
        refine lv_iload_n hx hb dX2_partSize_7 rfl (lv_at hl 1 rfl) ?_
        refine lv_bipush (v := nI 7) hx hb dX2_partSize_8 (by decide) ?_
        refine lv_iload_n hx hb dX2_partSize_10 rfl (lv_at hl 0 rfl) ?_
        refine lv_imul hx hb dX2_partSize_11 ?_
        refine hl_top (show _ = nI 28 by decide) ?_
        refine lv_ishr hx hb dX2_partSize_12 ?_
        refine lv_if_eq (tgt := 22) hx hb dX2_partSize_13 (by decide) (fun c_8 => ?_) (fun c_8 => ?_)
        · refine lv_iload_n hx hb dX2_partSize_22 rfl (lv_at hl 0 rfl) ?_
          have hP9 : va_P (dC, dI) vwCl (vX2_partSize cA v ()) _ := hP
          have hD9 : va_D A (vX2_partSize cA v ()) := hD
          have hq9 : pX2_partSize v (nI 4) () := congrArg nI (by unfold partSz; simp only [*, if_true, if_false])
          exact W.iret (v := nI 4) hx hb hr (fun t ht hW => ⟨⟨nI 4, (), rfl, hq9, by rw [ht]; exact hP9, va_K.moved hW.alike hK, hD9⟩, hS.F ht⟩) hS.2.2 dX2_partSize_23
        · refine lv_iinc (v := (nI 5)) (lv' := [(1, .int (nI 5)), (0, .int v)]) hx hb dX2_partSize_16 hl (k := 0) rfl (by decide) (by decide) rfl (fun ls hl => ?_)
          refine lv_goto (tgt := 2) hx hb dX2_partSize_19 (by decide) ?_
          refine lv_iload_n hx hb dX2_partSize_2 rfl (lv_at hl 0 rfl) ?_
          refine lv_iconst (v := nI 5) hx hb dX2_partSize_3 (by decide) ?_
          refine hl_icmp_ge (tgt := 22) hx hb dX2_partSize_4 (by decide) (by omega) (by omega) (fun c_9 => ?_) (fun c_9 => absurd c_9 (by decide))
          refine lv_iload_n hx hb dX2_partSize_22 rfl (lv_at hl 0 rfl) ?_
          have hP9 : va_P (dC, dI) vwCl (vX2_partSize cA v ()) _ := hP
          have hD9 : va_D A (vX2_partSize cA v ()) := hD
          have hq9 : pX2_partSize v (nI 5) () := congrArg nI (by unfold partSz; simp only [*, if_true, if_false])
          exact W.iret (v := nI 5) hx hb hr (fun t ht hW => ⟨⟨nI 5, (), rfl, hq9, by rw [ht]; exact hP9, va_K.moved hW.alike hK, hD9⟩, hS.F ht⟩) hS.2.2 dX2_partSize_23
abbrev pX2_byteAt (v0 : Nat) (v1 : Nat) (v2 : Nat) (bt : Nat → Nat) (wz : Nat) (op : Nat → Nat) (dp : Nat) (i : Int32) : Int32 → Unit → Prop := fun (r : Int32) (u : Unit) => r = if isNd wz i then nI (bt i.toNatClampNeg) else -1
abbrev vX2_byteAt (cA : ClassId) (v0 : Nat) (v1 : Nat) (v2 : Nat) (bt : Nat → Nat) (wz : Nat) (op : Nat → Nat) (dp : Nat) (i : Int32) : Unit → va_W := fun (u : Unit) => wW cA v0 v1 v2 bt wz op dp
abbrev qX2_byteAt (dC : Nat → ClassId) (dI : Nat → Nat → Nat) (cA : ClassId) (A : Nat → Prop) (v0 : Nat) (v1 : Nat) (v2 : Nat) (bt : Nat → Nat) (wz : Nat) (op : Nat → Nat) (dp : Nat) (i : Int32) : Array Value → State → Outcome → State → Prop := va_Qi (pX2_byteAt v0 v1 v2 bt wz op dp i) (fun u => cAft dC dI cA A (vX2_byteAt cA v0 v1 v2 bt wz op dp i u)) A
set_option maxHeartbeats 4000000 in
set_option maxRecDepth 100000 in
theorem k_X2_byteAt (l : Launch) (dC : Nat → ClassId) (dI : Nat → Nat → Nat) (cA : ClassId) (v0 : Nat) (v1 : Nat) (v2 : Nat) (bt : Nat → Nat) (wz : Nat) (op : Nat → Nat) (dp : Nat) (i : Int32) (sz : Nat) (hwz : wz ≤ 300) : Met l yX2_byteAt wsX2_byteAt ({ frames := 0, cells := 0, slots := 0, locals := 0 } : Room) (va_Pc [.ref v0, .int i] (cPre dC dI cA (wW cA v0 v1 v2 bt wz op dp) sz)) (qX2_byteAt dC dI cA (va_A (wW cA v0 v1 v2 bt wz op dp) sz) v0 v1 v2 bt wz op dp i) 0 0 (va_A (wW cA v0 v1 v2 bt wz op dp) sz) := by
  refine Met.ofW (cc := cX2_byteAt) (maxL := 2) (ret := (some .int)) (by decide) rfl ?_
  intro p e s m args below meth c s₁ B hml hv
  obtain ⟨rfl, hsz, hP, hK, hD0⟩ := hv
  have hx := B.exec
  have hb := B.bytes
  have hr := B.returns
  have hts := atoms_spec (ws := wsX2_byteAt) B.pre
  have hown : s.vm.findClass RX2 = some m.cls := findClass_of_methodNamed B.named
  have hlocks := B.notSynchronized
  subst hsz
  have hD := hD0.self (sz := s.heap.size)
  generalize hAe : va_A (wW cA v0 v1 v2 bt wz op dp) s.heap.size = A at hD ⊢
  have hA : ∀ q : Nat, s.heap.size ≤ q → A q := fun q h => by rw [← hAe]; exact Or.inr h
  have hS : va_S A s.heap s.heap [] := va_S.rf
  have hl := lv_entry ([.ref v0, .int i]) (n := 2) (Nat.le_of_ble_eq_true rfl)
  rw [lg_entry_eq]
  generalize (lg_sl ([.ref v0, .int i]) ++ List.replicate (2 - (lg_sl ([.ref v0, .int i])).length) Slot.unset).toArray = ls at hl ⊢
  have hl : lv_has ls 2 [(0, .ref v0), (1, .int i)] := hl
  have hinX2 : ∀ w ∈ wsX20, w ∈ wsX2_byteAt := fun _ h => List.mem_cons_of_mem _ (List.mem_append_right _ h)
  have hf_9 := hts (.fieldLink RX2 9 "DerDesk$Writer" "bytes" "[I") (by decide +kernel)
  have hf_15 := hts (.fieldLink RX2 15 "DerDesk$Writer" "size" "I") (by decide +kernel)
  have hP : va_P (dC, dI) vwCl (wW cA v0 v1 v2 bt wz op dp) s.heap := hP
  refine lv_iload_n hx hb dX2_byteAt_0 rfl (lv_at hl 1 rfl) ?_
  refine lv_if_lt (tgt := 21) hx hb dX2_byteAt_1 (by decide) (fun c_1 => ?_) (fun c_1 => ?_)
  · refine lv_iconst (v := (-1)) hx hb dX2_byteAt_21 (by decide) ?_
    have hP9 : va_P (dC, dI) vwCl (vX2_byteAt cA v0 v1 v2 bt wz op dp i ()) _ := hP
    have hD9 : va_D A (vX2_byteAt cA v0 v1 v2 bt wz op dp i ()) := hD
    have hq9 : pX2_byteAt v0 v1 v2 bt wz op dp i ((-1)) () := (if_neg (fun h => by first | exact absurd (by assumption) h.1 | exact absurd h.2 (Int32.not_lt.mpr (by assumption)))).symm
    exact W.iret (v := (-1)) hx hb hr (fun t ht hW => ⟨⟨(-1), (), rfl, hq9, by rw [ht]; exact hP9, va_K.moved hW.alike hK, hD9⟩, hS.F ht⟩) hS.2.2 dX2_byteAt_22
  · refine lv_iload_n hx hb dX2_byteAt_4 rfl (lv_at hl 1 rfl) ?_
    refine lv_aload_n hx hb dX2_byteAt_5 rfl (lv_at hl 0 rfl) ?_
    refine va_get (D := (dC, dI)) (ci := 1) (v := .int (nI wz)) (C := RX2) (T := TX2) (N := 4) hx hb hts hinX2 hown hK hP 0 rfl rfl 1 (by decide) hf_15 (fun _ h9 => h9) rfl dX2_byteAt_6 ?_
    refine lv_icmp_ge (tgt := 21) hx hb dX2_byteAt_9 (by decide) (fun c_2 => ?_) (fun c_2 => ?_)
    · refine lv_iconst (v := (-1)) hx hb dX2_byteAt_21 (by decide) ?_
      have hP9 : va_P (dC, dI) vwCl (vX2_byteAt cA v0 v1 v2 bt wz op dp i ()) _ := hP
      have hD9 : va_D A (vX2_byteAt cA v0 v1 v2 bt wz op dp i ()) := hD
      have hq9 : pX2_byteAt v0 v1 v2 bt wz op dp i ((-1)) () := (if_neg (fun h => by first | exact absurd (by assumption) h.1 | exact absurd h.2 (Int32.not_lt.mpr (by assumption)))).symm
      exact W.iret (v := (-1)) hx hb hr (fun t ht hW => ⟨⟨(-1), (), rfl, hq9, by rw [ht]; exact hP9, va_K.moved hW.alike hK, hD9⟩, hS.F ht⟩) hS.2.2 dX2_byteAt_22
    · refine lv_aload_n hx hb dX2_byteAt_12 rfl (lv_at hl 0 rfl) ?_
      refine va_get (D := (dC, dI)) (ci := 1) (v := .ref v1) (C := RX2) (T := TX2) (N := 4) hx hb hts hinX2 hown hK hP 0 rfl rfl 0 (by decide) hf_9 (fun _ h9 => h9) rfl dX2_byteAt_13 ?_
      refine lv_iload_n hx hb dX2_byteAt_16 rfl (lv_at hl 1 rfl) ?_
      have hlt : i < nI wz := Int32.not_le.mp (by assumption)
      have hnl := cl_lt (by assumption) (by omega) hlt
      refine hl_top (cl_of (by assumption)) ?_
      refine hl_iald hx hb hK hP 1 0 rfl rfl (by omega) (by decide) dX2_byteAt_17 ?_
      refine lv_goto (tgt := 22) hx hb dX2_byteAt_18 (by decide) ?_
      have hP9 : va_P (dC, dI) vwCl (vX2_byteAt cA v0 v1 v2 bt wz op dp i ()) _ := hP
      have hD9 : va_D A (vX2_byteAt cA v0 v1 v2 bt wz op dp i ()) := hD
      have hq9 : pX2_byteAt v0 v1 v2 bt wz op dp i (nI (bt i.toNatClampNeg)) () := (if_pos ⟨by assumption, hlt⟩).symm
      exact W.iret (v := nI (bt i.toNatClampNeg)) hx hb hr (fun t ht hW => ⟨⟨nI (bt i.toNatClampNeg), (), rfl, hq9, by rw [ht]; exact hP9, va_K.moved hW.alike hK, hD9⟩, hS.F ht⟩) hS.2.2 dX2_byteAt_22
end
section
abbrev pX2_addInteger (v0 : Nat) (v1 : Nat) (v2 : Nat) (bt : Nat → Nat) (wz : Nat) (op : Nat → Nat) (dp : Nat) (v : Int32) : Int32 → (Nat → Nat) × Nat → Prop := fun (r : Int32) (u : (Nat → Nat) × Nat) => match u with | (bt2, wz2) => r = piC v dp wz bt op ∧ ((piC v dp wz bt op = 0 ∧ wz + intSz v ≤ 300 ∧ bt2 = pB bt wz (byN v) (intSz v) (intSz v) ∧ wz2 = wz + intSz v) ∨ (piC v dp wz bt op ≠ 0 ∧ bt2 = bt ∧ wz2 = wz))
abbrev vX2_addInteger (cA : ClassId) (v0 : Nat) (v1 : Nat) (v2 : Nat) (bt : Nat → Nat) (wz : Nat) (op : Nat → Nat) (dp : Nat) (v : Int32) : (Nat → Nat) × Nat → va_W := fun (u : (Nat → Nat) × Nat) => match u with | (bt2, wz2) => wW cA v0 v1 v2 bt2 wz2 op dp
abbrev qX2_addInteger (dC : Nat → ClassId) (dI : Nat → Nat → Nat) (cA : ClassId) (A : Nat → Prop) (v0 : Nat) (v1 : Nat) (v2 : Nat) (bt : Nat → Nat) (wz : Nat) (op : Nat → Nat) (dp : Nat) (v : Int32) : Array Value → State → Outcome → State → Prop := va_Qi (pX2_addInteger v0 v1 v2 bt wz op dp v) (fun u => cAft dC dI cA A (vX2_addInteger cA v0 v1 v2 bt wz op dp v u)) A
set_option maxHeartbeats 4000000 in
set_option maxRecDepth 100000 in
theorem k_X2_addInteger (l : Launch) (dC : Nat → ClassId) (dI : Nat → Nat → Nat) (cA : ClassId) (v0 : Nat) (v1 : Nat) (v2 : Nat) (bt : Nat → Nat) (wz : Nat) (op : Nat → Nat) (dp : Nat) (v : Int32) (sz : Nat) (hbt : ∀ j, bt j < 256) (hwz : wz ≤ 300) (hdp : dp ≤ 16) (hop : ∀ j, j < dp → op j < wz) : Met l yX2_addInteger wsX2_addInteger ({ frames := 1, cells := 0, slots := 0, locals := 21 } : Room) (va_Pc [.ref v0, .int v] (cPre dC dI cA (wW cA v0 v1 v2 bt wz op dp) sz)) (qX2_addInteger dC dI cA (va_A (wW cA v0 v1 v2 bt wz op dp) sz) v0 v1 v2 bt wz op dp v) 0 0 (va_A (wW cA v0 v1 v2 bt wz op dp) sz) := by
  refine Met.ofW (cc := cX2_addInteger) (maxL := 4) (ret := (some .int)) (by decide) rfl ?_
  intro p e s m args below meth c s₁ B hml hv
  obtain ⟨rfl, hsz, hP, hK, hD0⟩ := hv
  have hx := B.exec
  have hb := B.bytes
  have hr := B.returns
  have hts := atoms_spec (ws := wsX2_addInteger) B.pre
  have hown : s.vm.findClass RX2 = some m.cls := findClass_of_methodNamed B.named
  have hlocks := B.notSynchronized
  subst hsz
  have hD := hD0.self (sz := s.heap.size)
  generalize hAe : va_A (wW cA v0 v1 v2 bt wz op dp) s.heap.size = A at hD ⊢
  have hA : ∀ q : Nat, s.heap.size ≤ q → A q := fun q h => by rw [← hAe]; exact Or.inr h
  have hS : va_S A s.heap s.heap [] := va_S.rf
  have hl := lv_entry ([.ref v0, .int v]) (n := 4) (Nat.le_of_ble_eq_true rfl)
  rw [lg_entry_eq]
  generalize (lg_sl ([.ref v0, .int v]) ++ List.replicate (4 - (lg_sl ([.ref v0, .int v])).length) Slot.unset).toArray = ls at hl ⊢
  have hl : lv_has ls 4 [(0, .ref v0), (1, .int v)] := hl
  have hinX2 : ∀ w ∈ wsX20, w ∈ wsX2_addInteger := fun _ h => List.mem_cons_of_mem _ (List.mem_append_right _ h)
  have hP : va_P (dC, dI) vwCl (wW cA v0 v1 v2 bt wz op dp) s.heap := hP
  refine lv_aload_n hx hb dX2_addInteger_0 rfl (lv_at hl 0 rfl) ?_
  refine cl_Vi (As := []) (rest := []) (wr := []) ⟨hx, hb, hml, hown, hts⟩ (k_X2_openTag l dC dI cA v0 v1 v2 bt wz op dp _ hbt hwz hdp hop) (cwV 0 hts gX2_addInteger_X2_openTag rfl rfl rfl (by decide +kernel) ⟨Nat.le_of_ble_eq_true rfl, Nat.le_of_ble_eq_true rfl⟩) hK hP hD hS hA [0, 1, 2] [] rfl rfl (by decide) (by decide) (by decide) (ci := 1) (q0 := 0) rfl rfl rfl rfl hl.1 rfl (Nat.le_of_ble_eq_true rfl) dX2_addInteger_1 ⟨Nat.le_of_ble_eq_true rfl, Nat.le_of_ble_eq_true rfl⟩ (fun r_1 u_1 H locs hw_1 hP hD hS => ?_)
  have hP : va_P (dC, dI) vwCl (wW cA v0 v1 v2 bt wz op dp) H := hP
  have hD : va_D A (wW cA v0 v1 v2 bt wz op dp) := hD
  have hw_1 : (dp = 0 ∧ r_1 = -1) ∨ (0 < dp ∧ r_1 = nI (bt (op (dp - 1)))) := hw_1
  rcases hw_1 with ⟨hd0_1, e1_1⟩ | ⟨hd0_1, e1_1⟩
  · have e1_1 := e1_1.symm
    subst e1_1
    refine lv_iconst (v := nI 2) hx hb dX2_addInteger_4 (by decide) ?_
    refine lv_icmp_ne (tgt := 15) hx hb dX2_addInteger_5 (by decide) (fun c_2 => ?_) (fun c_2 => absurd c_2 (by decide))
    refine lv_bipush (v := (-2)) hx hb dX2_addInteger_15 (by decide) ?_
    have hP9 : va_P (dC, dI) vwCl (vX2_addInteger cA v0 v1 v2 bt wz op dp v (bt, wz)) _ := hP
    have hD9 : va_D A (vX2_addInteger cA v0 v1 v2 bt wz op dp v (bt, wz)) := hD
    have hq9 : pX2_addInteger v0 v1 v2 bt wz op dp v ((-2)) (bt, wz) := (by have e : piC v dp wz bt op = (-2) := (by unfold piC; rw [if_pos (by omega)]); exact ⟨e.symm, Or.inr ⟨by rw [e]; decide, rfl, rfl⟩⟩)
    exact W.iret (v := (-2)) hx hb hr (fun t ht hW => ⟨⟨(-2), (bt, wz), rfl, hq9, by rw [ht]; exact hP9, va_K.moved hW.alike hK, hD9⟩, hS.F ht⟩) hS.2.2 dX2_addInteger_17
  · have e1_1 := e1_1.symm
    subst e1_1
    have hv_1 := hbt (op (dp - 1))
    refine lv_iconst (v := nI 2) hx hb dX2_addInteger_4 (by decide) ?_
    refine hl_icmp_ne (tgt := 15) hx hb dX2_addInteger_5 (by decide) (by omega) (by omega) (fun c_3 => ?_) (fun c_3 => ?_)
    · refine lv_bipush (v := (-2)) hx hb dX2_addInteger_15 (by decide) ?_
      have hP9 : va_P (dC, dI) vwCl (vX2_addInteger cA v0 v1 v2 bt wz op dp v (bt, wz)) _ := hP
      have hD9 : va_D A (vX2_addInteger cA v0 v1 v2 bt wz op dp v (bt, wz)) := hD
      have hq9 : pX2_addInteger v0 v1 v2 bt wz op dp v ((-2)) (bt, wz) := (by have e : piC v dp wz bt op = (-2) := (by unfold piC; rw [if_pos (by omega)]); exact ⟨e.symm, Or.inr ⟨by rw [e]; decide, rfl, rfl⟩⟩)
      exact W.iret (v := (-2)) hx hb hr (fun t ht hW => ⟨⟨(-2), (bt, wz), rfl, hq9, by rw [ht]; exact hP9, va_K.moved hW.alike hK, hD9⟩, hS.F ht⟩) hS.2.2 dX2_addInteger_17
    · refine lv_aload_n hx hb dX2_addInteger_8 rfl (lv_at hl 0 rfl) ?_
      refine cl_Vi (As := []) (rest := []) (wr := []) ⟨hx, hb, hml, hown, hts⟩ (k_X2_openLength l dC dI cA v0 v1 v2 bt wz op dp _ hwz hdp hop) (cwV 0 hts gX2_addInteger_X2_openLength rfl rfl rfl (by decide +kernel) ⟨Nat.le_of_ble_eq_true rfl, Nat.le_of_ble_eq_true rfl⟩) hK hP hD hS hA [0, 1, 2] [] rfl rfl (by decide) (by decide) (by decide) (ci := 1) (q0 := 0) rfl rfl rfl rfl hl.1 rfl (Nat.le_of_ble_eq_true rfl) dX2_addInteger_9 ⟨Nat.le_of_ble_eq_true rfl, Nat.le_of_ble_eq_true rfl⟩ (fun r_4 u_4 H locs hw_4 hP hD hS => ?_)
      have hP : va_P (dC, dI) vwCl (wW cA v0 v1 v2 bt wz op dp) H := hP
      have hD : va_D A (wW cA v0 v1 v2 bt wz op dp) := hD
      have hw_4 : r_4 = nI (if dp = 0 then 0 else wz - op (dp - 1) - 1) := hw_4
      have hw_4 := hw_4.symm
      subst hw_4
      have hol := hop (dp - 1) (by omega)
      refine hl_top (show nI (if dp = 0 then 0 else wz - op (dp - 1) - 1) = nI (wz - op (dp - 1) - 1) by rw [if_neg (by omega)]) ?_
      refine hl_if_le (tgt := 18) hx hb dX2_addInteger_12 (by decide) (by omega) (fun c_5 => ?_) (fun c_5 => ?_)
      · refine lv_iload_n hx hb dX2_addInteger_18 rfl (lv_at hl 1 rfl) ?_
        refine cl_Si (As := [.int v]) (rest := []) (wr := [(v0, .inr (1, [.ref v1, .int (nI wz), .ref v2, .int (nI dp)])), (v1, .inl (cA, 300, .inl (nA bt))), (v2, .inl (cA, 16, .inl (nA op)))]) ⟨hx, hb, hml, hown, hts⟩ (k_X2_integerSize l dC dI cA v _ ) (va_cwS 1 hts gX2_addInteger_X2_integerSize rfl rfl rfl (by decide +kernel) ⟨Nat.le_of_ble_eq_true rfl, Nat.le_of_ble_eq_true rfl⟩) hK hP hD hS hA [] [0, 1, 2] rfl rfl (by decide) (by decide) (by decide) rfl hl.1 rfl (Nat.le_of_ble_eq_true rfl) dX2_addInteger_19 ⟨Nat.le_of_ble_eq_true rfl, Nat.le_of_ble_eq_true rfl⟩ (fun r_6 u_6 H locs hw_6 hP hD hS => ?_)
        have hP : va_P (dC, dI) vwCl (wW cA v0 v1 v2 bt wz op dp) H := hP
        have hD : va_D A (wW cA v0 v1 v2 bt wz op dp) := hD
        have hw_6 : r_6 = nI (intSz v) := hw_6
        have hw_6 := hw_6.symm
        subst hw_6
        have hz_6 := intSz_le v
        refine lv_istore_n (lv' := [(2, .int (nI (intSz v))), (0, .ref v0), (1, .int v)]) hx hb dX2_addInteger_22 rfl hl (by decide) rfl (fun ls hl => ?_)
        refine lv_aload_n hx hb dX2_addInteger_23 rfl (lv_at hl 1 rfl) ?_
        refine lv_iload_n hx hb dX2_addInteger_24 rfl (lv_at hl 0 rfl) ?_
        refine cl_Vi (As := [.int (nI (intSz v))]) (rest := []) (wr := []) ⟨hx, hb, hml, hown, hts⟩ (k_X2_hasRoom l dC dI cA v0 v1 v2 bt wz op dp (intSz v) _ hwz (by omega)) (cwV 1 hts gX2_addInteger_X2_hasRoom rfl rfl rfl (by decide +kernel) ⟨Nat.le_of_ble_eq_true rfl, Nat.le_of_ble_eq_true rfl⟩) hK hP hD hS hA [0, 1, 2] [] rfl rfl (by decide) (by decide) (by decide) (ci := 1) (q0 := 0) rfl rfl rfl rfl hl.1 rfl (Nat.le_of_ble_eq_true rfl) dX2_addInteger_25 ⟨Nat.le_of_ble_eq_true rfl, Nat.le_of_ble_eq_true rfl⟩ (fun r_7 u_7 H locs hw_7 hP hD hS => ?_)
        have hP : va_P (dC, dI) vwCl (wW cA v0 v1 v2 bt wz op dp) H := hP
        have hD : va_D A (wW cA v0 v1 v2 bt wz op dp) := hD
        have hw_7 : r_7 = if wz + (intSz v) ≤ 300 then 1 else 0 := hw_7
        have hw_7 := hw_7.symm
        subst hw_7
        refine hl_ifb_ne (tgt := 34) hx hb dX2_addInteger_28 (by decide) (fun c_8 => ?_) (fun c_8 => ?_)
        · refine lv_iload_n hx hb dX2_addInteger_34 rfl (lv_at hl 0 rfl) ?_
          refine lv_iconst (v := nI 1) hx hb dX2_addInteger_35 (by decide) ?_
          refine lv_isub hx hb dX2_addInteger_36 ?_
          rw [show nI (intSz v) - nI 1 = mI (intSz v) from mI_sub (intSz v)]
          refine lv_istore_n (lv' := [(3, .int (mI (intSz v))), (2, .int (nI (intSz v))), (0, .ref v0), (1, .int v)]) hx hb dX2_addInteger_37 rfl hl (by decide) rfl (fun ls hl => ?_)
          have lp_38 : ∀ (nf : Nat) (k : Nat) (bt1 : Nat → Nat) (wz1 : Nat), k < nf → (k ≤ intSz v) → (bt1 = pB bt wz (byN v) (intSz v) (intSz v - k)) → (wz1 = wz + (intSz v - k)) → ∀ (H : Heap) (locs : List Loc) (ls : Array Slot), va_P (dC, dI) vwCl (wW cA v0 v1 v2 bt1 wz1 op dp) H → va_D A (wW cA v0 v1 v2 bt1 wz1 op dp) → va_S A s.heap H locs → lv_has ls 4 [(3, .int (mI k)), (2, .int (nI (intSz v))), (0, .ref v0), (1, .int v)] → W p l e (headSpec wsX2_addInteger ({ frames := 1, cells := 0, slots := 0, locals := 21 } : Room)).room s m ([.ref v0, .int v] : List Value).toArray below meth c H locs 0 0 (MQ below (qX2_addInteger dC dI cA A v0 v1 v2 bt wz op dp v) ([.ref v0, .int v] : List Value).toArray s 0 0 A) (F0 m 38 ls []) := by
            intro nf
            induction nf with
            | zero =>
              intro k bt1 wz1 hm
              exact absurd hm (Nat.not_lt_zero _)
            | succ nf ih_38 =>
              intro k bt1 wz1 hm hk hbt1 hwz1 H locs ls hP hD hS hl
              cases k with
              | zero =>
                refine lv_iload_n hx hb dX2_addInteger_38 rfl (lv_at hl 0 rfl) ?_
                refine lv_if_lt (tgt := 62) hx hb dX2_addInteger_39 (by decide) (fun c_10 => ?_) (fun c_10 => absurd (by decide) c_10)
                refine lv_iconst (v := nI 0) hx hb dX2_addInteger_62 (by decide) ?_
                have hP9 : va_P (dC, dI) vwCl (vX2_addInteger cA v0 v1 v2 bt wz op dp v (bt1, wz1)) _ := hP
                have hD9 : va_D A (vX2_addInteger cA v0 v1 v2 bt wz op dp v (bt1, wz1)) := hD
                have hq9 : pX2_addInteger v0 v1 v2 bt wz op dp v (nI 0) (bt1, wz1) := (by have e : piC v dp wz bt op = 0 := (by unfold piC; rw [if_neg (by omega), if_neg (by omega)]); exact ⟨e.symm, Or.inl ⟨e, by omega, hbt1, by omega⟩⟩)
                exact W.iret (v := nI 0) hx hb hr (fun t ht hW => ⟨⟨nI 0, (bt1, wz1), rfl, hq9, by rw [ht]; exact hP9, va_K.moved hW.alike hK, hD9⟩, hS.F ht⟩) hS.2.2 dX2_addInteger_63
              | succ k =>
                have hl : lv_has ls 4 [(3, .int (nI k)), (2, .int (nI (intSz v))), (0, .ref v0), (1, .int v)] := hl
                refine lv_iload_n hx hb dX2_addInteger_38 rfl (lv_at hl 0 rfl) ?_
                refine hl_if_lt (tgt := 62) hx hb dX2_addInteger_39 (by decide) (by omega) (fun c_11 => absurd c_11 (by omega)) (fun c_11 => ?_)
                refine lv_aload_n hx hb dX2_addInteger_42 rfl (lv_at hl 2 rfl) ?_
                refine lv_iload_n hx hb dX2_addInteger_43 rfl (lv_at hl 3 rfl) ?_
                refine lv_bipush (v := nI 8) hx hb dX2_addInteger_44 (by decide) ?_
                refine lv_iload_n hx hb dX2_addInteger_46 rfl (lv_at hl 0 rfl) ?_
                refine hl_imul hx hb dX2_addInteger_47 ?_
                refine lv_ishr hx hb dX2_addInteger_48 ?_
                refine lv_sipush (v := nI 255) hx hb dX2_addInteger_49 (by decide) ?_
                refine lv_iand hx hb dX2_addInteger_52 ?_
                refine hl_top (byN_eq v k) ?_
                refine cl_Vv (As := [.int (nI (byN v k))]) (rest := []) (wr := []) ⟨hx, hb, hml, hown, hts⟩ (k_X2_append l dC dI cA v0 v1 v2 bt1 wz1 op dp (byN v k) _ (by omega)) (cwV 1 hts gX2_addInteger_X2_append rfl rfl rfl (by decide +kernel) ⟨Nat.le_of_ble_eq_true rfl, Nat.le_of_ble_eq_true rfl⟩) hK hP hD hS hA [0, 1, 2] [] rfl rfl (by decide) (by decide) (by decide) (ci := 1) (q0 := 0) rfl rfl rfl rfl hl.1 rfl (Nat.le_of_ble_eq_true rfl) dX2_addInteger_53 ⟨Nat.le_of_ble_eq_true rfl, Nat.le_of_ble_eq_true rfl⟩ (fun u_12 H locs hw_12 hP hD hS => ?_)
                obtain ⟨bt2_12, wz2_12⟩ := u_12
                have hP : va_P (dC, dI) vwCl (wW cA v0 v1 v2 bt2_12 wz2_12 op dp) H := hP
                have hD : va_D A (wW cA v0 v1 v2 bt2_12 wz2_12 op dp) := hD
                have hw_12 : bt2_12 = va_up bt1 wz1 (byN v k) ∧ wz2_12 = wz1 + 1 := hw_12
                obtain ⟨e0_12, e1_12⟩ := hw_12
                have e0_12 := e0_12.symm
                subst e0_12
                have e1_12 := e1_12.symm
                subst e1_12
                refine lv_iinc (v := (mI k)) (lv' := [(3, .int (mI k)), (2, .int (nI (intSz v))), (0, .ref v0), (1, .int v)]) hx hb dX2_addInteger_56 hl (k := 0) rfl (mI_dec k) (by decide) rfl (fun ls hl => ?_)
                refine lv_goto (tgt := 38) hx hb dX2_addInteger_59 (by decide) ?_
                exact ih_38 k (va_up bt1 wz1 (byN v k)) (wz1 + 1) (by omega) (by omega) (by rw [hbt1, hwz1]; exact pB_step _ _ _ hk) (by omega) _ _ _ hP hD hS (lv_sub hl [0, 1, 2, 3] rfl)
          exact lp_38 ((intSz v) + 1) (intSz v) bt wz (Nat.lt_succ_self _) (by omega) (by rw [Nat.sub_self]; rfl) (by rw [Nat.sub_self]; rfl) _ _ _ hP hD hS (lv_sub hl [0, 1, 2, 3] rfl)
        · refine lv_bipush (v := (-3)) hx hb dX2_addInteger_31 (by decide) ?_
          have hP9 : va_P (dC, dI) vwCl (vX2_addInteger cA v0 v1 v2 bt wz op dp v (bt, wz)) _ := hP
          have hD9 : va_D A (vX2_addInteger cA v0 v1 v2 bt wz op dp v (bt, wz)) := hD
          have hq9 : pX2_addInteger v0 v1 v2 bt wz op dp v ((-3)) (bt, wz) := (by have e : piC v dp wz bt op = (-3) := (by unfold piC; rw [if_neg (by omega), if_pos (by omega)]); exact ⟨e.symm, Or.inr ⟨by rw [e]; decide, rfl, rfl⟩⟩)
          exact W.iret (v := (-3)) hx hb hr (fun t ht hW => ⟨⟨(-3), (bt, wz), rfl, hq9, by rw [ht]; exact hP9, va_K.moved hW.alike hK, hD9⟩, hS.F ht⟩) hS.2.2 dX2_addInteger_33
      · refine lv_bipush (v := (-2)) hx hb dX2_addInteger_15 (by decide) ?_
        have hP9 : va_P (dC, dI) vwCl (vX2_addInteger cA v0 v1 v2 bt wz op dp v (bt, wz)) _ := hP
        have hD9 : va_D A (vX2_addInteger cA v0 v1 v2 bt wz op dp v (bt, wz)) := hD
        have hq9 : pX2_addInteger v0 v1 v2 bt wz op dp v ((-2)) (bt, wz) := (by have e : piC v dp wz bt op = (-2) := (by unfold piC; rw [if_pos (by omega)]); exact ⟨e.symm, Or.inr ⟨by rw [e]; decide, rfl, rfl⟩⟩)
        exact W.iret (v := (-2)) hx hb hr (fun t ht hW => ⟨⟨(-2), (bt, wz), rfl, hq9, by rw [ht]; exact hP9, va_K.moved hW.alike hK, hD9⟩, hS.F ht⟩) hS.2.2 dX2_addInteger_17
abbrev pX2_addPart (v0 : Nat) (v1 : Nat) (v2 : Nat) (bt : Nat → Nat) (wz : Nat) (op : Nat → Nat) (dp : Nat) (v : Int32) : Int32 → (Nat → Nat) × Nat → Prop := fun (r : Int32) (u : (Nat → Nat) × Nat) => match u with | (bt2, wz2) => r = ppC v dp wz bt op ∧ ((ppC v dp wz bt op = 0 ∧ wz + partSz v ≤ 300 ∧ bt2 = pB bt wz (bpN v) (partSz v) (partSz v) ∧ wz2 = wz + partSz v) ∨ (ppC v dp wz bt op ≠ 0 ∧ bt2 = bt ∧ wz2 = wz))
abbrev vX2_addPart (cA : ClassId) (v0 : Nat) (v1 : Nat) (v2 : Nat) (bt : Nat → Nat) (wz : Nat) (op : Nat → Nat) (dp : Nat) (v : Int32) : (Nat → Nat) × Nat → va_W := fun (u : (Nat → Nat) × Nat) => match u with | (bt2, wz2) => wW cA v0 v1 v2 bt2 wz2 op dp
abbrev qX2_addPart (dC : Nat → ClassId) (dI : Nat → Nat → Nat) (cA : ClassId) (A : Nat → Prop) (v0 : Nat) (v1 : Nat) (v2 : Nat) (bt : Nat → Nat) (wz : Nat) (op : Nat → Nat) (dp : Nat) (v : Int32) : Array Value → State → Outcome → State → Prop := va_Qi (pX2_addPart v0 v1 v2 bt wz op dp v) (fun u => cAft dC dI cA A (vX2_addPart cA v0 v1 v2 bt wz op dp v u)) A
set_option maxHeartbeats 4000000 in
set_option maxRecDepth 100000 in
theorem k_X2_addPart (l : Launch) (dC : Nat → ClassId) (dI : Nat → Nat → Nat) (cA : ClassId) (v0 : Nat) (v1 : Nat) (v2 : Nat) (bt : Nat → Nat) (wz : Nat) (op : Nat → Nat) (dp : Nat) (v : Int32) (sz : Nat) (hbt : ∀ j, bt j < 256) (hwz : wz ≤ 300) (hdp : dp ≤ 16) (hop : ∀ j, j < dp → op j < wz) : Met l yX2_addPart wsX2_addPart ({ frames := 1, cells := 0, slots := 0, locals := 21 } : Room) (va_Pc [.ref v0, .int v] (cPre dC dI cA (wW cA v0 v1 v2 bt wz op dp) sz)) (qX2_addPart dC dI cA (va_A (wW cA v0 v1 v2 bt wz op dp) sz) v0 v1 v2 bt wz op dp v) 0 0 (va_A (wW cA v0 v1 v2 bt wz op dp) sz) := by
  refine Met.ofW (cc := cX2_addPart) (maxL := 5) (ret := (some .int)) (by decide) rfl ?_
  intro p e s m args below meth c s₁ B hml hv
  obtain ⟨rfl, hsz, hP, hK, hD0⟩ := hv
  have hx := B.exec
  have hb := B.bytes
  have hr := B.returns
  have hts := atoms_spec (ws := wsX2_addPart) B.pre
  have hown : s.vm.findClass RX2 = some m.cls := findClass_of_methodNamed B.named
  have hlocks := B.notSynchronized
  subst hsz
  have hD := hD0.self (sz := s.heap.size)
  generalize hAe : va_A (wW cA v0 v1 v2 bt wz op dp) s.heap.size = A at hD ⊢
  have hA : ∀ q : Nat, s.heap.size ≤ q → A q := fun q h => by rw [← hAe]; exact Or.inr h
  have hS : va_S A s.heap s.heap [] := va_S.rf
  have hl := lv_entry ([.ref v0, .int v]) (n := 5) (Nat.le_of_ble_eq_true rfl)
  rw [lg_entry_eq]
  generalize (lg_sl ([.ref v0, .int v]) ++ List.replicate (5 - (lg_sl ([.ref v0, .int v])).length) Slot.unset).toArray = ls at hl ⊢
  have hl : lv_has ls 5 [(0, .ref v0), (1, .int v)] := hl
  have hinX2 : ∀ w ∈ wsX20, w ∈ wsX2_addPart := fun _ h => List.mem_cons_of_mem _ (List.mem_append_right _ h)
  have hP : va_P (dC, dI) vwCl (wW cA v0 v1 v2 bt wz op dp) s.heap := hP
  refine lv_iload_n hx hb dX2_addPart_0 rfl (lv_at hl 1 rfl) ?_
  refine lv_if_ge (tgt := 6) hx hb dX2_addPart_1 (by decide) (fun c_1 => ?_) (fun c_1 => ?_)
  · refine lv_aload_n hx hb dX2_addPart_6 rfl (lv_at hl 0 rfl) ?_
    refine cl_Vi (As := []) (rest := []) (wr := []) ⟨hx, hb, hml, hown, hts⟩ (k_X2_openTag l dC dI cA v0 v1 v2 bt wz op dp _ hbt hwz hdp hop) (cwV 0 hts gX2_addPart_X2_openTag rfl rfl rfl (by decide +kernel) ⟨Nat.le_of_ble_eq_true rfl, Nat.le_of_ble_eq_true rfl⟩) hK hP hD hS hA [0, 1, 2] [] rfl rfl (by decide) (by decide) (by decide) (ci := 1) (q0 := 0) rfl rfl rfl rfl hl.1 rfl (Nat.le_of_ble_eq_true rfl) dX2_addPart_7 ⟨Nat.le_of_ble_eq_true rfl, Nat.le_of_ble_eq_true rfl⟩ (fun r_2 u_2 H locs hw_2 hP hD hS => ?_)
    have hP : va_P (dC, dI) vwCl (wW cA v0 v1 v2 bt wz op dp) H := hP
    have hD : va_D A (wW cA v0 v1 v2 bt wz op dp) := hD
    have hw_2 : (dp = 0 ∧ r_2 = -1) ∨ (0 < dp ∧ r_2 = nI (bt (op (dp - 1)))) := hw_2
    rcases hw_2 with ⟨hd0_2, e1_2⟩ | ⟨hd0_2, e1_2⟩
    · have e1_2 := e1_2.symm
      subst e1_2
      refine lv_bipush (v := nI 6) hx hb dX2_addPart_10 (by decide) ?_
      refine lv_icmp_eq (tgt := 18) hx hb dX2_addPart_12 (by decide) (fun c_3 => absurd c_3 (by decide)) (fun c_3 => ?_)
      refine lv_bipush (v := (-2)) hx hb dX2_addPart_15 (by decide) ?_
      have hP9 : va_P (dC, dI) vwCl (vX2_addPart cA v0 v1 v2 bt wz op dp v (bt, wz)) _ := hP
      have hD9 : va_D A (vX2_addPart cA v0 v1 v2 bt wz op dp v (bt, wz)) := hD
      have hq9 : pX2_addPart v0 v1 v2 bt wz op dp v ((-2)) (bt, wz) := (by have e : ppC v dp wz bt op = (-2) := (by unfold ppC; rw [if_neg (Int32.not_lt.mpr (by assumption)), if_pos (by omega)]); exact ⟨e.symm, Or.inr ⟨by rw [e]; decide, rfl, rfl⟩⟩)
      exact W.iret (v := (-2)) hx hb hr (fun t ht hW => ⟨⟨(-2), (bt, wz), rfl, hq9, by rw [ht]; exact hP9, va_K.moved hW.alike hK, hD9⟩, hS.F ht⟩) hS.2.2 dX2_addPart_17
    · have e1_2 := e1_2.symm
      subst e1_2
      have hv_2 := hbt (op (dp - 1))
      refine lv_bipush (v := nI 6) hx hb dX2_addPart_10 (by decide) ?_
      refine hl_icmp_eq (tgt := 18) hx hb dX2_addPart_12 (by decide) (by omega) (by omega) (fun c_4 => ?_) (fun c_4 => ?_)
      · refine lv_iload_n hx hb dX2_addPart_18 rfl (lv_at hl 1 rfl) ?_
        refine cl_Si (As := [.int v]) (rest := []) (wr := [(v0, .inr (1, [.ref v1, .int (nI wz), .ref v2, .int (nI dp)])), (v1, .inl (cA, 300, .inl (nA bt))), (v2, .inl (cA, 16, .inl (nA op)))]) ⟨hx, hb, hml, hown, hts⟩ (k_X2_partSize l dC dI cA v _ ) (va_cwS 1 hts gX2_addPart_X2_partSize rfl rfl rfl (by decide +kernel) ⟨Nat.le_of_ble_eq_true rfl, Nat.le_of_ble_eq_true rfl⟩) hK hP hD hS hA [] [0, 1, 2] rfl rfl (by decide) (by decide) (by decide) rfl hl.1 rfl (Nat.le_of_ble_eq_true rfl) dX2_addPart_19 ⟨Nat.le_of_ble_eq_true rfl, Nat.le_of_ble_eq_true rfl⟩ (fun r_5 u_5 H locs hw_5 hP hD hS => ?_)
        have hP : va_P (dC, dI) vwCl (wW cA v0 v1 v2 bt wz op dp) H := hP
        have hD : va_D A (wW cA v0 v1 v2 bt wz op dp) := hD
        have hw_5 : r_5 = nI (partSz v) := hw_5
        have hw_5 := hw_5.symm
        subst hw_5
        have hz_5 := partSz_le v
        refine lv_istore_n (lv' := [(2, .int (nI (partSz v))), (0, .ref v0), (1, .int v)]) hx hb dX2_addPart_22 rfl hl (by decide) rfl (fun ls hl => ?_)
        refine lv_aload_n hx hb dX2_addPart_23 rfl (lv_at hl 1 rfl) ?_
        refine lv_iload_n hx hb dX2_addPart_24 rfl (lv_at hl 0 rfl) ?_
        refine cl_Vi (As := [.int (nI (partSz v))]) (rest := []) (wr := []) ⟨hx, hb, hml, hown, hts⟩ (k_X2_hasRoom l dC dI cA v0 v1 v2 bt wz op dp (partSz v) _ hwz (by omega)) (cwV 1 hts gX2_addPart_X2_hasRoom rfl rfl rfl (by decide +kernel) ⟨Nat.le_of_ble_eq_true rfl, Nat.le_of_ble_eq_true rfl⟩) hK hP hD hS hA [0, 1, 2] [] rfl rfl (by decide) (by decide) (by decide) (ci := 1) (q0 := 0) rfl rfl rfl rfl hl.1 rfl (Nat.le_of_ble_eq_true rfl) dX2_addPart_25 ⟨Nat.le_of_ble_eq_true rfl, Nat.le_of_ble_eq_true rfl⟩ (fun r_6 u_6 H locs hw_6 hP hD hS => ?_)
        have hP : va_P (dC, dI) vwCl (wW cA v0 v1 v2 bt wz op dp) H := hP
        have hD : va_D A (wW cA v0 v1 v2 bt wz op dp) := hD
        have hw_6 : r_6 = if wz + (partSz v) ≤ 300 then 1 else 0 := hw_6
        have hw_6 := hw_6.symm
        subst hw_6
        refine hl_ifb_ne (tgt := 34) hx hb dX2_addPart_28 (by decide) (fun c_7 => ?_) (fun c_7 => ?_)
        · refine lv_iload_n hx hb dX2_addPart_34 rfl (lv_at hl 0 rfl) ?_
          refine lv_iconst (v := nI 1) hx hb dX2_addPart_35 (by decide) ?_
          refine lv_isub hx hb dX2_addPart_36 ?_
          rw [show nI (partSz v) - nI 1 = mI (partSz v) from mI_sub (partSz v)]
          refine lv_istore_n (lv' := [(3, .int (mI (partSz v))), (2, .int (nI (partSz v))), (0, .ref v0), (1, .int v)]) hx hb dX2_addPart_37 rfl hl (by decide) rfl (fun ls hl => ?_)
          have lp_38 : ∀ (nf : Nat) (k : Nat) (bt1 : Nat → Nat) (wz1 : Nat), k < nf → (k ≤ partSz v) → (bt1 = pB bt wz (bpN v) (partSz v) (partSz v - k)) → (wz1 = wz + (partSz v - k)) → ∀ (H : Heap) (locs : List Loc) (ls : Array Slot), va_P (dC, dI) vwCl (wW cA v0 v1 v2 bt1 wz1 op dp) H → va_D A (wW cA v0 v1 v2 bt1 wz1 op dp) → va_S A s.heap H locs → lv_has ls 5 [(3, .int (mI k)), (2, .int (nI (partSz v))), (0, .ref v0), (1, .int v)] → W p l e (headSpec wsX2_addPart ({ frames := 1, cells := 0, slots := 0, locals := 21 } : Room)).room s m ([.ref v0, .int v] : List Value).toArray below meth c H locs 0 0 (MQ below (qX2_addPart dC dI cA A v0 v1 v2 bt wz op dp v) ([.ref v0, .int v] : List Value).toArray s 0 0 A) (F0 m 38 ls []) := by
            intro nf
            induction nf with
            | zero =>
              intro k bt1 wz1 hm
              exact absurd hm (Nat.not_lt_zero _)
            | succ nf ih_38 =>
              intro k bt1 wz1 hm hk hbt1 hwz1 H locs ls hP hD hS hl
              cases k with
              | zero =>
                refine lv_iload_n hx hb dX2_addPart_38 rfl (lv_at hl 0 rfl) ?_
                refine lv_if_lt (tgt := 78) hx hb dX2_addPart_39 (by decide) (fun c_9 => ?_) (fun c_9 => absurd (by decide) c_9)
                refine lv_iconst (v := nI 0) hx hb dX2_addPart_78 (by decide) ?_
                have hP9 : va_P (dC, dI) vwCl (vX2_addPart cA v0 v1 v2 bt wz op dp v (bt1, wz1)) _ := hP
                have hD9 : va_D A (vX2_addPart cA v0 v1 v2 bt wz op dp v (bt1, wz1)) := hD
                have hq9 : pX2_addPart v0 v1 v2 bt wz op dp v (nI 0) (bt1, wz1) := (by have e : ppC v dp wz bt op = 0 := (by unfold ppC; rw [if_neg (Int32.not_lt.mpr (by assumption)), if_neg (by omega), if_neg (by omega)]); exact ⟨e.symm, Or.inl ⟨e, by omega, hbt1, by omega⟩⟩)
                exact W.iret (v := nI 0) hx hb hr (fun t ht hW => ⟨⟨nI 0, (bt1, wz1), rfl, hq9, by rw [ht]; exact hP9, va_K.moved hW.alike hK, hD9⟩, hS.F ht⟩) hS.2.2 dX2_addPart_79
              | succ k =>
                have hl : lv_has ls 5 [(3, .int (nI k)), (2, .int (nI (partSz v))), (0, .ref v0), (1, .int v)] := hl
                refine lv_iload_n hx hb dX2_addPart_38 rfl (lv_at hl 0 rfl) ?_
                refine hl_if_lt (tgt := 78) hx hb dX2_addPart_39 (by decide) (by omega) (fun c_10 => absurd c_10 (by omega)) (fun c_10 => ?_)
                refine lv_iload_n hx hb dX2_addPart_42 rfl (lv_at hl 3 rfl) ?_
                refine lv_bipush (v := nI 7) hx hb dX2_addPart_43 (by decide) ?_
                refine lv_iload_n hx hb dX2_addPart_45 rfl (lv_at hl 0 rfl) ?_
                refine hl_imul hx hb dX2_addPart_46 ?_
                refine lv_ishr hx hb dX2_addPart_47 ?_
                refine lv_bipush (v := nI 127) hx hb dX2_addPart_48 (by decide) ?_
                refine lv_iand hx hb dX2_addPart_50 ?_
                refine hl_top (b7N_eq v k) ?_
                refine lv_istore (lv' := [(4, .int (nI (b7N v k))), (3, .int (nI k)), (2, .int (nI (partSz v))), (0, .ref v0), (1, .int v)]) hx hb dX2_addPart_51 hl (by decide) rfl (fun ls hl => ?_)
                refine lv_aload_n hx hb dX2_addPart_53 rfl (lv_at hl 3 rfl) ?_
                refine lv_iload_n hx hb dX2_addPart_54 rfl (lv_at hl 1 rfl) ?_
                refine hl_if_ne (tgt := 63) hx hb dX2_addPart_55 (by decide) (by omega) (fun c_11 => ?_) (fun c_11 => ?_)
                · refine lv_iload hx hb dX2_addPart_63 (lv_at hl 0 rfl) ?_
                  refine lv_sipush (v := nI 128) hx hb dX2_addPart_65 (by decide) ?_
                  refine lv_ior hx hb dX2_addPart_68 ?_
                  refine hl_top (show _ = nI (bpN v k) by unfold bpN; rw [if_neg (by assumption)]; exact or128 _ (b7N_lt v k)) ?_
                  refine cl_Vv (As := [.int (nI (bpN v k))]) (rest := []) (wr := []) ⟨hx, hb, hml, hown, hts⟩ (k_X2_append l dC dI cA v0 v1 v2 bt1 wz1 op dp (bpN v k) _ (by omega)) (cwV 1 hts gX2_addPart_X2_append rfl rfl rfl (by decide +kernel) ⟨Nat.le_of_ble_eq_true rfl, Nat.le_of_ble_eq_true rfl⟩) hK hP hD hS hA [0, 1, 2] [] rfl rfl (by decide) (by decide) (by decide) (ci := 1) (q0 := 0) rfl rfl rfl rfl hl.1 rfl (Nat.le_of_ble_eq_true rfl) dX2_addPart_69 ⟨Nat.le_of_ble_eq_true rfl, Nat.le_of_ble_eq_true rfl⟩ (fun u_12 H locs hw_12 hP hD hS => ?_)
                  obtain ⟨bt2_12, wz2_12⟩ := u_12
                  have hP : va_P (dC, dI) vwCl (wW cA v0 v1 v2 bt2_12 wz2_12 op dp) H := hP
                  have hD : va_D A (wW cA v0 v1 v2 bt2_12 wz2_12 op dp) := hD
                  have hw_12 : bt2_12 = va_up bt1 wz1 (bpN v k) ∧ wz2_12 = wz1 + 1 := hw_12
                  obtain ⟨e0_12, e1_12⟩ := hw_12
                  have e0_12 := e0_12.symm
                  subst e0_12
                  have e1_12 := e1_12.symm
                  subst e1_12
                  refine lv_iinc (v := (mI k)) (lv' := [(3, .int (mI k)), (4, .int (nI (b7N v k))), (2, .int (nI (partSz v))), (0, .ref v0), (1, .int v)]) hx hb dX2_addPart_72 hl (k := 1) rfl (mI_dec k) (by decide) rfl (fun ls hl => ?_)
                  refine lv_goto (tgt := 38) hx hb dX2_addPart_75 (by decide) ?_
                  exact ih_38 k (va_up bt1 wz1 (bpN v k)) (wz1 + 1) (by omega) (by omega) (by rw [hbt1, hwz1]; exact pB_step _ _ _ hk) (by omega) _ _ _ hP hD hS (lv_sub hl [0, 2, 3, 4] rfl)
                · refine lv_iload hx hb dX2_addPart_58 (lv_at hl 0 rfl) ?_
                  refine lv_goto (tgt := 69) hx hb dX2_addPart_60 (by decide) ?_
                  refine hl_top (show nI (b7N v k) = nI (bpN v k) by unfold bpN; rw [if_pos (by assumption)]) ?_
                  refine cl_Vv (As := [.int (nI (bpN v k))]) (rest := []) (wr := []) ⟨hx, hb, hml, hown, hts⟩ (k_X2_append l dC dI cA v0 v1 v2 bt1 wz1 op dp (bpN v k) _ (by omega)) (cwV 1 hts gX2_addPart_X2_append rfl rfl rfl (by decide +kernel) ⟨Nat.le_of_ble_eq_true rfl, Nat.le_of_ble_eq_true rfl⟩) hK hP hD hS hA [0, 1, 2] [] rfl rfl (by decide) (by decide) (by decide) (ci := 1) (q0 := 0) rfl rfl rfl rfl hl.1 rfl (Nat.le_of_ble_eq_true rfl) dX2_addPart_69 ⟨Nat.le_of_ble_eq_true rfl, Nat.le_of_ble_eq_true rfl⟩ (fun u_13 H locs hw_13 hP hD hS => ?_)
                  obtain ⟨bt2_13, wz2_13⟩ := u_13
                  have hP : va_P (dC, dI) vwCl (wW cA v0 v1 v2 bt2_13 wz2_13 op dp) H := hP
                  have hD : va_D A (wW cA v0 v1 v2 bt2_13 wz2_13 op dp) := hD
                  have hw_13 : bt2_13 = va_up bt1 wz1 (bpN v k) ∧ wz2_13 = wz1 + 1 := hw_13
                  obtain ⟨e0_13, e1_13⟩ := hw_13
                  have e0_13 := e0_13.symm
                  subst e0_13
                  have e1_13 := e1_13.symm
                  subst e1_13
                  refine lv_iinc (v := (mI k)) (lv' := [(3, .int (mI k)), (4, .int (nI (b7N v k))), (2, .int (nI (partSz v))), (0, .ref v0), (1, .int v)]) hx hb dX2_addPart_72 hl (k := 1) rfl (mI_dec k) (by decide) rfl (fun ls hl => ?_)
                  refine lv_goto (tgt := 38) hx hb dX2_addPart_75 (by decide) ?_
                  exact ih_38 k (va_up bt1 wz1 (bpN v k)) (wz1 + 1) (by omega) (by omega) (by rw [hbt1, hwz1]; exact pB_step _ _ _ hk) (by omega) _ _ _ hP hD hS (lv_sub hl [0, 2, 3, 4] rfl)
          exact lp_38 ((partSz v) + 1) (partSz v) bt wz (Nat.lt_succ_self _) (by omega) (by rw [Nat.sub_self]; rfl) (by rw [Nat.sub_self]; rfl) _ _ _ hP hD hS (lv_sub hl [0, 1, 2, 3] rfl)
        · refine lv_bipush (v := (-3)) hx hb dX2_addPart_31 (by decide) ?_
          have hP9 : va_P (dC, dI) vwCl (vX2_addPart cA v0 v1 v2 bt wz op dp v (bt, wz)) _ := hP
          have hD9 : va_D A (vX2_addPart cA v0 v1 v2 bt wz op dp v (bt, wz)) := hD
          have hq9 : pX2_addPart v0 v1 v2 bt wz op dp v ((-3)) (bt, wz) := (by have e : ppC v dp wz bt op = (-3) := (by unfold ppC; rw [if_neg (Int32.not_lt.mpr (by assumption)), if_neg (by omega), if_pos (by omega)]); exact ⟨e.symm, Or.inr ⟨by rw [e]; decide, rfl, rfl⟩⟩)
          exact W.iret (v := (-3)) hx hb hr (fun t ht hW => ⟨⟨(-3), (bt, wz), rfl, hq9, by rw [ht]; exact hP9, va_K.moved hW.alike hK, hD9⟩, hS.F ht⟩) hS.2.2 dX2_addPart_33
      · refine lv_bipush (v := (-2)) hx hb dX2_addPart_15 (by decide) ?_
        have hP9 : va_P (dC, dI) vwCl (vX2_addPart cA v0 v1 v2 bt wz op dp v (bt, wz)) _ := hP
        have hD9 : va_D A (vX2_addPart cA v0 v1 v2 bt wz op dp v (bt, wz)) := hD
        have hq9 : pX2_addPart v0 v1 v2 bt wz op dp v ((-2)) (bt, wz) := (by have e : ppC v dp wz bt op = (-2) := (by unfold ppC; rw [if_neg (Int32.not_lt.mpr (by assumption)), if_pos (by omega)]); exact ⟨e.symm, Or.inr ⟨by rw [e]; decide, rfl, rfl⟩⟩)
        exact W.iret (v := (-2)) hx hb hr (fun t ht hW => ⟨⟨(-2), (bt, wz), rfl, hq9, by rw [ht]; exact hP9, va_K.moved hW.alike hK, hD9⟩, hS.F ht⟩) hS.2.2 dX2_addPart_17
  · refine lv_iconst (v := (-1)) hx hb dX2_addPart_4 (by decide) ?_
    have hP9 : va_P (dC, dI) vwCl (vX2_addPart cA v0 v1 v2 bt wz op dp v (bt, wz)) _ := hP
    have hD9 : va_D A (vX2_addPart cA v0 v1 v2 bt wz op dp v (bt, wz)) := hD
    have hq9 : pX2_addPart v0 v1 v2 bt wz op dp v ((-1)) (bt, wz) := (by have e : ppC v dp wz bt op = (-1) := (by unfold ppC; rw [if_pos (Int32.not_le.mp (by assumption))]); exact ⟨e.symm, Or.inr ⟨by rw [e]; decide, rfl, rfl⟩⟩)
    exact W.iret (v := (-1)) hx hb hr (fun t ht hW => ⟨⟨(-1), (bt, wz), rfl, hq9, by rw [ht]; exact hP9, va_K.moved hW.alike hK, hD9⟩, hS.F ht⟩) hS.2.2 dX2_addPart_5
abbrev pX2_makeGap (v0 : Nat) (v1 : Nat) (v2 : Nat) (bt : Nat → Nat) (wz : Nat) (op : Nat → Nat) (dp : Nat) (pl : Nat) (cnt : Nat) : (Nat → Nat) × Nat → Prop := fun (u : (Nat → Nat) × Nat) => match u with | (bt2, wz2) => wz2 = wz + cnt ∧ (∀ j, j < pl → bt2 j = bt j) ∧ (∀ j, pl ≤ j → j < wz → bt2 (j + cnt) = bt j) ∧ (∀ j, bt2 j < 256)
abbrev vX2_makeGap (cA : ClassId) (v0 : Nat) (v1 : Nat) (v2 : Nat) (bt : Nat → Nat) (wz : Nat) (op : Nat → Nat) (dp : Nat) (pl : Nat) (cnt : Nat) : (Nat → Nat) × Nat → va_W := fun (u : (Nat → Nat) × Nat) => match u with | (bt2, wz2) => wW cA v0 v1 v2 bt2 wz2 op dp
abbrev qX2_makeGap (dC : Nat → ClassId) (dI : Nat → Nat → Nat) (cA : ClassId) (A : Nat → Prop) (v0 : Nat) (v1 : Nat) (v2 : Nat) (bt : Nat → Nat) (wz : Nat) (op : Nat → Nat) (dp : Nat) (pl : Nat) (cnt : Nat) : Array Value → State → Outcome → State → Prop := va_Qv (pX2_makeGap v0 v1 v2 bt wz op dp pl cnt) (fun u => cAft dC dI cA A (vX2_makeGap cA v0 v1 v2 bt wz op dp pl cnt u)) A
set_option maxHeartbeats 4000000 in
set_option maxRecDepth 100000 in
theorem k_X2_makeGap (l : Launch) (dC : Nat → ClassId) (dI : Nat → Nat → Nat) (cA : ClassId) (v0 : Nat) (v1 : Nat) (v2 : Nat) (bt : Nat → Nat) (wz : Nat) (op : Nat → Nat) (dp : Nat) (pl : Nat) (cnt : Nat) (sz : Nat) (hbt : ∀ j, bt j < 256) (hpl : 1 ≤ pl) (hplw : pl ≤ wz) (hcn : wz + cnt ≤ 300) : Met l yX2_makeGap wsX2_makeGap ({ frames := 0, cells := 0, slots := 0, locals := 0 } : Room) (va_Pc [.ref v0, .int (nI pl), .int (nI cnt)] (cPre dC dI cA (wW cA v0 v1 v2 bt wz op dp) sz)) (qX2_makeGap dC dI cA (va_A (wW cA v0 v1 v2 bt wz op dp) sz) v0 v1 v2 bt wz op dp pl cnt) 0 0 (va_A (wW cA v0 v1 v2 bt wz op dp) sz) := by
  refine Met.ofW (cc := cX2_makeGap) (maxL := 4) (ret := none) (by decide) rfl ?_
  intro p e s m args below meth c s₁ B hml hv
  obtain ⟨rfl, hsz, hP, hK, hD0⟩ := hv
  have hx := B.exec
  have hb := B.bytes
  have hr := B.returns
  have hts := atoms_spec (ws := wsX2_makeGap) B.pre
  have hown : s.vm.findClass RX2 = some m.cls := findClass_of_methodNamed B.named
  have hlocks := B.notSynchronized
  subst hsz
  have hD := hD0.self (sz := s.heap.size)
  generalize hAe : va_A (wW cA v0 v1 v2 bt wz op dp) s.heap.size = A at hD ⊢
  have hA : ∀ q : Nat, s.heap.size ≤ q → A q := fun q h => by rw [← hAe]; exact Or.inr h
  have hS : va_S A s.heap s.heap [] := va_S.rf
  have hl := lv_entry ([.ref v0, .int (nI pl), .int (nI cnt)]) (n := 4) (Nat.le_of_ble_eq_true rfl)
  rw [lg_entry_eq]
  generalize (lg_sl ([.ref v0, .int (nI pl), .int (nI cnt)]) ++ List.replicate (4 - (lg_sl ([.ref v0, .int (nI pl), .int (nI cnt)])).length) Slot.unset).toArray = ls at hl ⊢
  have hl : lv_has ls 4 [(0, .ref v0), (1, .int (nI pl)), (2, .int (nI cnt))] := hl
  have hinX2 : ∀ w ∈ wsX20, w ∈ wsX2_makeGap := fun _ h => List.mem_cons_of_mem _ (List.mem_append_right _ h)
  have hf_9 := hts (.fieldLink RX2 9 "DerDesk$Writer" "bytes" "[I") (by decide +kernel)
  have hf_15 := hts (.fieldLink RX2 15 "DerDesk$Writer" "size" "I") (by decide +kernel)
  have hP : va_P (dC, dI) vwCl (wW cA v0 v1 v2 bt wz op dp) s.heap := hP
  refine lv_aload_n hx hb dX2_makeGap_0 rfl (lv_at hl 0 rfl) ?_
  refine va_get (D := (dC, dI)) (ci := 1) (v := .int (nI wz)) (C := RX2) (T := TX2) (N := 4) hx hb hts hinX2 hown hK hP 0 rfl rfl 1 (by decide) hf_15 (fun _ h9 => h9) rfl dX2_makeGap_1 ?_
  refine lv_iconst (v := nI 1) hx hb dX2_makeGap_4 (by decide) ?_
  refine hl_isub hx hb (by omega) dX2_makeGap_5 ?_
  refine lv_istore_n (lv' := [(3, .int (nI (wz - 1))), (0, .ref v0), (1, .int (nI pl)), (2, .int (nI cnt))]) hx hb dX2_makeGap_6 rfl hl (by decide) rfl (fun ls hl => ?_)
  have lp_7 : ∀ (nf : Nat) (i : Nat) (bt1 : Nat → Nat), i < nf → (pl ≤ i + 1) → (i < wz) → (∀ j, j ≤ i + cnt → bt1 j = bt j) → (∀ j, i < j → j < wz → bt1 (j + cnt) = bt j) → (∀ j, bt1 j < 256) → ∀ (H : Heap) (locs : List Loc) (ls : Array Slot), va_P (dC, dI) vwCl (wW cA v0 v1 v2 bt1 wz op dp) H → va_D A (wW cA v0 v1 v2 bt1 wz op dp) → va_S A s.heap H locs → lv_has ls 4 [(3, .int (nI i)), (0, .ref v0), (1, .int (nI pl)), (2, .int (nI cnt))] → W p l e (headSpec wsX2_makeGap ({ frames := 0, cells := 0, slots := 0, locals := 0 } : Room)).room s m ([.ref v0, .int (nI pl), .int (nI cnt)] : List Value).toArray below meth c H locs 0 0 (MQ below (qX2_makeGap dC dI cA A v0 v1 v2 bt wz op dp pl cnt) ([.ref v0, .int (nI pl), .int (nI cnt)] : List Value).toArray s 0 0 A) (F0 m 7 ls []) := by
    intro nf
    induction nf with
    | zero =>
      intro i bt1 hm
      exact absurd hm (Nat.not_lt_zero _)
    | succ nf ih_7 =>
      intro i bt1 hm hi1 hi2 h1 h2 hb1 H locs ls hP hD hS hl
      refine lv_iload_n hx hb dX2_makeGap_7 rfl (lv_at hl 0 rfl) ?_
      refine lv_iload_n hx hb dX2_makeGap_8 rfl (lv_at hl 2 rfl) ?_
      refine hl_icmp_lt (tgt := 32) hx hb dX2_makeGap_9 (by decide) (by omega) (by omega) (fun c_2 => ?_) (fun c_2 => ?_)
      · refine lv_aload_n hx hb dX2_makeGap_32 rfl (lv_at hl 1 rfl) ?_
        refine lv_dup hx hb dX2_makeGap_33 rfl ?_
        refine va_get (D := (dC, dI)) (ci := 1) (v := .int (nI wz)) (C := RX2) (T := TX2) (N := 4) hx hb hts hinX2 hown hK hP 0 rfl rfl 1 (by decide) hf_15 (fun _ h9 => h9) rfl dX2_makeGap_34 ?_
        refine lv_iload_n hx hb dX2_makeGap_37 rfl (lv_at hl 3 rfl) ?_
        refine hl_iadd hx hb dX2_makeGap_38 ?_
        refine va_put (D := (dC, dI)) (ci := 1) (v := .int (nI (wz + cnt))) (ty := .int) (C := RX2) (T := TX2) (N := 4) hx hb hts hinX2 tyX2 tyX2_ok nmX2 hown hK hP hD hS 0 rfl rfl 1 (by decide) hf_15 (fun _ h9 => h9) rfl (by decide +kernel) rfl rfl (Nat.le_of_ble_eq_true rfl) dX2_makeGap_39 (fun H locs hP hD hS => ?_)
        have hP : va_P (dC, dI) vwCl (wW cA v0 v1 v2 bt1 (wz + cnt) op dp) H := hP
        have hD : va_D A (wW cA v0 v1 v2 bt1 (wz + cnt) op dp) := hD
        have hP9 : va_P (dC, dI) vwCl (vX2_makeGap cA v0 v1 v2 bt wz op dp pl cnt (bt1, wz + cnt)) _ := hP
        have hD9 : va_D A (vX2_makeGap cA v0 v1 v2 bt wz op dp pl cnt (bt1, wz + cnt)) := hD
        have hq9 : pX2_makeGap v0 v1 v2 bt wz op dp pl cnt (bt1, wz + cnt) := ⟨rfl, fun j hj => h1 j (by omega), fun j ha hb => h2 j (by omega) hb, hb1⟩
        exact W.vret hx hb hr (fun t ht hW => ⟨⟨(bt1, wz + cnt), rfl, hq9, by rw [ht]; exact hP9, va_K.moved hW.alike hK, hD9⟩, hS.F ht⟩) hS.2.2 dX2_makeGap_42
      · refine lv_aload_n hx hb dX2_makeGap_12 rfl (lv_at hl 1 rfl) ?_
        refine va_get (D := (dC, dI)) (ci := 1) (v := .ref v1) (C := RX2) (T := TX2) (N := 4) hx hb hts hinX2 hown hK hP 0 rfl rfl 0 (by decide) hf_9 (fun _ h9 => h9) rfl dX2_makeGap_13 ?_
        refine lv_iload_n hx hb dX2_makeGap_16 rfl (lv_at hl 0 rfl) ?_
        refine lv_iload_n hx hb dX2_makeGap_17 rfl (lv_at hl 3 rfl) ?_
        refine hl_iadd hx hb dX2_makeGap_18 ?_
        refine lv_aload_n hx hb dX2_makeGap_19 rfl (lv_at hl 1 rfl) ?_
        refine va_get (D := (dC, dI)) (ci := 1) (v := .ref v1) (C := RX2) (T := TX2) (N := 4) hx hb hts hinX2 hown hK hP 0 rfl rfl 0 (by decide) hf_9 (fun _ h9 => h9) rfl dX2_makeGap_20 ?_
        refine lv_iload_n hx hb dX2_makeGap_23 rfl (lv_at hl 0 rfl) ?_
        refine hl_iald hx hb hK hP 1 0 rfl rfl (by omega) (by decide) dX2_makeGap_24 ?_
        refine hl_iast hx hb hK hP hD hS 1 0 rfl rfl (by omega) (by decide) dX2_makeGap_25 (fun H locs hP hD hS => ?_)
        have hP : va_P (dC, dI) vwCl (wW cA v0 v1 v2 (va_up bt1 (i + cnt) (bt1 i)) wz op dp) H := hP
        have hD : va_D A (wW cA v0 v1 v2 (va_up bt1 (i + cnt) (bt1 i)) wz op dp) := hD
        refine lv_iinc (v := (nI (i - 1))) (lv' := [(3, .int (nI (i - 1))), (0, .ref v0), (1, .int (nI pl)), (2, .int (nI cnt))]) hx hb dX2_makeGap_26 hl (k := 0) rfl (nI_dec (by omega)) (by decide) rfl (fun ls hl => ?_)
        refine lv_goto (tgt := 7) hx hb dX2_makeGap_29 (by decide) ?_
        exact ih_7 (i - 1) (va_up bt1 (i + cnt) (bt1 i)) (by omega) (by omega) (by omega) (fun j hj => by rw [up_ne _ _ (by omega)]; exact h1 j (by omega)) (fun j ha hb => by by_cases e : j = i; rw [e, up_eq]; exact h1 i (by omega); rw [up_ne _ _ (by omega)]; exact h2 j (by omega) hb) (up_lt hb1 (hb1 i)) _ _ _ hP hD hS (lv_sub hl [0, 1, 2, 3] rfl)
  exact lp_7 ((wz - 1) + 1) (wz - 1) bt (Nat.lt_succ_self _) (by omega) (by omega) (fun j _ => rfl) (fun j h1 h2 => absurd h2 (by omega)) hbt _ _ _ hP hD hS (lv_sub hl [0, 1, 2, 3] rfl)
abbrev pX2_writeLength (v0 : Nat) (v1 : Nat) (v2 : Nat) (bt : Nat → Nat) (wz : Nat) (op : Nat → Nat) (dp : Nat) (pl : Nat) (n : Nat) (z : Nat) : (Nat → Nat) → Prop := fun (bt2 : (Nat → Nat)) => (∀ i, i < z → bt2 (pl + i) = lnB n z i) ∧ (∀ j, j < pl ∨ pl + z ≤ j → bt2 j = bt j) ∧ (∀ j, bt2 j < 256)
abbrev vX2_writeLength (cA : ClassId) (v0 : Nat) (v1 : Nat) (v2 : Nat) (bt : Nat → Nat) (wz : Nat) (op : Nat → Nat) (dp : Nat) (pl : Nat) (n : Nat) (z : Nat) : (Nat → Nat) → va_W := fun (bt2 : (Nat → Nat)) => wW cA v0 v1 v2 bt2 wz op dp
abbrev qX2_writeLength (dC : Nat → ClassId) (dI : Nat → Nat → Nat) (cA : ClassId) (A : Nat → Prop) (v0 : Nat) (v1 : Nat) (v2 : Nat) (bt : Nat → Nat) (wz : Nat) (op : Nat → Nat) (dp : Nat) (pl : Nat) (n : Nat) (z : Nat) : Array Value → State → Outcome → State → Prop := va_Qv (pX2_writeLength v0 v1 v2 bt wz op dp pl n z) (fun u => cAft dC dI cA A (vX2_writeLength cA v0 v1 v2 bt wz op dp pl n z u)) A
set_option maxHeartbeats 4000000 in
set_option maxRecDepth 100000 in
theorem k_X2_writeLength (l : Launch) (dC : Nat → ClassId) (dI : Nat → Nat → Nat) (cA : ClassId) (v0 : Nat) (v1 : Nat) (v2 : Nat) (bt : Nat → Nat) (wz : Nat) (op : Nat → Nat) (dp : Nat) (pl : Nat) (n : Nat) (z : Nat) (sz : Nat) (hbt : ∀ j, bt j < 256) (hz : z = lenSz n) (hn : n ≤ 300) (hpz : pl + z ≤ 300) : Met l yX2_writeLength wsX2_writeLength ({ frames := 0, cells := 0, slots := 0, locals := 0 } : Room) (va_Pc [.ref v0, .int (nI pl), .int (nI n), .int (nI z)] (cPre dC dI cA (wW cA v0 v1 v2 bt wz op dp) sz)) (qX2_writeLength dC dI cA (va_A (wW cA v0 v1 v2 bt wz op dp) sz) v0 v1 v2 bt wz op dp pl n z) 0 0 (va_A (wW cA v0 v1 v2 bt wz op dp) sz) := by
  refine Met.ofW (cc := cX2_writeLength) (maxL := 6) (ret := none) (by decide) rfl ?_
  intro p e s m args below meth c s₁ B hml hv
  obtain ⟨rfl, hsz, hP, hK, hD0⟩ := hv
  have hx := B.exec
  have hb := B.bytes
  have hr := B.returns
  have hts := atoms_spec (ws := wsX2_writeLength) B.pre
  have hown : s.vm.findClass RX2 = some m.cls := findClass_of_methodNamed B.named
  have hlocks := B.notSynchronized
  subst hsz
  have hD := hD0.self (sz := s.heap.size)
  generalize hAe : va_A (wW cA v0 v1 v2 bt wz op dp) s.heap.size = A at hD ⊢
  have hA : ∀ q : Nat, s.heap.size ≤ q → A q := fun q h => by rw [← hAe]; exact Or.inr h
  have hS : va_S A s.heap s.heap [] := va_S.rf
  have hl := lv_entry ([.ref v0, .int (nI pl), .int (nI n), .int (nI z)]) (n := 6) (Nat.le_of_ble_eq_true rfl)
  rw [lg_entry_eq]
  generalize (lg_sl ([.ref v0, .int (nI pl), .int (nI n), .int (nI z)]) ++ List.replicate (6 - (lg_sl ([.ref v0, .int (nI pl), .int (nI n), .int (nI z)])).length) Slot.unset).toArray = ls at hl ⊢
  have hl : lv_has ls 6 [(0, .ref v0), (1, .int (nI pl)), (2, .int (nI n)), (3, .int (nI z))] := hl
  have hinX2 : ∀ w ∈ wsX20, w ∈ wsX2_writeLength := fun _ h => List.mem_cons_of_mem _ (List.mem_append_right _ h)
  have hf_9 := hts (.fieldLink RX2 9 "DerDesk$Writer" "bytes" "[I") (by decide +kernel)
  have hP : va_P (dC, dI) vwCl (wW cA v0 v1 v2 bt wz op dp) s.heap := hP
  have hzl := lenSz_le n
  have hz1 : z = 1 → n < 128 := fun e => by rw [hz] at e; unfold lenSz at e; (repeat' split at e) <;> omega
  rcases (show z = 1 ∨ z = 2 ∨ z = 3 by omega) with ez | ez | ez
  · have hl : lv_has ls 6 [(0, .ref v0), (1, .int (nI pl)), (2, .int (nI n)), (3, .int (nI 1))] := by rw [show nI 1 = nI z by rw [ez]]; exact hl
    have hn1 := hz1 ez
    refine lv_iload_n hx hb dX2_writeLength_0 rfl (lv_at hl 3 rfl) ?_
    refine lv_iconst (v := nI 1) hx hb dX2_writeLength_1 (by decide) ?_
    refine hl_icmp_ne (tgt := 13) hx hb dX2_writeLength_2 (by decide) (by omega) (by omega) (fun c_1 => absurd c_1 (by decide)) (fun c_1 => ?_)
    refine lv_aload_n hx hb dX2_writeLength_5 rfl (lv_at hl 0 rfl) ?_
    refine va_get (D := (dC, dI)) (ci := 1) (v := .ref v1) (C := RX2) (T := TX2) (N := 4) hx hb hts hinX2 hown hK hP 0 rfl rfl 0 (by decide) hf_9 (fun _ h9 => h9) rfl dX2_writeLength_6 ?_
    refine lv_iload_n hx hb dX2_writeLength_9 rfl (lv_at hl 1 rfl) ?_
    refine lv_iload_n hx hb dX2_writeLength_10 rfl (lv_at hl 2 rfl) ?_
    refine hl_iast hx hb hK hP hD hS 1 0 rfl rfl (by omega) (by decide) dX2_writeLength_11 (fun H locs hP hD hS => ?_)
    have hP : va_P (dC, dI) vwCl (wW cA v0 v1 v2 (va_up bt pl n) wz op dp) H := hP
    have hD : va_D A (wW cA v0 v1 v2 (va_up bt pl n) wz op dp) := hD
    have hP9 : va_P (dC, dI) vwCl (vX2_writeLength cA v0 v1 v2 bt wz op dp pl n z (va_up bt pl n)) _ := hP
    have hD9 : va_D A (vX2_writeLength cA v0 v1 v2 bt wz op dp pl n z (va_up bt pl n)) := hD
    have hq9 : pX2_writeLength v0 v1 v2 bt wz op dp pl n z (va_up bt pl n) := ⟨fun i hi => by rw [ez] at hi ⊢; rw [show i = 0 by omega]; exact up_eq _ _ _, fun j hj => up_ne _ _ (by omega), up_lt hbt (by omega)⟩
    exact W.vret hx hb hr (fun t ht hW => ⟨⟨(va_up bt pl n), rfl, hq9, by rw [ht]; exact hP9, va_K.moved hW.alike hK, hD9⟩, hS.F ht⟩) hS.2.2 dX2_writeLength_12
  · have hl : lv_has ls 6 [(0, .ref v0), (1, .int (nI pl)), (2, .int (nI n)), (3, .int (nI 2))] := by rw [show nI 2 = nI z by rw [ez]]; exact hl
    refine lv_iload_n hx hb dX2_writeLength_0 rfl (lv_at hl 3 rfl) ?_
    refine lv_iconst (v := nI 1) hx hb dX2_writeLength_1 (by decide) ?_
    refine hl_icmp_ne (tgt := 13) hx hb dX2_writeLength_2 (by decide) (by omega) (by omega) (fun c_2 => ?_) (fun c_2 => absurd c_2 (by decide))
    refine lv_iload_n hx hb dX2_writeLength_13 rfl (lv_at hl 3 rfl) ?_
    refine lv_iconst (v := nI 1) hx hb dX2_writeLength_14 (by decide) ?_
    refine lv_isub hx hb dX2_writeLength_15 ?_
    refine hl_top (show _ = nI 1 by decide) ?_
    refine lv_istore (lv' := [(4, .int (nI 1)), (0, .ref v0), (1, .int (nI pl)), (2, .int (nI n)), (3, .int (nI 2))]) hx hb dX2_writeLength_16 hl (by decide) rfl (fun ls hl => ?_)
    refine lv_aload_n hx hb dX2_writeLength_18 rfl (lv_at hl 1 rfl) ?_
    refine va_get (D := (dC, dI)) (ci := 1) (v := .ref v1) (C := RX2) (T := TX2) (N := 4) hx hb hts hinX2 hown hK hP 0 rfl rfl 0 (by decide) hf_9 (fun _ h9 => h9) rfl dX2_writeLength_19 ?_
    refine lv_iload_n hx hb dX2_writeLength_22 rfl (lv_at hl 2 rfl) ?_
    refine lv_sipush (v := nI 128) hx hb dX2_writeLength_23 (by decide) ?_
    refine lv_iload hx hb dX2_writeLength_26 (lv_at hl 0 rfl) ?_
    refine lv_iadd hx hb dX2_writeLength_28 ?_
    refine hl_top (show _ = nI 129 by decide) ?_
    refine hl_iast hx hb hK hP hD hS 1 0 rfl rfl (by omega) (by decide) dX2_writeLength_29 (fun H locs hP hD hS => ?_)
    have hP : va_P (dC, dI) vwCl (wW cA v0 v1 v2 (va_up bt pl 129) wz op dp) H := hP
    have hD : va_D A (wW cA v0 v1 v2 (va_up bt pl 129) wz op dp) := hD
    refine lv_iconst (v := nI 1) hx hb dX2_writeLength_30 (by decide) ?_
    refine lv_istore (lv' := [(5, .int (nI 1)), (4, .int (nI 1)), (0, .ref v0), (1, .int (nI pl)), (2, .int (nI n)), (3, .int (nI 2))]) hx hb dX2_writeLength_31 hl (by decide) rfl (fun ls hl => ?_)
    refine lv_iload hx hb dX2_writeLength_33 (lv_at hl 0 rfl) ?_
    refine lv_iload hx hb dX2_writeLength_35 (lv_at hl 1 rfl) ?_
    refine hl_icmp_gt (tgt := 69) hx hb dX2_writeLength_37 (by decide) (by omega) (by omega) (fun c_3 => absurd c_3 (by decide)) (fun c_3 => ?_)
    refine lv_aload_n hx hb dX2_writeLength_40 rfl (lv_at hl 2 rfl) ?_
    refine va_get (D := (dC, dI)) (ci := 1) (v := .ref v1) (C := RX2) (T := TX2) (N := 4) hx hb hts hinX2 hown hK hP 0 rfl rfl 0 (by decide) hf_9 (fun _ h9 => h9) rfl dX2_writeLength_41 ?_
    refine lv_iload_n hx hb dX2_writeLength_44 rfl (lv_at hl 3 rfl) ?_
    refine lv_iload hx hb dX2_writeLength_45 (lv_at hl 0 rfl) ?_
    refine hl_iadd hx hb dX2_writeLength_47 ?_
    refine lv_iload_n hx hb dX2_writeLength_48 rfl (lv_at hl 4 rfl) ?_
    refine lv_bipush (v := nI 8) hx hb dX2_writeLength_49 (by decide) ?_
    refine lv_iload hx hb dX2_writeLength_51 (lv_at hl 1 rfl) ?_
    refine lv_iload hx hb dX2_writeLength_53 (lv_at hl 0 rfl) ?_
    refine lv_isub hx hb dX2_writeLength_55 ?_
    refine hl_top (show _ = nI 0 by decide) ?_
    refine lv_imul hx hb dX2_writeLength_56 ?_
    refine hl_top (show _ = nI 0 by decide) ?_
    refine lv_ishr hx hb dX2_writeLength_57 ?_
    refine lv_sipush (v := nI 255) hx hb dX2_writeLength_58 (by decide) ?_
    refine lv_iand hx hb dX2_writeLength_61 ?_
    refine hl_top (shr_and (n := n) (k := 0) (by omega) (nI 0 &&& 31) (by decide)) ?_
    refine hl_iast hx hb hK hP hD hS 1 0 rfl rfl (by omega) (by decide) dX2_writeLength_62 (fun H locs hP hD hS => ?_)
    have hP : va_P (dC, dI) vwCl (wW cA v0 v1 v2 (va_up (va_up bt pl 129) (pl + 1) (n / 2 ^ 0 % 256)) wz op dp) H := hP
    have hD : va_D A (wW cA v0 v1 v2 (va_up (va_up bt pl 129) (pl + 1) (n / 2 ^ 0 % 256)) wz op dp) := hD
    refine lv_iinc (v := (nI 2)) (lv' := [(5, .int (nI 2)), (4, .int (nI 1)), (0, .ref v0), (1, .int (nI pl)), (2, .int (nI n)), (3, .int (nI 2))]) hx hb dX2_writeLength_63 hl (k := 0) rfl (by decide) (by decide) rfl (fun ls hl => ?_)
    refine lv_goto (tgt := 33) hx hb dX2_writeLength_66 (by decide) ?_
    refine lv_iload hx hb dX2_writeLength_33 (lv_at hl 0 rfl) ?_
    refine lv_iload hx hb dX2_writeLength_35 (lv_at hl 1 rfl) ?_
    refine hl_icmp_gt (tgt := 69) hx hb dX2_writeLength_37 (by decide) (by omega) (by omega) (fun c_4 => ?_) (fun c_4 => absurd c_4 (by decide))
    have hP9 : va_P (dC, dI) vwCl (vX2_writeLength cA v0 v1 v2 bt wz op dp pl n z (va_up (va_up bt pl 129) (pl + 1) (n / 2 ^ 0 % 256))) _ := hP
    have hD9 : va_D A (vX2_writeLength cA v0 v1 v2 bt wz op dp pl n z (va_up (va_up bt pl 129) (pl + 1) (n / 2 ^ 0 % 256))) := hD
    have hq9 : pX2_writeLength v0 v1 v2 bt wz op dp pl n z (va_up (va_up bt pl 129) (pl + 1) (n / 2 ^ 0 % 256)) := ⟨fun i hi => by rw [ez] at hi ⊢; rcases (show i = 0 ∨ i = 1 by omega) with e | e <;> subst e <;> simp [va_up, lnB], fun j hj => by rw [up_ne _ _ (by omega), up_ne _ _ (by omega)], up_lt (up_lt hbt (by omega)) (Nat.mod_lt _ (by decide))⟩
    exact W.vret hx hb hr (fun t ht hW => ⟨⟨(va_up (va_up bt pl 129) (pl + 1) (n / 2 ^ 0 % 256)), rfl, hq9, by rw [ht]; exact hP9, va_K.moved hW.alike hK, hD9⟩, hS.F ht⟩) hS.2.2 dX2_writeLength_69
  · have hl : lv_has ls 6 [(0, .ref v0), (1, .int (nI pl)), (2, .int (nI n)), (3, .int (nI 3))] := by rw [show nI 3 = nI z by rw [ez]]; exact hl
    refine lv_iload_n hx hb dX2_writeLength_0 rfl (lv_at hl 3 rfl) ?_
    refine lv_iconst (v := nI 1) hx hb dX2_writeLength_1 (by decide) ?_
    refine hl_icmp_ne (tgt := 13) hx hb dX2_writeLength_2 (by decide) (by omega) (by omega) (fun c_5 => ?_) (fun c_5 => absurd c_5 (by decide))
    refine lv_iload_n hx hb dX2_writeLength_13 rfl (lv_at hl 3 rfl) ?_
    refine lv_iconst (v := nI 1) hx hb dX2_writeLength_14 (by decide) ?_
    refine lv_isub hx hb dX2_writeLength_15 ?_
    refine hl_top (show _ = nI 2 by decide) ?_
    refine lv_istore (lv' := [(4, .int (nI 2)), (0, .ref v0), (1, .int (nI pl)), (2, .int (nI n)), (3, .int (nI 3))]) hx hb dX2_writeLength_16 hl (by decide) rfl (fun ls hl => ?_)
    refine lv_aload_n hx hb dX2_writeLength_18 rfl (lv_at hl 1 rfl) ?_
    refine va_get (D := (dC, dI)) (ci := 1) (v := .ref v1) (C := RX2) (T := TX2) (N := 4) hx hb hts hinX2 hown hK hP 0 rfl rfl 0 (by decide) hf_9 (fun _ h9 => h9) rfl dX2_writeLength_19 ?_
    refine lv_iload_n hx hb dX2_writeLength_22 rfl (lv_at hl 2 rfl) ?_
    refine lv_sipush (v := nI 128) hx hb dX2_writeLength_23 (by decide) ?_
    refine lv_iload hx hb dX2_writeLength_26 (lv_at hl 0 rfl) ?_
    refine lv_iadd hx hb dX2_writeLength_28 ?_
    refine hl_top (show _ = nI 130 by decide) ?_
    refine hl_iast hx hb hK hP hD hS 1 0 rfl rfl (by omega) (by decide) dX2_writeLength_29 (fun H locs hP hD hS => ?_)
    have hP : va_P (dC, dI) vwCl (wW cA v0 v1 v2 (va_up bt pl 130) wz op dp) H := hP
    have hD : va_D A (wW cA v0 v1 v2 (va_up bt pl 130) wz op dp) := hD
    refine lv_iconst (v := nI 1) hx hb dX2_writeLength_30 (by decide) ?_
    refine lv_istore (lv' := [(5, .int (nI 1)), (4, .int (nI 2)), (0, .ref v0), (1, .int (nI pl)), (2, .int (nI n)), (3, .int (nI 3))]) hx hb dX2_writeLength_31 hl (by decide) rfl (fun ls hl => ?_)
    refine lv_iload hx hb dX2_writeLength_33 (lv_at hl 0 rfl) ?_
    refine lv_iload hx hb dX2_writeLength_35 (lv_at hl 1 rfl) ?_
    refine hl_icmp_gt (tgt := 69) hx hb dX2_writeLength_37 (by decide) (by omega) (by omega) (fun c_6 => absurd c_6 (by decide)) (fun c_6 => ?_)
    refine lv_aload_n hx hb dX2_writeLength_40 rfl (lv_at hl 2 rfl) ?_
    refine va_get (D := (dC, dI)) (ci := 1) (v := .ref v1) (C := RX2) (T := TX2) (N := 4) hx hb hts hinX2 hown hK hP 0 rfl rfl 0 (by decide) hf_9 (fun _ h9 => h9) rfl dX2_writeLength_41 ?_
    refine lv_iload_n hx hb dX2_writeLength_44 rfl (lv_at hl 3 rfl) ?_
    refine lv_iload hx hb dX2_writeLength_45 (lv_at hl 0 rfl) ?_
    refine hl_iadd hx hb dX2_writeLength_47 ?_
    refine lv_iload_n hx hb dX2_writeLength_48 rfl (lv_at hl 4 rfl) ?_
    refine lv_bipush (v := nI 8) hx hb dX2_writeLength_49 (by decide) ?_
    refine lv_iload hx hb dX2_writeLength_51 (lv_at hl 1 rfl) ?_
    refine lv_iload hx hb dX2_writeLength_53 (lv_at hl 0 rfl) ?_
    refine lv_isub hx hb dX2_writeLength_55 ?_
    refine hl_top (show _ = nI 1 by decide) ?_
    refine lv_imul hx hb dX2_writeLength_56 ?_
    refine hl_top (show _ = nI 8 by decide) ?_
    refine lv_ishr hx hb dX2_writeLength_57 ?_
    refine lv_sipush (v := nI 255) hx hb dX2_writeLength_58 (by decide) ?_
    refine lv_iand hx hb dX2_writeLength_61 ?_
    refine hl_top (shr_and (n := n) (k := 8) (by omega) (nI 8 &&& 31) (by decide)) ?_
    refine hl_iast hx hb hK hP hD hS 1 0 rfl rfl (by omega) (by decide) dX2_writeLength_62 (fun H locs hP hD hS => ?_)
    have hP : va_P (dC, dI) vwCl (wW cA v0 v1 v2 (va_up (va_up bt pl 130) (pl + 1) (n / 2 ^ 8 % 256)) wz op dp) H := hP
    have hD : va_D A (wW cA v0 v1 v2 (va_up (va_up bt pl 130) (pl + 1) (n / 2 ^ 8 % 256)) wz op dp) := hD
    refine lv_iinc (v := (nI 2)) (lv' := [(5, .int (nI 2)), (4, .int (nI 2)), (0, .ref v0), (1, .int (nI pl)), (2, .int (nI n)), (3, .int (nI 3))]) hx hb dX2_writeLength_63 hl (k := 0) rfl (by decide) (by decide) rfl (fun ls hl => ?_)
    refine lv_goto (tgt := 33) hx hb dX2_writeLength_66 (by decide) ?_
    refine lv_iload hx hb dX2_writeLength_33 (lv_at hl 0 rfl) ?_
    refine lv_iload hx hb dX2_writeLength_35 (lv_at hl 1 rfl) ?_
    refine hl_icmp_gt (tgt := 69) hx hb dX2_writeLength_37 (by decide) (by omega) (by omega) (fun c_7 => absurd c_7 (by decide)) (fun c_7 => ?_)
    refine lv_aload_n hx hb dX2_writeLength_40 rfl (lv_at hl 2 rfl) ?_
    refine va_get (D := (dC, dI)) (ci := 1) (v := .ref v1) (C := RX2) (T := TX2) (N := 4) hx hb hts hinX2 hown hK hP 0 rfl rfl 0 (by decide) hf_9 (fun _ h9 => h9) rfl dX2_writeLength_41 ?_
    refine lv_iload_n hx hb dX2_writeLength_44 rfl (lv_at hl 3 rfl) ?_
    refine lv_iload hx hb dX2_writeLength_45 (lv_at hl 0 rfl) ?_
    refine hl_iadd hx hb dX2_writeLength_47 ?_
    refine lv_iload_n hx hb dX2_writeLength_48 rfl (lv_at hl 4 rfl) ?_
    refine lv_bipush (v := nI 8) hx hb dX2_writeLength_49 (by decide) ?_
    refine lv_iload hx hb dX2_writeLength_51 (lv_at hl 1 rfl) ?_
    refine lv_iload hx hb dX2_writeLength_53 (lv_at hl 0 rfl) ?_
    refine lv_isub hx hb dX2_writeLength_55 ?_
    refine hl_top (show _ = nI 0 by decide) ?_
    refine lv_imul hx hb dX2_writeLength_56 ?_
    refine hl_top (show _ = nI 0 by decide) ?_
    refine lv_ishr hx hb dX2_writeLength_57 ?_
    refine lv_sipush (v := nI 255) hx hb dX2_writeLength_58 (by decide) ?_
    refine lv_iand hx hb dX2_writeLength_61 ?_
    refine hl_top (shr_and (n := n) (k := 0) (by omega) (nI 0 &&& 31) (by decide)) ?_
    refine hl_iast hx hb hK hP hD hS 1 0 rfl rfl (by omega) (by decide) dX2_writeLength_62 (fun H locs hP hD hS => ?_)
    have hP : va_P (dC, dI) vwCl (wW cA v0 v1 v2 (va_up (va_up (va_up bt pl 130) (pl + 1) (n / 2 ^ 8 % 256)) (pl + 2) (n / 2 ^ 0 % 256)) wz op dp) H := hP
    have hD : va_D A (wW cA v0 v1 v2 (va_up (va_up (va_up bt pl 130) (pl + 1) (n / 2 ^ 8 % 256)) (pl + 2) (n / 2 ^ 0 % 256)) wz op dp) := hD
    refine lv_iinc (v := (nI 3)) (lv' := [(5, .int (nI 3)), (4, .int (nI 2)), (0, .ref v0), (1, .int (nI pl)), (2, .int (nI n)), (3, .int (nI 3))]) hx hb dX2_writeLength_63 hl (k := 0) rfl (by decide) (by decide) rfl (fun ls hl => ?_)
    refine lv_goto (tgt := 33) hx hb dX2_writeLength_66 (by decide) ?_
    refine lv_iload hx hb dX2_writeLength_33 (lv_at hl 0 rfl) ?_
    refine lv_iload hx hb dX2_writeLength_35 (lv_at hl 1 rfl) ?_
    refine hl_icmp_gt (tgt := 69) hx hb dX2_writeLength_37 (by decide) (by omega) (by omega) (fun c_8 => ?_) (fun c_8 => absurd c_8 (by decide))
    have hP9 : va_P (dC, dI) vwCl (vX2_writeLength cA v0 v1 v2 bt wz op dp pl n z (va_up (va_up (va_up bt pl 130) (pl + 1) (n / 2 ^ 8 % 256)) (pl + 2) (n / 2 ^ 0 % 256))) _ := hP
    have hD9 : va_D A (vX2_writeLength cA v0 v1 v2 bt wz op dp pl n z (va_up (va_up (va_up bt pl 130) (pl + 1) (n / 2 ^ 8 % 256)) (pl + 2) (n / 2 ^ 0 % 256))) := hD
    have hq9 : pX2_writeLength v0 v1 v2 bt wz op dp pl n z (va_up (va_up (va_up bt pl 130) (pl + 1) (n / 2 ^ 8 % 256)) (pl + 2) (n / 2 ^ 0 % 256)) := ⟨fun i hi => by rw [ez] at hi ⊢; rcases (show i = 0 ∨ i = 1 ∨ i = 2 by omega) with e | e | e <;> subst e <;> simp [va_up, lnB], fun j hj => by rw [up_ne _ _ (by omega), up_ne _ _ (by omega), up_ne _ _ (by omega)], up_lt (up_lt (up_lt hbt (by omega)) (Nat.mod_lt _ (by decide))) (Nat.mod_lt _ (by decide))⟩
    exact W.vret hx hb hr (fun t ht hW => ⟨⟨(va_up (va_up (va_up bt pl 130) (pl + 1) (n / 2 ^ 8 % 256)) (pl + 2) (n / 2 ^ 0 % 256)), rfl, hq9, by rw [ht]; exact hP9, va_K.moved hW.alike hK, hD9⟩, hS.F ht⟩) hS.2.2 dX2_writeLength_69
abbrev pX2_close (v0 : Nat) (v1 : Nat) (v2 : Nat) (bt : Nat → Nat) (wz : Nat) (op : Nat → Nat) (dp : Nat) : Int32 → (Nat → Nat) × Nat × Nat → Prop := fun (r : Int32) (u : (Nat → Nat) × Nat × Nat) => match u with | (bt2, wz2, dp2) => r = enC dp wz bt op ∧ ((enC dp wz bt op = 0 ∧ 0 < dp ∧ wz + lenSz (enN dp wz op) ≤ 300 ∧ enB dp wz bt op bt2 ∧ wz2 = wz + lenSz (enN dp wz op) ∧ dp2 = dp - 1) ∨ (enC dp wz bt op = -4 ∧ 0 < dp ∧ bt2 = bt ∧ wz2 = op (dp - 1) ∧ dp2 = dp - 1) ∨ (enC dp wz bt op ≠ 0 ∧ enC dp wz bt op ≠ -4 ∧ bt2 = bt ∧ wz2 = wz ∧ dp2 = dp)) ∧ (∀ j, bt2 j < 256)
abbrev vX2_close (cA : ClassId) (v0 : Nat) (v1 : Nat) (v2 : Nat) (bt : Nat → Nat) (wz : Nat) (op : Nat → Nat) (dp : Nat) : (Nat → Nat) × Nat × Nat → va_W := fun (u : (Nat → Nat) × Nat × Nat) => match u with | (bt2, wz2, dp2) => wW cA v0 v1 v2 bt2 wz2 op dp2
abbrev qX2_close (dC : Nat → ClassId) (dI : Nat → Nat → Nat) (cA : ClassId) (A : Nat → Prop) (v0 : Nat) (v1 : Nat) (v2 : Nat) (bt : Nat → Nat) (wz : Nat) (op : Nat → Nat) (dp : Nat) : Array Value → State → Outcome → State → Prop := va_Qi (pX2_close v0 v1 v2 bt wz op dp) (fun u => cAft dC dI cA A (vX2_close cA v0 v1 v2 bt wz op dp u)) A
set_option maxHeartbeats 4000000 in
set_option maxRecDepth 100000 in
theorem k_X2_close (l : Launch) (dC : Nat → ClassId) (dI : Nat → Nat → Nat) (cA : ClassId) (v0 : Nat) (v1 : Nat) (v2 : Nat) (bt : Nat → Nat) (wz : Nat) (op : Nat → Nat) (dp : Nat) (sz : Nat) (hbt : ∀ j, bt j < 256) (hwz : wz ≤ 300) (hdp : dp ≤ 16) (hop : ∀ j, j < dp → op j < wz) : Met l yX2_close wsX2_close ({ frames := 2, cells := 0, slots := 0, locals := 47 } : Room) (va_Pc [.ref v0] (cPre dC dI cA (wW cA v0 v1 v2 bt wz op dp) sz)) (qX2_close dC dI cA (va_A (wW cA v0 v1 v2 bt wz op dp) sz) v0 v1 v2 bt wz op dp) 0 0 (va_A (wW cA v0 v1 v2 bt wz op dp) sz) := by
  refine Met.ofW (cc := cX2_close) (maxL := 5) (ret := (some .int)) (by decide) rfl ?_
  intro p e s m args below meth c s₁ B hml hv
  obtain ⟨rfl, hsz, hP, hK, hD0⟩ := hv
  have hx := B.exec
  have hb := B.bytes
  have hr := B.returns
  have hts := atoms_spec (ws := wsX2_close) B.pre
  have hown : s.vm.findClass RX2 = some m.cls := findClass_of_methodNamed B.named
  have hlocks := B.notSynchronized
  subst hsz
  have hD := hD0.self (sz := s.heap.size)
  generalize hAe : va_A (wW cA v0 v1 v2 bt wz op dp) s.heap.size = A at hD ⊢
  have hA : ∀ q : Nat, s.heap.size ≤ q → A q := fun q h => by rw [← hAe]; exact Or.inr h
  have hS : va_S A s.heap s.heap [] := va_S.rf
  have hl := lv_entry ([.ref v0]) (n := 5) (Nat.le_of_ble_eq_true rfl)
  rw [lg_entry_eq]
  generalize (lg_sl ([.ref v0]) ++ List.replicate (5 - (lg_sl ([.ref v0])).length) Slot.unset).toArray = ls at hl ⊢
  have hl : lv_has ls 5 [(0, .ref v0)] := hl
  have hinX2 : ∀ w ∈ wsX20, w ∈ wsX2_close := fun _ h => List.mem_cons_of_mem _ (List.mem_append_right _ h)
  have hf_9 := hts (.fieldLink RX2 9 "DerDesk$Writer" "bytes" "[I") (by decide +kernel)
  have hf_15 := hts (.fieldLink RX2 15 "DerDesk$Writer" "size" "I") (by decide +kernel)
  have hf_19 := hts (.fieldLink RX2 19 "DerDesk$Writer" "opened" "[I") (by decide +kernel)
  have hf_22 := hts (.fieldLink RX2 22 "DerDesk$Writer" "depth" "I") (by decide +kernel)
  have hP : va_P (dC, dI) vwCl (wW cA v0 v1 v2 bt wz op dp) s.heap := hP
  refine lv_aload_n hx hb dX2_close_0 rfl (lv_at hl 0 rfl) ?_
  refine va_get (D := (dC, dI)) (ci := 1) (v := .int (nI dp)) (C := RX2) (T := TX2) (N := 4) hx hb hts hinX2 hown hK hP 0 rfl rfl 3 (by decide) hf_22 (fun _ h9 => h9) rfl dX2_close_1 ?_
  refine hl_if_ne (tgt := 10) hx hb dX2_close_4 (by decide) (by omega) (fun c_1 => ?_) (fun c_1 => ?_)
  · refine lv_aload_n hx hb dX2_close_10 rfl (lv_at hl 0 rfl) ?_
    refine va_get (D := (dC, dI)) (ci := 1) (v := .ref v2) (C := RX2) (T := TX2) (N := 4) hx hb hts hinX2 hown hK hP 0 rfl rfl 2 (by decide) hf_19 (fun _ h9 => h9) rfl dX2_close_11 ?_
    refine lv_aload_n hx hb dX2_close_14 rfl (lv_at hl 0 rfl) ?_
    refine va_get (D := (dC, dI)) (ci := 1) (v := .int (nI dp)) (C := RX2) (T := TX2) (N := 4) hx hb hts hinX2 hown hK hP 0 rfl rfl 3 (by decide) hf_22 (fun _ h9 => h9) rfl dX2_close_15 ?_
    refine lv_iconst (v := nI 1) hx hb dX2_close_18 (by decide) ?_
    refine hl_isub hx hb (by omega) dX2_close_19 ?_
    refine hl_iald hx hb hK hP 2 0 rfl rfl (by omega) (by decide) dX2_close_20 ?_
    have ho := hop (dp - 1) (by omega)
    refine lv_istore_n (lv' := [(1, .int (nI (op (dp - 1)))), (0, .ref v0)]) hx hb dX2_close_21 rfl hl (by decide) rfl (fun ls hl => ?_)
    refine lv_iload_n hx hb dX2_close_22 rfl (lv_at hl 0 rfl) ?_
    refine lv_iconst (v := nI 1) hx hb dX2_close_23 (by decide) ?_
    refine hl_iadd hx hb dX2_close_24 ?_
    refine lv_istore_n (lv' := [(2, .int (nI ((op (dp - 1)) + 1))), (1, .int (nI (op (dp - 1)))), (0, .ref v0)]) hx hb dX2_close_25 rfl hl (by decide) rfl (fun ls hl => ?_)
    refine lv_aload_n hx hb dX2_close_26 rfl (lv_at hl 2 rfl) ?_
    refine va_get (D := (dC, dI)) (ci := 1) (v := .int (nI wz)) (C := RX2) (T := TX2) (N := 4) hx hb hts hinX2 hown hK hP 0 rfl rfl 1 (by decide) hf_15 (fun _ h9 => h9) rfl dX2_close_27 ?_
    refine lv_iload_n hx hb dX2_close_30 rfl (lv_at hl 0 rfl) ?_
    refine hl_isub hx hb (by omega) dX2_close_31 ?_
    refine lv_istore_n (lv' := [(3, .int (nI (wz - ((op (dp - 1)) + 1)))), (2, .int (nI ((op (dp - 1)) + 1))), (1, .int (nI (op (dp - 1)))), (0, .ref v0)]) hx hb dX2_close_32 rfl hl (by decide) rfl (fun ls hl => ?_)
    refine lv_aload_n hx hb dX2_close_33 rfl (lv_at hl 3 rfl) ?_
    refine va_get (D := (dC, dI)) (ci := 1) (v := .ref v1) (C := RX2) (T := TX2) (N := 4) hx hb hts hinX2 hown hK hP 0 rfl rfl 0 (by decide) hf_9 (fun _ h9 => h9) rfl dX2_close_34 ?_
    refine lv_iload_n hx hb dX2_close_37 rfl (lv_at hl 2 rfl) ?_
    refine hl_iald hx hb hK hP 1 0 rfl rfl (by omega) (by decide) dX2_close_38 ?_
    refine lv_aload_n hx hb dX2_close_39 rfl (lv_at hl 3 rfl) ?_
    refine va_get (D := (dC, dI)) (ci := 1) (v := .ref v1) (C := RX2) (T := TX2) (N := 4) hx hb hts hinX2 hown hK hP 0 rfl rfl 0 (by decide) hf_9 (fun _ h9 => h9) rfl dX2_close_40 ?_
    refine lv_iload_n hx hb dX2_close_43 rfl (lv_at hl 1 rfl) ?_
    refine lv_iload_n hx hb dX2_close_44 rfl (lv_at hl 0 rfl) ?_
    refine cl_Si (As := [.int (nI (bt (op (dp - 1)))), .ref v1, .int (nI ((op (dp - 1)) + 1)), .int (nI (wz - ((op (dp - 1)) + 1)))]) (rest := []) (wr := [(v0, .inr (1, [.ref v1, .int (nI wz), .ref v2, .int (nI dp)])), (v2, .inl (cA, 16, .inl (nA op)))]) ⟨hx, hb, hml, hown, hts⟩ (k_X1_hold l dC dI cA v1 bt (bt (op (dp - 1))) ((op (dp - 1)) + 1) (wz - ((op (dp - 1)) + 1)) _ (hbt _) hbt (by omega)) (va_cwS 4 hts gX2_close_X1_hold rfl rfl rfl (by decide +kernel) ⟨Nat.le_of_ble_eq_true rfl, Nat.le_of_ble_eq_true rfl⟩) hK hP hD hS hA [1] [0, 2] rfl rfl (by decide) (by decide) (by decide) rfl hl.1 rfl (Nat.le_of_ble_eq_true rfl) dX2_close_45 ⟨Nat.le_of_ble_eq_true rfl, Nat.le_of_ble_eq_true rfl⟩ (fun r_2 u_2 H locs hw_2 hP hD hS => ?_)
    have hP : va_P (dC, dI) vwCl (wW cA v0 v1 v2 bt wz op dp) H := hP.sub [0, 2, 1] rfl
    have hD : va_D A (wW cA v0 v1 v2 bt wz op dp) := hD.sub [0, 2, 1] (by decide) rfl
    have hw_2 : r_2 = if okC (bt (op (dp - 1))) bt ((op (dp - 1)) + 1) (wz - ((op (dp - 1)) + 1)) = true then 1 else 0 := hw_2
    have hw_2 := hw_2.symm
    subst hw_2
    refine hl_ifb_ne (tgt := 69) hx hb dX2_close_48 (by decide) (fun c_3 => ?_) (fun c_3 => ?_)
    · refine lv_iload_n hx hb dX2_close_69 rfl (lv_at hl 0 rfl) ?_
      refine cl_Si (As := [.int (nI (wz - ((op (dp - 1)) + 1)))]) (rest := []) (wr := [(v0, .inr (1, [.ref v1, .int (nI wz), .ref v2, .int (nI dp)])), (v1, .inl (cA, 300, .inl (nA bt))), (v2, .inl (cA, 16, .inl (nA op)))]) ⟨hx, hb, hml, hown, hts⟩ (k_X1_lengthSize l dC dI cA (wz - ((op (dp - 1)) + 1)) _ (by omega)) (va_cwS 1 hts gX2_close_X1_lengthSize rfl rfl rfl (by decide +kernel) ⟨Nat.le_of_ble_eq_true rfl, Nat.le_of_ble_eq_true rfl⟩) hK hP hD hS hA [] [0, 1, 2] rfl rfl (by decide) (by decide) (by decide) rfl hl.1 rfl (Nat.le_of_ble_eq_true rfl) dX2_close_70 ⟨Nat.le_of_ble_eq_true rfl, Nat.le_of_ble_eq_true rfl⟩ (fun r_4 u_4 H locs hw_4 hP hD hS => ?_)
      have hP : va_P (dC, dI) vwCl (wW cA v0 v1 v2 bt wz op dp) H := hP
      have hD : va_D A (wW cA v0 v1 v2 bt wz op dp) := hD
      have hw_4 : r_4 = nI (lenSz (wz - ((op (dp - 1)) + 1))) := hw_4
      have hw_4 := hw_4.symm
      subst hw_4
      have hz_4 := lenSz_le (wz - ((op (dp - 1)) + 1))
      refine lv_istore (lv' := [(4, .int (nI (lenSz (wz - ((op (dp - 1)) + 1))))), (3, .int (nI (wz - ((op (dp - 1)) + 1)))), (2, .int (nI ((op (dp - 1)) + 1))), (1, .int (nI (op (dp - 1)))), (0, .ref v0)]) hx hb dX2_close_73 hl (by decide) rfl (fun ls hl => ?_)
      refine lv_aload_n hx hb dX2_close_75 rfl (lv_at hl 4 rfl) ?_
      refine lv_iload hx hb dX2_close_76 (lv_at hl 0 rfl) ?_
      refine cl_Vi (As := [.int (nI (lenSz (wz - ((op (dp - 1)) + 1))))]) (rest := []) (wr := []) ⟨hx, hb, hml, hown, hts⟩ (k_X2_hasRoom l dC dI cA v0 v1 v2 bt wz op dp (lenSz (wz - ((op (dp - 1)) + 1))) _ hwz (by omega)) (cwV 1 hts gX2_close_X2_hasRoom rfl rfl rfl (by decide +kernel) ⟨Nat.le_of_ble_eq_true rfl, Nat.le_of_ble_eq_true rfl⟩) hK hP hD hS hA [0, 1, 2] [] rfl rfl (by decide) (by decide) (by decide) (ci := 1) (q0 := 0) rfl rfl rfl rfl hl.1 rfl (Nat.le_of_ble_eq_true rfl) dX2_close_78 ⟨Nat.le_of_ble_eq_true rfl, Nat.le_of_ble_eq_true rfl⟩ (fun r_5 u_5 H locs hw_5 hP hD hS => ?_)
      have hP : va_P (dC, dI) vwCl (wW cA v0 v1 v2 bt wz op dp) H := hP
      have hD : va_D A (wW cA v0 v1 v2 bt wz op dp) := hD
      have hw_5 : r_5 = if wz + (lenSz (wz - ((op (dp - 1)) + 1))) ≤ 300 then 1 else 0 := hw_5
      have hw_5 := hw_5.symm
      subst hw_5
      refine hl_ifb_ne (tgt := 87) hx hb dX2_close_81 (by decide) (fun c_6 => ?_) (fun c_6 => ?_)
      · refine lv_aload_n hx hb dX2_close_87 rfl (lv_at hl 4 rfl) ?_
        refine lv_iload_n hx hb dX2_close_88 rfl (lv_at hl 2 rfl) ?_
        refine lv_iload hx hb dX2_close_89 (lv_at hl 0 rfl) ?_
        refine cl_Vv (As := [.int (nI ((op (dp - 1)) + 1)), .int (nI (lenSz (wz - ((op (dp - 1)) + 1))))]) (rest := []) (wr := []) ⟨hx, hb, hml, hown, hts⟩ (k_X2_makeGap l dC dI cA v0 v1 v2 bt wz op dp ((op (dp - 1)) + 1) (lenSz (wz - ((op (dp - 1)) + 1))) _ hbt (by omega) (by omega) (by omega)) (cwV 2 hts gX2_close_X2_makeGap rfl rfl rfl (by decide +kernel) ⟨Nat.le_of_ble_eq_true rfl, Nat.le_of_ble_eq_true rfl⟩) hK hP hD hS hA [0, 1, 2] [] rfl rfl (by decide) (by decide) (by decide) (ci := 1) (q0 := 0) rfl rfl rfl rfl hl.1 rfl (Nat.le_of_ble_eq_true rfl) dX2_close_91 ⟨Nat.le_of_ble_eq_true rfl, Nat.le_of_ble_eq_true rfl⟩ (fun u_7 H locs hw_7 hP hD hS => ?_)
        obtain ⟨bt2_7, wz2_7⟩ := u_7
        have hP : va_P (dC, dI) vwCl (wW cA v0 v1 v2 bt2_7 wz2_7 op dp) H := hP
        have hD : va_D A (wW cA v0 v1 v2 bt2_7 wz2_7 op dp) := hD
        have hw_7 : wz2_7 = wz + (lenSz (wz - ((op (dp - 1)) + 1))) ∧ (∀ j, j < ((op (dp - 1)) + 1) → bt2_7 j = bt j) ∧ (∀ j, ((op (dp - 1)) + 1) ≤ j → j < wz → bt2_7 (j + (lenSz (wz - ((op (dp - 1)) + 1)))) = bt j) ∧ (∀ j, bt2_7 j < 256) := hw_7
        obtain ⟨eg, g1, g2, g3⟩ := hw_7
        have eg := eg.symm
        subst eg
        refine lv_aload_n hx hb dX2_close_94 rfl (lv_at hl 4 rfl) ?_
        refine lv_iload_n hx hb dX2_close_95 rfl (lv_at hl 2 rfl) ?_
        refine lv_iload_n hx hb dX2_close_96 rfl (lv_at hl 1 rfl) ?_
        refine lv_iload hx hb dX2_close_97 (lv_at hl 0 rfl) ?_
        refine cl_Vv (As := [.int (nI ((op (dp - 1)) + 1)), .int (nI (wz - ((op (dp - 1)) + 1))), .int (nI (lenSz (wz - ((op (dp - 1)) + 1))))]) (rest := []) (wr := []) ⟨hx, hb, hml, hown, hts⟩ (k_X2_writeLength l dC dI cA v0 v1 v2 bt2_7 (wz + (lenSz (wz - ((op (dp - 1)) + 1)))) op dp ((op (dp - 1)) + 1) (wz - ((op (dp - 1)) + 1)) (lenSz (wz - ((op (dp - 1)) + 1))) _ g3 rfl (by omega) (by omega)) (cwV 3 hts gX2_close_X2_writeLength rfl rfl rfl (by decide +kernel) ⟨Nat.le_of_ble_eq_true rfl, Nat.le_of_ble_eq_true rfl⟩) hK hP hD hS hA [0, 1, 2] [] rfl rfl (by decide) (by decide) (by decide) (ci := 1) (q0 := 0) rfl rfl rfl rfl hl.1 rfl (Nat.le_of_ble_eq_true rfl) dX2_close_99 ⟨Nat.le_of_ble_eq_true rfl, Nat.le_of_ble_eq_true rfl⟩ (fun u_8 H locs hw_8 hP hD hS => ?_)
        obtain ⟨bt2_8, eu_8⟩ : ∃ z, z = u_8 := ⟨_, rfl⟩
        subst eu_8
        have hP : va_P (dC, dI) vwCl (wW cA v0 v1 v2 bt2_8 (wz + (lenSz (wz - ((op (dp - 1)) + 1)))) op dp) H := hP
        have hD : va_D A (wW cA v0 v1 v2 bt2_8 (wz + (lenSz (wz - ((op (dp - 1)) + 1)))) op dp) := hD
        have hw_8 : (∀ i, i < (lenSz (wz - ((op (dp - 1)) + 1))) → bt2_8 (((op (dp - 1)) + 1) + i) = lnB (wz - ((op (dp - 1)) + 1)) (lenSz (wz - ((op (dp - 1)) + 1))) i) ∧ (∀ j, j < ((op (dp - 1)) + 1) ∨ ((op (dp - 1)) + 1) + (lenSz (wz - ((op (dp - 1)) + 1))) ≤ j → bt2_8 j = bt2_7 j) ∧ (∀ j, bt2_8 j < 256) := hw_8
        obtain ⟨l1, l2, l3⟩ := hw_8
        refine lv_aload_n hx hb dX2_close_102 rfl (lv_at hl 4 rfl) ?_
        refine lv_dup hx hb dX2_close_103 rfl ?_
        refine va_get (D := (dC, dI)) (ci := 1) (v := .int (nI dp)) (C := RX2) (T := TX2) (N := 4) hx hb hts hinX2 hown hK hP 0 rfl rfl 3 (by decide) hf_22 (fun _ h9 => h9) rfl dX2_close_104 ?_
        refine lv_iconst (v := nI 1) hx hb dX2_close_107 (by decide) ?_
        refine hl_isub hx hb (by omega) dX2_close_108 ?_
        refine va_put (D := (dC, dI)) (ci := 1) (v := .int (nI (dp - 1))) (ty := .int) (C := RX2) (T := TX2) (N := 4) hx hb hts hinX2 tyX2 tyX2_ok nmX2 hown hK hP hD hS 0 rfl rfl 3 (by decide) hf_22 (fun _ h9 => h9) rfl (by decide +kernel) rfl rfl (Nat.le_of_ble_eq_true rfl) dX2_close_109 (fun H locs hP hD hS => ?_)
        have hP : va_P (dC, dI) vwCl (wW cA v0 v1 v2 bt2_8 (wz + (lenSz (wz - ((op (dp - 1)) + 1)))) op (dp - 1)) H := hP
        have hD : va_D A (wW cA v0 v1 v2 bt2_8 (wz + (lenSz (wz - ((op (dp - 1)) + 1)))) op (dp - 1)) := hD
        refine lv_iconst (v := nI 0) hx hb dX2_close_112 (by decide) ?_
        have hP9 : va_P (dC, dI) vwCl (vX2_close cA v0 v1 v2 bt wz op dp (bt2_8, wz + (lenSz (wz - ((op (dp - 1)) + 1))), dp - 1)) _ := hP
        have hD9 : va_D A (vX2_close cA v0 v1 v2 bt wz op dp (bt2_8, wz + (lenSz (wz - ((op (dp - 1)) + 1))), dp - 1)) := hD
        have hq9 : pX2_close v0 v1 v2 bt wz op dp (nI 0) (bt2_8, wz + (lenSz (wz - ((op (dp - 1)) + 1))), dp - 1) := (by have e : enC dp wz bt op = 0 := (by unfold enC; rw [if_neg (by omega), if_neg (fun h => h (by assumption)), if_neg (Nat.not_lt.mpr (by assumption))]); exact ⟨e.symm, Or.inl ⟨e, by omega, by assumption, ⟨fun j hj => (l2 j (Or.inl hj)).trans (g1 j hj), l1, fun j ha hb => (l2 (j + lenSz (wz - (op (dp - 1) + 1))) (Or.inr (by omega))).trans (g2 j ha hb)⟩, rfl, rfl⟩, l3⟩)
        exact W.iret (v := nI 0) hx hb hr (fun t ht hW => ⟨⟨nI 0, (bt2_8, wz + (lenSz (wz - ((op (dp - 1)) + 1))), dp - 1), rfl, hq9, by rw [ht]; exact hP9, va_K.moved hW.alike hK, hD9⟩, hS.F ht⟩) hS.2.2 dX2_close_113
      · refine lv_bipush (v := (-3)) hx hb dX2_close_84 (by decide) ?_
        have hP9 : va_P (dC, dI) vwCl (vX2_close cA v0 v1 v2 bt wz op dp (bt, wz, dp)) _ := hP
        have hD9 : va_D A (vX2_close cA v0 v1 v2 bt wz op dp (bt, wz, dp)) := hD
        have hq9 : pX2_close v0 v1 v2 bt wz op dp ((-3)) (bt, wz, dp) := (by have e : enC dp wz bt op = (-3) := (by unfold enC; rw [if_neg (by omega), if_neg (fun h => h (by assumption)), if_pos (Nat.not_le.mp (by assumption))]); exact ⟨e.symm, Or.inr (Or.inr ⟨by rw [e]; decide, by rw [e]; decide, rfl, rfl, rfl⟩), hbt⟩)
        exact W.iret (v := (-3)) hx hb hr (fun t ht hW => ⟨⟨(-3), (bt, wz, dp), rfl, hq9, by rw [ht]; exact hP9, va_K.moved hW.alike hK, hD9⟩, hS.F ht⟩) hS.2.2 dX2_close_86
    · refine lv_aload_n hx hb dX2_close_51 rfl (lv_at hl 3 rfl) ?_
      refine lv_iload_n hx hb dX2_close_52 rfl (lv_at hl 2 rfl) ?_
      refine va_put (D := (dC, dI)) (ci := 1) (v := .int (nI (op (dp - 1)))) (ty := .int) (C := RX2) (T := TX2) (N := 4) hx hb hts hinX2 tyX2 tyX2_ok nmX2 hown hK hP hD hS 0 rfl rfl 1 (by decide) hf_15 (fun _ h9 => h9) rfl (by decide +kernel) rfl rfl (Nat.le_of_ble_eq_true rfl) dX2_close_53 (fun H locs hP hD hS => ?_)
      have hP : va_P (dC, dI) vwCl (wW cA v0 v1 v2 bt (op (dp - 1)) op dp) H := hP
      have hD : va_D A (wW cA v0 v1 v2 bt (op (dp - 1)) op dp) := hD
      refine lv_aload_n hx hb dX2_close_56 rfl (lv_at hl 3 rfl) ?_
      refine lv_dup hx hb dX2_close_57 rfl ?_
      refine va_get (D := (dC, dI)) (ci := 1) (v := .int (nI dp)) (C := RX2) (T := TX2) (N := 4) hx hb hts hinX2 hown hK hP 0 rfl rfl 3 (by decide) hf_22 (fun _ h9 => h9) rfl dX2_close_58 ?_
      refine lv_iconst (v := nI 1) hx hb dX2_close_61 (by decide) ?_
      refine hl_isub hx hb (by omega) dX2_close_62 ?_
      refine va_put (D := (dC, dI)) (ci := 1) (v := .int (nI (dp - 1))) (ty := .int) (C := RX2) (T := TX2) (N := 4) hx hb hts hinX2 tyX2 tyX2_ok nmX2 hown hK hP hD hS 0 rfl rfl 3 (by decide) hf_22 (fun _ h9 => h9) rfl (by decide +kernel) rfl rfl (Nat.le_of_ble_eq_true rfl) dX2_close_63 (fun H locs hP hD hS => ?_)
      have hP : va_P (dC, dI) vwCl (wW cA v0 v1 v2 bt (op (dp - 1)) op (dp - 1)) H := hP
      have hD : va_D A (wW cA v0 v1 v2 bt (op (dp - 1)) op (dp - 1)) := hD
      refine lv_bipush (v := (-4)) hx hb dX2_close_66 (by decide) ?_
      have hP9 : va_P (dC, dI) vwCl (vX2_close cA v0 v1 v2 bt wz op dp (bt, op (dp - 1), dp - 1)) _ := hP
      have hD9 : va_D A (vX2_close cA v0 v1 v2 bt wz op dp (bt, op (dp - 1), dp - 1)) := hD
      have hq9 : pX2_close v0 v1 v2 bt wz op dp ((-4)) (bt, op (dp - 1), dp - 1) := (by have e : enC dp wz bt op = (-4) := (by unfold enC; rw [if_neg (by omega), if_pos (by assumption)]); exact ⟨e.symm, Or.inr (Or.inl ⟨e, by omega, rfl, rfl, rfl⟩), hbt⟩)
      exact W.iret (v := (-4)) hx hb hr (fun t ht hW => ⟨⟨(-4), (bt, op (dp - 1), dp - 1), rfl, hq9, by rw [ht]; exact hP9, va_K.moved hW.alike hK, hD9⟩, hS.F ht⟩) hS.2.2 dX2_close_68
  · refine lv_bipush (v := (-2)) hx hb dX2_close_7 (by decide) ?_
    have hP9 : va_P (dC, dI) vwCl (vX2_close cA v0 v1 v2 bt wz op dp (bt, wz, dp)) _ := hP
    have hD9 : va_D A (vX2_close cA v0 v1 v2 bt wz op dp (bt, wz, dp)) := hD
    have hq9 : pX2_close v0 v1 v2 bt wz op dp ((-2)) (bt, wz, dp) := (by have e : enC dp wz bt op = (-2) := (by unfold enC; rw [if_pos (by assumption)]); exact ⟨e.symm, Or.inr (Or.inr ⟨by rw [e]; decide, by rw [e]; decide, rfl, rfl, rfl⟩), hbt⟩)
    exact W.iret (v := (-2)) hx hb hr (fun t ht hW => ⟨⟨(-2), (bt, wz, dp), rfl, hq9, by rw [ht]; exact hP9, va_K.moved hW.alike hK, hD9⟩, hS.F ht⟩) hS.2.2 dX2_close_9
end
