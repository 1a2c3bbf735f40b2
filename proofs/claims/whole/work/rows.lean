section
-- ===== PART A: goes FIRST, ahead of the names: the tables' words, and 'selects' of the private methods out of them =====
/-- a private method of a class that the tables say can be made, by its rows of tables_1 -/
def lw_okq (q : MethodName × Nat) : Prop := (q.1.cls ≠ "java/lang/invoke/MethodHandle" ∧ q.1.cls ≠ "java/lang/invoke/VarHandle") ∧ Cond.instantiable q.1.cls q.2 ∈ tables_1 ∧ Cond.privateMethod q.1 ∈ tables_1 ∧ Cond.instanceMethod q.1 ∈ tables_1
theorem lw_p0 : lw_okq (⟨"PackingSearch", "fitsAlone", "(LPackingSearch$Piece;)Z"⟩, 13) := ⟨⟨by decide +kernel, by decide +kernel⟩, List.mem_of_getElem? (i := 19) (by decide +kernel), List.mem_of_getElem? (i := 200) (by decide +kernel), List.mem_of_getElem? (i := 201) (by decide +kernel)⟩
theorem lw_p1 : lw_okq (⟨"PackingSearch", "unpackedCount", "()I"⟩, 13) := ⟨⟨by decide +kernel, by decide +kernel⟩, List.mem_of_getElem? (i := 19) (by decide +kernel), List.mem_of_getElem? (i := 243) (by decide +kernel), List.mem_of_getElem? (i := 244) (by decide +kernel)⟩
theorem lw_p2 : lw_okq (⟨"java/lang/Throwable", "fillInStackTrace", "(I)Ljava/lang/Throwable;"⟩, 6) := ⟨⟨by decide +kernel, by decide +kernel⟩, List.mem_of_getElem? (i := 328) (by decide +kernel), List.mem_of_getElem? (i := 326) (by decide +kernel), List.mem_of_getElem? (i := 327) (by decide +kernel)⟩
theorem lw_p3 : lw_okq (⟨"PackingSearch", "known", "(I)LPackingSearch$Piece;"⟩, 13) := ⟨⟨by decide +kernel, by decide +kernel⟩, List.mem_of_getElem? (i := 19) (by decide +kernel), List.mem_of_getElem? (i := 387) (by decide +kernel), List.mem_of_getElem? (i := 388) (by decide +kernel)⟩
theorem lw_p4 : lw_okq (⟨"PackingSearch$Piece", "isLikeOneLet", "(I)Z"⟩, 8) := ⟨⟨by decide +kernel, by decide +kernel⟩, List.mem_of_getElem? (i := 37) (by decide +kernel), List.mem_of_getElem? (i := 415) (by decide +kernel), List.mem_of_getElem? (i := 416) (by decide +kernel)⟩
theorem lw_p5 : lw_okq (⟨"PackingSearch", "positionOf", "(LPackingSearch$Piece;I)I"⟩, 13) := ⟨⟨by decide +kernel, by decide +kernel⟩, List.mem_of_getElem? (i := 19) (by decide +kernel), List.mem_of_getElem? (i := 449) (by decide +kernel), List.mem_of_getElem? (i := 450) (by decide +kernel)⟩
theorem lw_p6 : lw_okq (⟨"PackingSearch", "startSearch", "(I)V"⟩, 13) := ⟨⟨by decide +kernel, by decide +kernel⟩, List.mem_of_getElem? (i := 19) (by decide +kernel), List.mem_of_getElem? (i := 469) (by decide +kernel), List.mem_of_getElem? (i := 470) (by decide +kernel)⟩
theorem lw_p7 : lw_okq (⟨"PackingSearch", "putInOrder", "()V"⟩, 13) := ⟨⟨by decide +kernel, by decide +kernel⟩, List.mem_of_getElem? (i := 19) (by decide +kernel), List.mem_of_getElem? (i := 481) (by decide +kernel), List.mem_of_getElem? (i := 482) (by decide +kernel)⟩
theorem lw_p8 : lw_okq (⟨"PackingSearch", "searchFrom", "(I)V"⟩, 13) := ⟨⟨by decide +kernel, by decide +kernel⟩, List.mem_of_getElem? (i := 19) (by decide +kernel), List.mem_of_getElem? (i := 485) (by decide +kernel), List.mem_of_getElem? (i := 486) (by decide +kernel)⟩
theorem lw_p9 : lw_okq (⟨"PackingSearch", "lookAtTrial", "()V"⟩, 13) := ⟨⟨by decide +kernel, by decide +kernel⟩, List.mem_of_getElem? (i := 19) (by decide +kernel), List.mem_of_getElem? (i := 489) (by decide +kernel), List.mem_of_getElem? (i := 490) (by decide +kernel)⟩
theorem lw_p10 : lw_okq (⟨"PackingSearch", "tryWay", "(ILPackingSearch$Piece;LPackingSearch$Spot;I)V"⟩, 13) := ⟨⟨by decide +kernel, by decide +kernel⟩, List.mem_of_getElem? (i := 19) (by decide +kernel), List.mem_of_getElem? (i := 501) (by decide +kernel), List.mem_of_getElem? (i := 502) (by decide +kernel)⟩
theorem lw_p11 : lw_okq (⟨"PackingSearch$Plan", "hasRoomFor", "(LPackingSearch$Spot;)Z"⟩, 4) := ⟨⟨by decide +kernel, by decide +kernel⟩, List.mem_of_getElem? (i := 72) (by decide +kernel), List.mem_of_getElem? (i := 522) (by decide +kernel), List.mem_of_getElem? (i := 523) (by decide +kernel)⟩
theorem lw_p12 : lw_okq (⟨"PackingSearch$Plan", "weightsAreBorne", "()Z"⟩, 4) := ⟨⟨by decide +kernel, by decide +kernel⟩, List.mem_of_getElem? (i := 72) (by decide +kernel), List.mem_of_getElem? (i := 549) (by decide +kernel), List.mem_of_getElem? (i := 550) (by decide +kernel)⟩
theorem lw_p13 : lw_okq (⟨"PackingSearch", "spotOf", "(I)LPackingSearch$Spot;"⟩, 13) := ⟨⟨by decide +kernel, by decide +kernel⟩, List.mem_of_getElem? (i := 19) (by decide +kernel), List.mem_of_getElem? (i := 570) (by decide +kernel), List.mem_of_getElem? (i := 571) (by decide +kernel)⟩
theorem lw_p14 : lw_okq (⟨"PackingSearchModel", "noPiece", "(I)Z"⟩, 37) := ⟨⟨by decide +kernel, by decide +kernel⟩, List.mem_of_getElem? (i := 695) (by decide +kernel), List.mem_of_getElem? (i := 831) (by decide +kernel), List.mem_of_getElem? (i := 832) (by decide +kernel)⟩
theorem lw_p15 : lw_okq (⟨"PackingSearchModel", "let", "(II)Z"⟩, 37) := ⟨⟨by decide +kernel, by decide +kernel⟩, List.mem_of_getElem? (i := 695) (by decide +kernel), List.mem_of_getElem? (i := 835) (by decide +kernel), List.mem_of_getElem? (i := 836) (by decide +kernel)⟩
def lw_privs_1 : List (MethodName × Nat) := [(⟨"PackingSearch", "fitsAlone", "(LPackingSearch$Piece;)Z"⟩, 13), (⟨"PackingSearch", "unpackedCount", "()I"⟩, 13), (⟨"java/lang/Throwable", "fillInStackTrace", "(I)Ljava/lang/Throwable;"⟩, 6), (⟨"PackingSearch", "known", "(I)LPackingSearch$Piece;"⟩, 13), (⟨"PackingSearch$Piece", "isLikeOneLet", "(I)Z"⟩, 8), (⟨"PackingSearch", "positionOf", "(LPackingSearch$Piece;I)I"⟩, 13), (⟨"PackingSearch", "startSearch", "(I)V"⟩, 13), (⟨"PackingSearch", "putInOrder", "()V"⟩, 13), (⟨"PackingSearch", "searchFrom", "(I)V"⟩, 13), (⟨"PackingSearch", "lookAtTrial", "()V"⟩, 13), (⟨"PackingSearch", "tryWay", "(ILPackingSearch$Piece;LPackingSearch$Spot;I)V"⟩, 13), (⟨"PackingSearch$Plan", "hasRoomFor", "(LPackingSearch$Spot;)Z"⟩, 4), (⟨"PackingSearch$Plan", "weightsAreBorne", "()Z"⟩, 4), (⟨"PackingSearch", "spotOf", "(I)LPackingSearch$Spot;"⟩, 13), (⟨"PackingSearchModel", "noPiece", "(I)Z"⟩, 37), (⟨"PackingSearchModel", "let", "(II)Z"⟩, 37)]
theorem lw_r1 : ∀ q ∈ lw_privs_1, lw_okq q := List.forall_mem_cons.mpr ⟨lw_p0, List.forall_mem_cons.mpr ⟨lw_p1, List.forall_mem_cons.mpr ⟨lw_p2, List.forall_mem_cons.mpr ⟨lw_p3, List.forall_mem_cons.mpr ⟨lw_p4, List.forall_mem_cons.mpr ⟨lw_p5, List.forall_mem_cons.mpr ⟨lw_p6, List.forall_mem_cons.mpr ⟨lw_p7, List.forall_mem_cons.mpr ⟨lw_p8, List.forall_mem_cons.mpr ⟨lw_p9, List.forall_mem_cons.mpr ⟨lw_p10, List.forall_mem_cons.mpr ⟨lw_p11, List.forall_mem_cons.mpr ⟨lw_p12, List.forall_mem_cons.mpr ⟨lw_p13, List.forall_mem_cons.mpr ⟨lw_p14, List.forall_mem_cons.mpr ⟨lw_p15, fun _ h => absurd h List.not_mem_nil⟩⟩⟩⟩⟩⟩⟩⟩⟩⟩⟩⟩⟩⟩⟩⟩
theorem lw_p16 : lw_okq (⟨"PackingSearchModel", "byMarks", "(II)Z"⟩, 37) := ⟨⟨by decide +kernel, by decide +kernel⟩, List.mem_of_getElem? (i := 695) (by decide +kernel), List.mem_of_getElem? (i := 839) (by decide +kernel), List.mem_of_getElem? (i := 840) (by decide +kernel)⟩
theorem lw_p17 : lw_okq (⟨"PackingSearchModel", "measure", "(III)I"⟩, 37) := ⟨⟨by decide +kernel, by decide +kernel⟩, List.mem_of_getElem? (i := 695) (by decide +kernel), List.mem_of_getElem? (i := 843) (by decide +kernel), List.mem_of_getElem? (i := 844) (by decide +kernel)⟩
theorem lw_p18 : lw_okq (⟨"PackingSearchModel", "findOrder", "()V"⟩, 37) := ⟨⟨by decide +kernel, by decide +kernel⟩, List.mem_of_getElem? (i := 695) (by decide +kernel), List.mem_of_getElem? (i := 858) (by decide +kernel), List.mem_of_getElem? (i := 859) (by decide +kernel)⟩
theorem lw_p19 : lw_okq (⟨"PackingSearchModel", "search", "(I)Z"⟩, 37) := ⟨⟨by decide +kernel, by decide +kernel⟩, List.mem_of_getElem? (i := 695) (by decide +kernel), List.mem_of_getElem? (i := 870) (by decide +kernel), List.mem_of_getElem? (i := 871) (by decide +kernel)⟩
theorem lw_p20 : lw_okq (⟨"PackingSearchModel", "enter", "(I)V"⟩, 37) := ⟨⟨by decide +kernel, by decide +kernel⟩, List.mem_of_getElem? (i := 695) (by decide +kernel), List.mem_of_getElem? (i := 874) (by decide +kernel), List.mem_of_getElem? (i := 875) (by decide +kernel)⟩
theorem lw_p21 : lw_okq (⟨"PackingSearchModel", "end", "(III)V"⟩, 37) := ⟨⟨by decide +kernel, by decide +kernel⟩, List.mem_of_getElem? (i := 695) (by decide +kernel), List.mem_of_getElem? (i := 878) (by decide +kernel), List.mem_of_getElem? (i := 879) (by decide +kernel)⟩
theorem lw_p22 : lw_okq (⟨"PackingSearchModel", "look", "()V"⟩, 37) := ⟨⟨by decide +kernel, by decide +kernel⟩, List.mem_of_getElem? (i := 695) (by decide +kernel), List.mem_of_getElem? (i := 882) (by decide +kernel), List.mem_of_getElem? (i := 883) (by decide +kernel)⟩
theorem lw_p23 : lw_okq (⟨"PackingSearchModel", "volumeNow", "()I"⟩, 37) := ⟨⟨by decide +kernel, by decide +kernel⟩, List.mem_of_getElem? (i := 695) (by decide +kernel), List.mem_of_getElem? (i := 886) (by decide +kernel), List.mem_of_getElem? (i := 887) (by decide +kernel)⟩
theorem lw_p24 : lw_okq (⟨"PackingSearchModel", "volume", "(I)I"⟩, 37) := ⟨⟨by decide +kernel, by decide +kernel⟩, List.mem_of_getElem? (i := 695) (by decide +kernel), List.mem_of_getElem? (i := 890) (by decide +kernel), List.mem_of_getElem? (i := 891) (by decide +kernel)⟩
theorem lw_p25 : lw_okq (⟨"PackingSearchModel", "advance", "(I)Z"⟩, 37) := ⟨⟨by decide +kernel, by decide +kernel⟩, List.mem_of_getElem? (i := 695) (by decide +kernel), List.mem_of_getElem? (i := 894) (by decide +kernel), List.mem_of_getElem? (i := 895) (by decide +kernel)⟩
theorem lw_p26 : lw_okq (⟨"PackingSearchModel", "stand", "(IIIII)V"⟩, 37) := ⟨⟨by decide +kernel, by decide +kernel⟩, List.mem_of_getElem? (i := 695) (by decide +kernel), List.mem_of_getElem? (i := 898) (by decide +kernel), List.mem_of_getElem? (i := 899) (by decide +kernel)⟩
theorem lw_p27 : lw_okq (⟨"PackingSearchModel", "isPlan", "()Z"⟩, 37) := ⟨⟨by decide +kernel, by decide +kernel⟩, List.mem_of_getElem? (i := 695) (by decide +kernel), List.mem_of_getElem? (i := 902) (by decide +kernel), List.mem_of_getElem? (i := 903) (by decide +kernel)⟩
theorem lw_p28 : lw_okq (⟨"PackingSearchModel", "supportOf", "(I)I"⟩, 37) := ⟨⟨by decide +kernel, by decide +kernel⟩, List.mem_of_getElem? (i := 695) (by decide +kernel), List.mem_of_getElem? (i := 906) (by decide +kernel), List.mem_of_getElem? (i := 907) (by decide +kernel)⟩
theorem lw_p29 : lw_okq (⟨"PackingSearchModel", "standsOn", "(II)Z"⟩, 37) := ⟨⟨by decide +kernel, by decide +kernel⟩, List.mem_of_getElem? (i := 695) (by decide +kernel), List.mem_of_getElem? (i := 910) (by decide +kernel), List.mem_of_getElem? (i := 911) (by decide +kernel)⟩
theorem lw_p30 : lw_okq (⟨"PackingSearchModel", "area", "(II)I"⟩, 37) := ⟨⟨by decide +kernel, by decide +kernel⟩, List.mem_of_getElem? (i := 695) (by decide +kernel), List.mem_of_getElem? (i := 914) (by decide +kernel), List.mem_of_getElem? (i := 915) (by decide +kernel)⟩
theorem lw_p31 : lw_okq (⟨"PackingSearchModel", "borne", "(I)I"⟩, 37) := ⟨⟨by decide +kernel, by decide +kernel⟩, List.mem_of_getElem? (i := 695) (by decide +kernel), List.mem_of_getElem? (i := 921) (by decide +kernel), List.mem_of_getElem? (i := 922) (by decide +kernel)⟩
def lw_privs_2 : List (MethodName × Nat) := [(⟨"PackingSearchModel", "byMarks", "(II)Z"⟩, 37), (⟨"PackingSearchModel", "measure", "(III)I"⟩, 37), (⟨"PackingSearchModel", "findOrder", "()V"⟩, 37), (⟨"PackingSearchModel", "search", "(I)Z"⟩, 37), (⟨"PackingSearchModel", "enter", "(I)V"⟩, 37), (⟨"PackingSearchModel", "end", "(III)V"⟩, 37), (⟨"PackingSearchModel", "look", "()V"⟩, 37), (⟨"PackingSearchModel", "volumeNow", "()I"⟩, 37), (⟨"PackingSearchModel", "volume", "(I)I"⟩, 37), (⟨"PackingSearchModel", "advance", "(I)Z"⟩, 37), (⟨"PackingSearchModel", "stand", "(IIIII)V"⟩, 37), (⟨"PackingSearchModel", "isPlan", "()Z"⟩, 37), (⟨"PackingSearchModel", "supportOf", "(I)I"⟩, 37), (⟨"PackingSearchModel", "standsOn", "(II)Z"⟩, 37), (⟨"PackingSearchModel", "area", "(II)I"⟩, 37), (⟨"PackingSearchModel", "borne", "(I)I"⟩, 37)]
theorem lw_r2 : ∀ q ∈ lw_privs_2, lw_okq q := List.forall_mem_cons.mpr ⟨lw_p16, List.forall_mem_cons.mpr ⟨lw_p17, List.forall_mem_cons.mpr ⟨lw_p18, List.forall_mem_cons.mpr ⟨lw_p19, List.forall_mem_cons.mpr ⟨lw_p20, List.forall_mem_cons.mpr ⟨lw_p21, List.forall_mem_cons.mpr ⟨lw_p22, List.forall_mem_cons.mpr ⟨lw_p23, List.forall_mem_cons.mpr ⟨lw_p24, List.forall_mem_cons.mpr ⟨lw_p25, List.forall_mem_cons.mpr ⟨lw_p26, List.forall_mem_cons.mpr ⟨lw_p27, List.forall_mem_cons.mpr ⟨lw_p28, List.forall_mem_cons.mpr ⟨lw_p29, List.forall_mem_cons.mpr ⟨lw_p30, List.forall_mem_cons.mpr ⟨lw_p31, fun _ h => absurd h List.not_mem_nil⟩⟩⟩⟩⟩⟩⟩⟩⟩⟩⟩⟩⟩⟩⟩⟩
theorem lw_p32 : lw_okq (⟨"PackingSearchModel", "goesIn", "(I)Z"⟩, 37) := ⟨⟨by decide +kernel, by decide +kernel⟩, List.mem_of_getElem? (i := 695) (by decide +kernel), List.mem_of_getElem? (i := 937) (by decide +kernel), List.mem_of_getElem? (i := 938) (by decide +kernel)⟩
def lw_privs_3 : List (MethodName × Nat) := [(⟨"PackingSearchModel", "goesIn", "(I)Z"⟩, 37)]
theorem lw_r3 : ∀ q ∈ lw_privs_3, lw_okq q := List.forall_mem_cons.mpr ⟨lw_p32, fun _ h => absurd h List.not_mem_nil⟩
def lw_privs : List (MethodName × Nat) := lw_privs_1 ++ (lw_privs_2 ++ (lw_privs_3))
def lw_tbl : List Cond := k2_sels lw_privs ++ tables_1
theorem lw_privs_ok : ∀ q ∈ lw_privs, lw_okq q := by
  show ∀ q ∈ lw_privs_1 ++ (lw_privs_2 ++ (lw_privs_3)), lw_okq q
  exact List.forall_mem_append.mpr ⟨lw_r1, List.forall_mem_append.mpr ⟨lw_r2, lw_r3⟩⟩
end
section
def RX0 : String := "PackingSearch$Piece"
def TX0 : u_T := fun k => match k with
  | 0 => ("PackingSearch$Piece", "width", "I", false)
  | 1 => ("PackingSearch$Piece", "depth", "I", false)
  | 2 => ("PackingSearch$Piece", "height", "I", false)
  | 3 => ("PackingSearch$Piece", "weight", "I", false)
  | 4 => ("PackingSearch$Piece", "letWays", "I", false)
  | 5 => ("PackingSearch$Piece", "mostBorne", "I", false)
  | 6 => ("PackingSearch$Piece", "ranking", "I", false)
  | _ => ("PackingSearch$Piece", "packedInto", "I", false)
def tyX0 : Nat → FieldType := fun k => match k with
  | 0 => .int
  | 1 => .int
  | 2 => .int
  | 3 => .int
  | 4 => .int
  | 5 => .int
  | 6 => .int
  | _ => .int
abbrev wsX00 : List Cond := u_ws RX0 TX0 8
theorem nmX0 : ∀ a, a < 8 → ∀ b, b < 8 → a ≠ b → (TX0 a).2.1 ≠ (TX0 b).2.1 := by decide +kernel
theorem tyX0_ok : ∀ k, k < 8 → parseFieldDescriptor (TX0 k).2.2.1 = some (tyX0 k) := by decide +kernel
abbrev cX0_init : ByteArray := prog_2_method_1_code
def yX0_init : MethodName := ⟨RX0, "<init>", "()V"⟩
abbrev cX0_become : ByteArray := prog_2_method_2_code
def yX0_become : MethodName := ⟨RX0, "become", "(IIII)V"⟩
abbrev cX0_isPacked : ByteArray := prog_2_method_3_code
def yX0_isPacked : MethodName := ⟨RX0, "isPacked", "()Z"⟩
abbrev cX0_volume : ByteArray := prog_2_method_4_code
def yX0_volume : MethodName := ⟨RX0, "volume", "()I"⟩
abbrev cX0_lets : ByteArray := prog_2_method_5_code
def yX0_lets : MethodName := ⟨RX0, "lets", "(I)Z"⟩
abbrev cX0_wayCount : ByteArray := prog_2_method_6_code
def yX0_wayCount : MethodName := ⟨RX0, "wayCount", "()I"⟩
abbrev cX0_mark : ByteArray := prog_2_method_7_code
def yX0_mark : MethodName := ⟨RX0, "mark", "(I)V"⟩
abbrev cX0_isLikeOneLet : ByteArray := prog_2_method_8_code
def yX0_isLikeOneLet : MethodName := ⟨RX0, "isLikeOneLet", "(I)Z"⟩
abbrev cX0_marksFor : ByteArray := prog_2_method_9_code
def yX0_marksFor : MethodName := ⟨RX0, "marksFor", "(I)I"⟩
abbrev cX0_widthIn : ByteArray := prog_2_method_10_code
def yX0_widthIn : MethodName := ⟨RX0, "widthIn", "(I)I"⟩
abbrev cX0_depthIn : ByteArray := prog_2_method_11_code
def yX0_depthIn : MethodName := ⟨RX0, "depthIn", "(I)I"⟩
abbrev cX0_heightIn : ByteArray := prog_2_method_12_code
def yX0_heightIn : MethodName := ⟨RX0, "heightIn", "(I)I"⟩
def RX1 : String := "PackingSearch$Plan"
def TX1 : u_T := fun k => match k with
  | 0 => ("PackingSearch$Plan", "boxWidth", "I", true)
  | 1 => ("PackingSearch$Plan", "boxDepth", "I", true)
  | 2 => ("PackingSearch$Plan", "boxHeight", "I", true)
  | _ => ("PackingSearch$Plan", "spots", "[LPackingSearch$Spot;", true)
def tyX1 : Nat → FieldType := fun k => match k with
  | 0 => .int
  | 1 => .int
  | 2 => .int
  | _ => .array (.object "PackingSearch$Spot")
abbrev wsX10 : List Cond := u_ws RX1 TX1 4
theorem nmX1 : ∀ a, a < 4 → ∀ b, b < 4 → a ≠ b → (TX1 a).2.1 ≠ (TX1 b).2.1 := by decide +kernel
theorem tyX1_ok : ∀ k, k < 4 → parseFieldDescriptor (TX1 k).2.2.1 = some (tyX1 k) := by decide +kernel
abbrev cX1_init : ByteArray := prog_3_method_1_code
def yX1_init : MethodName := ⟨RX1, "<init>", "(III)V"⟩
abbrev cX1_clear : ByteArray := prog_3_method_2_code
def yX1_clear : MethodName := ⟨RX1, "clear", "()V"⟩
abbrev cX1_copyFrom : ByteArray := prog_3_method_3_code
def yX1_copyFrom : MethodName := ⟨RX1, "copyFrom", "(LPackingSearch$Plan;)V"⟩
abbrev cX1_boxVolume : ByteArray := prog_3_method_4_code
def yX1_boxVolume : MethodName := ⟨RX1, "boxVolume", "()I"⟩
abbrev cX1_takes : ByteArray := prog_3_method_5_code
def yX1_takes : MethodName := ⟨RX1, "takes", "(III)Z"⟩
abbrev cX1_hasCell : ByteArray := prog_3_method_6_code
def yX1_hasCell : MethodName := ⟨RX1, "hasCell", "(III)Z"⟩
abbrev cX1_pieceIn : ByteArray := prog_3_method_7_code
def yX1_pieceIn : MethodName := ⟨RX1, "pieceIn", "(III)I"⟩
abbrev cX1_size : ByteArray := prog_3_method_8_code
def yX1_size : MethodName := ⟨RX1, "size", "()I"⟩
abbrev cX1_volume : ByteArray := prog_3_method_9_code
def yX1_volume : MethodName := ⟨RX1, "volume", "()I"⟩
abbrev cX1_weight : ByteArray := prog_3_method_10_code
def yX1_weight : MethodName := ⟨RX1, "weight", "()I"⟩
abbrev cX1_top : ByteArray := prog_3_method_11_code
def yX1_top : MethodName := ⟨RX1, "top", "()I"⟩
abbrev cX1_ends : ByteArray := prog_3_method_12_code
def yX1_ends : MethodName := ⟨RX1, "ends", "(I)I"⟩
abbrev cX1_isPlanWith : ByteArray := prog_3_method_13_code
def yX1_isPlanWith : MethodName := ⟨RX1, "isPlanWith", "(LPackingSearch$Spot;I)Z"⟩
abbrev cX1_hasRoomFor : ByteArray := prog_3_method_14_code
def yX1_hasRoomFor : MethodName := ⟨RX1, "hasRoomFor", "(LPackingSearch$Spot;)Z"⟩
abbrev cX1_supportOf : ByteArray := prog_3_method_15_code
def yX1_supportOf : MethodName := ⟨RX1, "supportOf", "(LPackingSearch$Spot;)I"⟩
abbrev cX1_weightsAreBorne : ByteArray := prog_3_method_16_code
def yX1_weightsAreBorne : MethodName := ⟨RX1, "weightsAreBorne", "()Z"⟩
abbrev cX1_noteStanders : ByteArray := prog_3_method_17_code
def yX1_noteStanders : MethodName := ⟨RX1, "noteStanders", "()V"⟩
abbrev cX1_weightOn : ByteArray := prog_3_method_18_code
def yX1_weightOn : MethodName := ⟨RX1, "weightOn", "(LPackingSearch$Spot;)I"⟩
def RX2 : String := "PackingSearch$Spot"
def TX2 : u_T := fun k => match k with
  | 0 => ("PackingSearch$Spot", "placed", "Z", false)
  | 1 => ("PackingSearch$Spot", "x", "I", false)
  | 2 => ("PackingSearch$Spot", "y", "I", false)
  | 3 => ("PackingSearch$Spot", "z", "I", false)
  | 4 => ("PackingSearch$Spot", "width", "I", false)
  | 5 => ("PackingSearch$Spot", "depth", "I", false)
  | 6 => ("PackingSearch$Spot", "height", "I", false)
  | 7 => ("PackingSearch$Spot", "way", "I", false)
  | 8 => ("PackingSearch$Spot", "weight", "I", false)
  | 9 => ("PackingSearch$Spot", "mostBorne", "I", false)
  | _ => ("PackingSearch$Spot", "standers", "I", false)
def tyX2 : Nat → FieldType := fun k => match k with
  | 0 => .boolean
  | 1 => .int
  | 2 => .int
  | 3 => .int
  | 4 => .int
  | 5 => .int
  | 6 => .int
  | 7 => .int
  | 8 => .int
  | 9 => .int
  | _ => .int
abbrev wsX20 : List Cond := u_ws RX2 TX2 11
theorem nmX2 : ∀ a, a < 11 → ∀ b, b < 11 → a ≠ b → (TX2 a).2.1 ≠ (TX2 b).2.1 := by decide +kernel
theorem tyX2_ok : ∀ k, k < 11 → parseFieldDescriptor (TX2 k).2.2.1 = some (tyX2 k) := by decide +kernel
abbrev cX2_init : ByteArray := prog_4_method_1_code
def yX2_init : MethodName := ⟨RX2, "<init>", "()V"⟩
abbrev cX2_stand : ByteArray := prog_4_method_2_code
def yX2_stand : MethodName := ⟨RX2, "stand", "(LPackingSearch$Piece;IIII)V"⟩
abbrev cX2_leave : ByteArray := prog_4_method_3_code
def yX2_leave : MethodName := ⟨RX2, "leave", "()V"⟩
abbrev cX2_copyFrom : ByteArray := prog_4_method_4_code
def yX2_copyFrom : MethodName := ⟨RX2, "copyFrom", "(LPackingSearch$Spot;)V"⟩
abbrev cX2_detail : ByteArray := prog_4_method_5_code
def yX2_detail : MethodName := ⟨RX2, "detail", "(I)I"⟩
abbrev cX2_endAlong : ByteArray := prog_4_method_6_code
def yX2_endAlong : MethodName := ⟨RX2, "endAlong", "(I)I"⟩
abbrev cX2_area : ByteArray := prog_4_method_7_code
def yX2_area : MethodName := ⟨RX2, "area", "()I"⟩
abbrev cX2_volume : ByteArray := prog_4_method_8_code
def yX2_volume : MethodName := ⟨RX2, "volume", "()I"⟩
abbrev cX2_covers : ByteArray := prog_4_method_9_code
def yX2_covers : MethodName := ⟨RX2, "covers", "(III)Z"⟩
abbrev cX2_meetsFromAbove : ByteArray := prog_4_method_10_code
def yX2_meetsFromAbove : MethodName := ⟨RX2, "meetsFromAbove", "(LPackingSearch$Spot;)Z"⟩
abbrev cX2_meets : ByteArray := prog_4_method_11_code
def yX2_meets : MethodName := ⟨RX2, "meets", "(LPackingSearch$Spot;)Z"⟩
abbrev cX2_standsOn : ByteArray := prog_4_method_12_code
def yX2_standsOn : MethodName := ⟨RX2, "standsOn", "(LPackingSearch$Spot;)Z"⟩
abbrev cX2_commonArea : ByteArray := prog_4_method_13_code
def yX2_commonArea : MethodName := ⟨RX2, "commonArea", "(LPackingSearch$Spot;)I"⟩
def RX3 : String := "PackingSearch"
def TX3 : u_T := fun k => match k with
  | 0 => ("PackingSearch", "pieces", "[LPackingSearch$Piece;", true)
  | 1 => ("PackingSearch", "plan", "LPackingSearch$Plan;", true)
  | 2 => ("PackingSearch", "trial", "LPackingSearch$Plan;", true)
  | 3 => ("PackingSearch", "order", "[I", true)
  | 4 => ("PackingSearch", "pieceCount", "I", false)
  | 5 => ("PackingSearch", "orderLength", "I", false)
  | 6 => ("PackingSearch", "leastShare", "I", false)
  | 7 => ("PackingSearch", "closedBoxes", "I", false)
  | 8 => ("PackingSearch", "stepsAllowed", "I", false)
  | 9 => ("PackingSearch", "stepsDone", "I", false)
  | 10 => ("PackingSearch", "bestVolume", "I", false)
  | 11 => ("PackingSearch", "cutShort", "Z", false)
  | _ => ("PackingSearch", "didAll", "Z", false)
def tyX3 : Nat → FieldType := fun k => match k with
  | 0 => .array (.object "PackingSearch$Piece")
  | 1 => .object "PackingSearch$Plan"
  | 2 => .object "PackingSearch$Plan"
  | 3 => .array .int
  | 4 => .int
  | 5 => .int
  | 6 => .int
  | 7 => .int
  | 8 => .int
  | 9 => .int
  | 10 => .int
  | 11 => .boolean
  | _ => .boolean
abbrev wsX30 : List Cond := u_ws RX3 TX3 13
theorem nmX3 : ∀ a, a < 13 → ∀ b, b < 13 → a ≠ b → (TX3 a).2.1 ≠ (TX3 b).2.1 := by decide +kernel
theorem tyX3_ok : ∀ k, k < 13 → parseFieldDescriptor (TX3 k).2.2.1 = some (tyX3 k) := by decide +kernel
abbrev cX3_init : ByteArray := prog_1_method_1_code
def yX3_init : MethodName := ⟨RX3, "<init>", "(III)V"⟩
abbrev cX3_piece : ByteArray := prog_1_method_2_code
def yX3_piece : MethodName := ⟨RX3, "piece", "(IIII)I"⟩
abbrev cX3_turn : ByteArray := prog_1_method_3_code
def yX3_turn : MethodName := ⟨RX3, "turn", "(II)I"⟩
abbrev cX3_limit : ByteArray := prog_1_method_4_code
def yX3_limit : MethodName := ⟨RX3, "limit", "(II)V"⟩
abbrev cX3_rank : ByteArray := prog_1_method_5_code
def yX3_rank : MethodName := ⟨RX3, "rank", "(II)I"⟩
abbrev cX3_share : ByteArray := prog_1_method_6_code
def yX3_share : MethodName := ⟨RX3, "share", "(I)V"⟩
abbrev cX3_solve : ByteArray := prog_1_method_7_code
def yX3_solve : MethodName := ⟨RX3, "solve", "(I)I"⟩
abbrev cX3_exact : ByteArray := prog_1_method_8_code
def yX3_exact : MethodName := ⟨RX3, "exact", "()Z"⟩
abbrev cX3_steps : ByteArray := prog_1_method_9_code
def yX3_steps : MethodName := ⟨RX3, "steps", "()I"⟩
abbrev cX3_bound : ByteArray := prog_1_method_10_code
def yX3_bound : MethodName := ⟨RX3, "bound", "()I"⟩
abbrev cX3_at : ByteArray := prog_1_method_11_code
def yX3_at : MethodName := ⟨RX3, "at", "(II)I"⟩
abbrev cX3_over : ByteArray := prog_1_method_12_code
def yX3_over : MethodName := ⟨RX3, "over", "(II)Z"⟩
abbrev cX3_support : ByteArray := prog_1_method_13_code
def yX3_support : MethodName := ⟨RX3, "support", "(I)I"⟩
abbrev cX3_bears : ByteArray := prog_1_method_14_code
def yX3_bears : MethodName := ⟨RX3, "bears", "(I)I"⟩
abbrev cX3_cell : ByteArray := prog_1_method_15_code
def yX3_cell : MethodName := ⟨RX3, "cell", "(III)I"⟩
abbrev cX3_close : ByteArray := prog_1_method_16_code
def yX3_close : MethodName := ⟨RX3, "close", "()I"⟩
abbrev cX3_box : ByteArray := prog_1_method_17_code
def yX3_box : MethodName := ⟨RX3, "box", "(I)I"⟩
abbrev cX3_count : ByteArray := prog_1_method_18_code
def yX3_count : MethodName := ⟨RX3, "count", "(I)I"⟩
abbrev cX3_asSide : ByteArray := prog_1_method_19_code
def yX3_asSide : MethodName := ⟨RX3, "asSide", "(I)I"⟩
abbrev cX3_isSide : ByteArray := prog_1_method_20_code
def yX3_isSide : MethodName := ⟨RX3, "isSide", "(I)Z"⟩
abbrev cX3_isIn : ByteArray := prog_1_method_21_code
def yX3_isIn : MethodName := ⟨RX3, "isIn", "(II)Z"⟩
abbrev cX3_known : ByteArray := prog_1_method_22_code
def yX3_known : MethodName := ⟨RX3, "known", "(I)LPackingSearch$Piece;"⟩
abbrev cX3_spotOf : ByteArray := prog_1_method_23_code
def yX3_spotOf : MethodName := ⟨RX3, "spotOf", "(I)LPackingSearch$Spot;"⟩
abbrev cX3_unpackedCount : ByteArray := prog_1_method_24_code
def yX3_unpackedCount : MethodName := ⟨RX3, "unpackedCount", "()I"⟩
abbrev cX3_positionOf : ByteArray := prog_1_method_25_code
def yX3_positionOf : MethodName := ⟨RX3, "positionOf", "(LPackingSearch$Piece;I)I"⟩
abbrev cX3_fitsAlone : ByteArray := prog_1_method_26_code
def yX3_fitsAlone : MethodName := ⟨RX3, "fitsAlone", "(LPackingSearch$Piece;)Z"⟩
abbrev cX3_startSearch : ByteArray := prog_1_method_27_code
def yX3_startSearch : MethodName := ⟨RX3, "startSearch", "(I)V"⟩
abbrev cX3_putInOrder : ByteArray := prog_1_method_28_code
def yX3_putInOrder : MethodName := ⟨RX3, "putInOrder", "()V"⟩
abbrev cX3_searchFrom : ByteArray := prog_1_method_29_code
def yX3_searchFrom : MethodName := ⟨RX3, "searchFrom", "(I)V"⟩
abbrev cX3_tryWay : ByteArray := prog_1_method_30_code
def yX3_tryWay : MethodName := ⟨RX3, "tryWay", "(ILPackingSearch$Piece;LPackingSearch$Spot;I)V"⟩
abbrev cX3_lookAtTrial : ByteArray := prog_1_method_31_code
def yX3_lookAtTrial : MethodName := ⟨RX3, "lookAtTrial", "()V"⟩
def RX4 : String := "PackingSearchModel"
def TX4 : u_T := fun k => match k with
  | 0 => ("PackingSearchModel", "thrownCode", "I", false)
  | 1 => ("PackingSearchModel", "width", "I", true)
  | 2 => ("PackingSearchModel", "depth", "I", true)
  | 3 => ("PackingSearchModel", "height", "I", true)
  | 4 => ("PackingSearchModel", "pieces", "I", false)
  | 5 => ("PackingSearchModel", "size", "[I", true)
  | 6 => ("PackingSearchModel", "weight", "[I", true)
  | 7 => ("PackingSearchModel", "marks", "[I", true)
  | 8 => ("PackingSearchModel", "most", "[I", true)
  | 9 => ("PackingSearchModel", "ranks", "[I", true)
  | 10 => ("PackingSearchModel", "boxes", "[I", true)
  | 11 => ("PackingSearchModel", "share", "I", false)
  | 12 => ("PackingSearchModel", "closed", "I", false)
  | 13 => ("PackingSearchModel", "way", "[I", true)
  | 14 => ("PackingSearchModel", "x", "[I", true)
  | 15 => ("PackingSearchModel", "y", "[I", true)
  | 16 => ("PackingSearchModel", "z", "[I", true)
  | 17 => ("PackingSearchModel", "w", "[I", true)
  | 18 => ("PackingSearchModel", "d", "[I", true)
  | 19 => ("PackingSearchModel", "h", "[I", true)
  | 20 => ("PackingSearchModel", "looked", "Z", false)
  | 21 => ("PackingSearchModel", "best", "I", false)
  | 22 => ("PackingSearchModel", "keptWay", "[I", true)
  | 23 => ("PackingSearchModel", "keptX", "[I", true)
  | 24 => ("PackingSearchModel", "keptY", "[I", true)
  | 25 => ("PackingSearchModel", "keptZ", "[I", true)
  | 26 => ("PackingSearchModel", "stepsNow", "I", false)
  | 27 => ("PackingSearchModel", "all", "Z", false)
  | 28 => ("PackingSearchModel", "count", "I", false)
  | 29 => ("PackingSearchModel", "order", "[I", true)
  | 30 => ("PackingSearchModel", "tryWay", "[I", true)
  | 31 => ("PackingSearchModel", "tryX", "[I", true)
  | 32 => ("PackingSearchModel", "tryY", "[I", true)
  | 33 => ("PackingSearchModel", "tryZ", "[I", true)
  | 34 => ("PackingSearchModel", "ends", "[I", true)
  | 35 => ("PackingSearchModel", "endCount", "[I", true)
  | _ => ("PackingSearchModel", "stack", "[I", true)
def tyX4 : Nat → FieldType := fun k => match k with
  | 0 => .int
  | 1 => .int
  | 2 => .int
  | 3 => .int
  | 4 => .int
  | 5 => .array .int
  | 6 => .array .int
  | 7 => .array .int
  | 8 => .array .int
  | 9 => .array .int
  | 10 => .array .int
  | 11 => .int
  | 12 => .int
  | 13 => .array .int
  | 14 => .array .int
  | 15 => .array .int
  | 16 => .array .int
  | 17 => .array .int
  | 18 => .array .int
  | 19 => .array .int
  | 20 => .boolean
  | 21 => .int
  | 22 => .array .int
  | 23 => .array .int
  | 24 => .array .int
  | 25 => .array .int
  | 26 => .int
  | 27 => .boolean
  | 28 => .int
  | 29 => .array .int
  | 30 => .array .int
  | 31 => .array .int
  | 32 => .array .int
  | 33 => .array .int
  | 34 => .array .int
  | 35 => .array .int
  | _ => .array .int
abbrev wsX40 : List Cond := u_ws RX4 TX4 37
theorem nmX4 : ∀ a, a < 37 → ∀ b, b < 37 → a ≠ b → (TX4 a).2.1 ≠ (TX4 b).2.1 := by decide +kernel
theorem tyX4_ok : ∀ k, k < 37 → parseFieldDescriptor (TX4 k).2.2.1 = some (tyX4 k) := by decide +kernel
abbrev cX4_init : ByteArray := prog_6_method_1_code
def yX4_init : MethodName := ⟨RX4, "<init>", "(III)V"⟩
abbrev cX4_held : ByteArray := prog_6_method_2_code
def yX4_held : MethodName := ⟨RX4, "held", "(I)I"⟩
abbrev cX4_from : ByteArray := prog_6_method_3_code
def yX4_from : MethodName := ⟨RX4, "from", "(II)I"⟩
abbrev cX4_measure : ByteArray := prog_6_method_4_code
def yX4_measure : MethodName := ⟨RX4, "measure", "(III)I"⟩
abbrev cX4_byMarks : ByteArray := prog_6_method_5_code
def yX4_byMarks : MethodName := ⟨RX4, "byMarks", "(II)Z"⟩
abbrev cX4_let : ByteArray := prog_6_method_6_code
def yX4_let : MethodName := ⟨RX4, "let", "(II)Z"⟩
abbrev cX4_stand : ByteArray := prog_6_method_7_code
def yX4_stand : MethodName := ⟨RX4, "stand", "(IIIII)V"⟩
abbrev cX4_common : ByteArray := prog_6_method_8_code
def yX4_common : MethodName := ⟨RX4, "common", "(IIII)I"⟩
abbrev cX4_area : ByteArray := prog_6_method_9_code
def yX4_area : MethodName := ⟨RX4, "area", "(II)I"⟩
abbrev cX4_standsOn : ByteArray := prog_6_method_10_code
def yX4_standsOn : MethodName := ⟨RX4, "standsOn", "(II)Z"⟩
abbrev cX4_supportOf : ByteArray := prog_6_method_11_code
def yX4_supportOf : MethodName := ⟨RX4, "supportOf", "(I)I"⟩
abbrev cX4_borne : ByteArray := prog_6_method_12_code
def yX4_borne : MethodName := ⟨RX4, "borne", "(I)I"⟩
abbrev cX4_isPlan : ByteArray := prog_6_method_13_code
def yX4_isPlan : MethodName := ⟨RX4, "isPlan", "()Z"⟩
abbrev cX4_volume : ByteArray := prog_6_method_14_code
def yX4_volume : MethodName := ⟨RX4, "volume", "(I)I"⟩
abbrev cX4_volumeNow : ByteArray := prog_6_method_15_code
def yX4_volumeNow : MethodName := ⟨RX4, "volumeNow", "()I"⟩
abbrev cX4_findOrder : ByteArray := prog_6_method_16_code
def yX4_findOrder : MethodName := ⟨RX4, "findOrder", "()V"⟩
abbrev cX4_end : ByteArray := prog_6_method_17_code
def yX4_end : MethodName := ⟨RX4, "end", "(III)V"⟩
abbrev cX4_enter : ByteArray := prog_6_method_18_code
def yX4_enter : MethodName := ⟨RX4, "enter", "(I)V"⟩
abbrev cX4_advance : ByteArray := prog_6_method_19_code
def yX4_advance : MethodName := ⟨RX4, "advance", "(I)Z"⟩
abbrev cX4_look : ByteArray := prog_6_method_20_code
def yX4_look : MethodName := ⟨RX4, "look", "()V"⟩
abbrev cX4_search : ByteArray := prog_6_method_21_code
def yX4_search : MethodName := ⟨RX4, "search", "(I)Z"⟩
abbrev cX4_thrown : ByteArray := prog_6_method_22_code
def yX4_thrown : MethodName := ⟨RX4, "thrown", "()I"⟩
abbrev cX4_noPiece : ByteArray := prog_6_method_23_code
def yX4_noPiece : MethodName := ⟨RX4, "noPiece", "(I)Z"⟩
abbrev cX4_not : ByteArray := prog_6_method_24_code
def yX4_not : MethodName := ⟨RX4, "not", "(III)Z"⟩
abbrev cX4_piece : ByteArray := prog_6_method_25_code
def yX4_piece : MethodName := ⟨RX4, "piece", "(IIII)I"⟩
abbrev cX4_turn : ByteArray := prog_6_method_26_code
def yX4_turn : MethodName := ⟨RX4, "turn", "(II)I"⟩
abbrev cX4_limit : ByteArray := prog_6_method_27_code
def yX4_limit : MethodName := ⟨RX4, "limit", "(II)V"⟩
abbrev cX4_rank : ByteArray := prog_6_method_28_code
def yX4_rank : MethodName := ⟨RX4, "rank", "(II)I"⟩
abbrev cX4_share : ByteArray := prog_6_method_29_code
def yX4_share : MethodName := ⟨RX4, "share", "(I)V"⟩
abbrev cX4_solve : ByteArray := prog_6_method_30_code
def yX4_solve : MethodName := ⟨RX4, "solve", "(I)I"⟩
abbrev cX4_exact : ByteArray := prog_6_method_31_code
def yX4_exact : MethodName := ⟨RX4, "exact", "()Z"⟩
abbrev cX4_steps : ByteArray := prog_6_method_32_code
def yX4_steps : MethodName := ⟨RX4, "steps", "()I"⟩
abbrev cX4_goesIn : ByteArray := prog_6_method_33_code
def yX4_goesIn : MethodName := ⟨RX4, "goesIn", "(I)Z"⟩
abbrev cX4_bound : ByteArray := prog_6_method_34_code
def yX4_bound : MethodName := ⟨RX4, "bound", "()I"⟩
abbrev cX4_at : ByteArray := prog_6_method_35_code
def yX4_at : MethodName := ⟨RX4, "at", "(II)I"⟩
abbrev cX4_over : ByteArray := prog_6_method_36_code
def yX4_over : MethodName := ⟨RX4, "over", "(II)Z"⟩
abbrev cX4_support : ByteArray := prog_6_method_37_code
def yX4_support : MethodName := ⟨RX4, "support", "(I)I"⟩
abbrev cX4_bears : ByteArray := prog_6_method_38_code
def yX4_bears : MethodName := ⟨RX4, "bears", "(I)I"⟩
abbrev cX4_cell : ByteArray := prog_6_method_39_code
def yX4_cell : MethodName := ⟨RX4, "cell", "(III)I"⟩
abbrev cX4_close : ByteArray := prog_6_method_40_code
def yX4_close : MethodName := ⟨RX4, "close", "()I"⟩
abbrev cX4_box : ByteArray := prog_6_method_41_code
def yX4_box : MethodName := ⟨RX4, "box", "(I)I"⟩
abbrev cX4_count : ByteArray := prog_6_method_42_code
def yX4_count : MethodName := ⟨RX4, "count", "(I)I"⟩
def RJx00060 : String := "java/lang/ArrayIndexOutOfBoundsException"
def TJx00060 : u_T := fun k => match k with
  | 0 => ("java/lang/Throwable", "cause", "Ljava/lang/Throwable;", false)
  | 1 => ("java/lang/Throwable", "stackTrace", "[Ljava/lang/StackTraceElement;", false)
  | 2 => ("java/lang/Throwable", "suppressedExceptions", "Ljava/util/List;", false)
  | 3 => ("java/lang/Throwable", "detailMessage", "Ljava/lang/String;", false)
  | 4 => ("java/lang/Throwable", "backtrace", "Ljava/lang/Object;", false)
  | _ => ("java/lang/Throwable", "depth", "I", false)
def tyJx00060 : Nat → FieldType := fun k => match k with
  | 0 => .object "java/lang/Throwable"
  | 1 => .array (.object "java/lang/StackTraceElement")
  | 2 => .object "java/util/List"
  | 3 => .object "java/lang/String"
  | 4 => .object "java/lang/Object"
  | _ => .int
abbrev wsJx000600 : List Cond := u_ws RJx00060 TJx00060 6
theorem nmJx00060 : ∀ a, a < 6 → ∀ b, b < 6 → a ≠ b → (TJx00060 a).2.1 ≠ (TJx00060 b).2.1 := by decide +kernel
theorem tyJx00060_ok : ∀ k, k < 6 → parseFieldDescriptor (TJx00060 k).2.2.1 = some (tyJx00060 k) := by decide +kernel
abbrev cJx00060_init_a7421 : ByteArray := prog_8_method_2_code
def yJx00060_init_a7421 : MethodName := ⟨RJx00060, "<init>", "(Ljava/lang/String;)V"⟩
def RJ6 : String := "java/lang/Integer"
def TJ6 : u_T := fun k => match k with
  | _ => ("", "", "", false)
def tyJ6 : Nat → FieldType := fun k => match k with
  | _ => .int
abbrev wsJ60 : List Cond := u_ws RJ6 TJ6 0
theorem nmJ6 : ∀ a, a < 0 → ∀ b, b < 0 → a ≠ b → (TJ6 a).2.1 ≠ (TJ6 b).2.1 := by decide +kernel
theorem tyJ6_ok : ∀ k, k < 0 → parseFieldDescriptor (TJ6 k).2.2.1 = some (tyJ6 k) := by decide +kernel
abbrev cJ6_bitCount_0f7a4 : ByteArray := prog_13_method_49_code
def yJ6_bitCount_0f7a4 : MethodName := ⟨RJ6, "bitCount", "(I)I"⟩
def RJ9 : String := "java/lang/Math"
def TJ9 : u_T := fun k => match k with
  | _ => ("", "", "", false)
def tyJ9 : Nat → FieldType := fun k => match k with
  | _ => .int
abbrev wsJ90 : List Cond := u_ws RJ9 TJ9 0
theorem nmJ9 : ∀ a, a < 0 → ∀ b, b < 0 → a ≠ b → (TJ9 a).2.1 ≠ (TJ9 b).2.1 := by decide +kernel
theorem tyJ9_ok : ∀ k, k < 0 → parseFieldDescriptor (TJ9 k).2.2.1 = some (tyJ9 k) := by decide +kernel
abbrev cJ9_max_7cf53 : ByteArray := prog_14_method_65_code
def yJ9_max_7cf53 : MethodName := ⟨RJ9, "max", "(II)I"⟩
abbrev cJ9_min_7cf53 : ByteArray := prog_14_method_69_code
def yJ9_min_7cf53 : MethodName := ⟨RJ9, "min", "(II)I"⟩
def RJ0 : String := "java/lang/String"
def TJ0 : u_T := fun k => match k with
  | _ => ("", "", "", false)
def tyJ0 : Nat → FieldType := fun k => match k with
  | _ => .int
abbrev wsJ00 : List Cond := u_ws RJ0 TJ0 0
theorem nmJ0 : ∀ a, a < 0 → ∀ b, b < 0 → a ≠ b → (TJ0 a).2.1 ≠ (TJ0 b).2.1 := by decide +kernel
theorem tyJ0_ok : ∀ k, k < 0 → parseFieldDescriptor (TJ0 k).2.2.1 = some (tyJ0 k) := by decide +kernel
def RL : String := "PackingSearchLaw"
abbrev cL_cell : ByteArray := method_2_code
def yL_cell : MethodName := ⟨RL, "cell", "([II)I"⟩
abbrev cL_piece : ByteArray := method_3_code
def yL_piece : MethodName := ⟨RL, "piece", "(LPackingSearch;IIII[J)I"⟩
abbrev cL_turn : ByteArray := method_4_code
def yL_turn : MethodName := ⟨RL, "turn", "(LPackingSearch;II[J)I"⟩
abbrev cL_limit : ByteArray := method_5_code
def yL_limit : MethodName := ⟨RL, "limit", "(LPackingSearch;II)I"⟩
abbrev cL_rank : ByteArray := method_6_code
def yL_rank : MethodName := ⟨RL, "rank", "(LPackingSearch;II[J)I"⟩
abbrev cL_share : ByteArray := method_7_code
def yL_share : MethodName := ⟨RL, "share", "(LPackingSearch;I)I"⟩
abbrev cL_solve : ByteArray := method_8_code
def yL_solve : MethodName := ⟨RL, "solve", "(LPackingSearch;I[J)I"⟩
abbrev cL_at : ByteArray := method_9_code
def yL_at : MethodName := ⟨RL, "at", "(LPackingSearch;II[J)I"⟩
abbrev cL_over : ByteArray := method_10_code
def yL_over : MethodName := ⟨RL, "over", "(LPackingSearch;II[J)I"⟩
abbrev cL_support : ByteArray := method_11_code
def yL_support : MethodName := ⟨RL, "support", "(LPackingSearch;I[J)I"⟩
abbrev cL_bears : ByteArray := method_12_code
def yL_bears : MethodName := ⟨RL, "bears", "(LPackingSearch;I[J)I"⟩
abbrev cL_cell_ : ByteArray := method_13_code
def yL_cell_ : MethodName := ⟨RL, "cell", "(LPackingSearch;III[J)I"⟩
abbrev cL_close : ByteArray := method_14_code
def yL_close : MethodName := ⟨RL, "close", "(LPackingSearch;[J)I"⟩
abbrev cL_box : ByteArray := method_15_code
def yL_box : MethodName := ⟨RL, "box", "(LPackingSearch;I[J)I"⟩
abbrev cL_law : ByteArray := code
def yL_law : MethodName := ⟨RL, "law", "([I)Z"⟩
abbrev vwCl : List vw_C := [(RJx00060, TJx00060, 6), (RX0, TX0, 8), (RX1, TX1, 4), (RX2, TX2, 11), (RX3, TX3, 13), (RX4, TX4, 37)]
end
section
/-! the words, the array classes, the nest's links -/
def WS : List Cond := lw_tbl.filter goodWord
theorem ws_mem {w : Cond} (i : Nat) (h : lw_tbl[i]? = some w) (g : goodWord w = true) : w ∈ WS := List.mem_filter.mpr ⟨List.mem_of_getElem? h, g⟩
def tys (ca : Nat → ClassId) : List (ClassId × FieldType) := [(ca 0, .int), (ca 1, .object "PackingSearch$Piece"), (ca 2, .object "PackingSearch$Spot"), (ca 3, .long)]
def NW : List Cond := [.methodLinkNest RX0 33 yX3_isIn "PackingSearch", .methodLinkNest RX1 117 yX3_isIn "PackingSearch"]
def NWs (U : State) : Prop := ∀ w ∈ NW, va_Nw w U
theorem NWs.same {u U : State} (h : u.vm = U.vm) (hN : NWs u) : NWs U := fun w hw => va_Nw.same (by simp only [NW, List.mem_cons, List.not_mem_nil, or_false] at hw; rcases hw with rfl | rfl <;> rfl) h (hN w hw)
theorem NWs.warm {s U : State} (hW : s.WarmedH U.vm) (hN : NWs s) : NWs U := fun w hw => by
  have h1 := hN w hw
  simp only [NW, List.mem_cons, List.not_mem_nil, or_false] at hw
  rcases hw with rfl | rfl <;> exact va_Nw.warmM hW h1
end
section
/-! worlds of a shape: places k with an address ad k; the state is a number for each place and field -/
abbrev St : Type := Nat → Nat → Int32
/-- a field: a reference to a place, or a number (true: a boolean) -/
abbrev sF : Type := Nat ⊕ Bool
/-- a place: an object (its class's number, its fields), or an array (number of its class, length, none: ints; some none: longs that are ints; some (some b): references to the places b, b + 1, ..) -/
abbrev sO : Type := (Nat × List sF) ⊕ (Nat × Nat × Option (Option Nat))
def su (σ : St) (k j : Nat) (v : Int32) : St := fun a b => if a = k ∧ b = j then v else σ a b
theorem su_same (σ : St) (k j : Nat) (v : Int32) : su σ k j v k j = v := by simp [su]
theorem su_ne (σ : St) {k j a b : Nat} (v : Int32) (h : ¬ (a = k ∧ b = j)) : su σ k j v a b = σ a b := by simp only [su, if_neg h]
def sv (ad : Nat → Nat) (f : Nat → Int32) (j : Nat) : sF → Value
  | .inl p => .ref (ad p)
  | .inr false => .int (f j)
  | .inr true => .int (f j &&& 1)
def sc (ca : Nat → ClassId) (ad : Nat → Nat) (f : Nat → Int32) : sO → va_E
  | .inl o => .inr (o.1, o.2.mapIdx (fun j x => sv ad f j x))
  | .inr (t, n, none) => .inl (ca t, n, .inl f)
  | .inr (t, n, some none) => .inl (ca t, n, .inr (.inl (fun j => (f j).toInt64)))
  | .inr (t, n, some (some b)) => .inl (ca t, n, .inr (.inr (.inr (.inr (fun j => some (ad (b + j)))))))
def wd (sh : List sO) (ca : Nat → ClassId) (ad : Nat → Nat) (σ : St) : va_W := sh.mapIdx (fun k o => (ad k, sc ca ad (σ k) o))
theorem wd_at {sh : List sO} {ca : Nat → ClassId} {ad : Nat → Nat} {σ : St} {k : Nat} {o : sO} (h : sh[k]? = some o) : (wd sh ca ad σ)[k]? = some (ad k, sc ca ad (σ k) o) := by
  simp [wd, h]
theorem wd_set {sh : List sO} {ca : Nat → ClassId} {ad : Nat → Nat} {σ τ : St} {k : Nat} {o : sO} {e : va_E} (h : sh[k]? = some o) (he : e = sc ca ad (τ k) o) (ho : ∀ a, a ≠ k → τ a = σ a) : (wd sh ca ad σ).set k (ad k, e) = wd sh ca ad τ := by
  apply List.ext_getElem?
  intro i
  have hk : k < sh.length := (List.getElem?_eq_some_iff.mp h).1
  by_cases hi : i = k
  · subst hi
    rw [wd_at h, List.getElem?_set_self (by simpa [wd] using hk), he]
  · rw [List.getElem?_set_ne (Ne.symm hi)]
    simp [wd, ho i hi]
theorem su_row {σ : St} {k j : Nat} {v : Int32} {a : Nat} (h : a ≠ k) : su σ k j v a = σ a := by
  funext b
  simp [su, h]
theorem su_at {σ : St} {k j : Nat} {v : Int32} : su σ k j v k = upd (σ k) j v := by
  funext b
  simp [su, upd]
theorem sv_set {ad : Nat → Nat} {f : Nat → Int32} {fs : List sF} {j : Nat} {v : Int32} {x : sF} (h : fs[j]? = some x) (hv : sv ad (upd f j v) j x = .int v) : (fs.mapIdx (fun i y => sv ad f i y)).set j (.int v) = fs.mapIdx (fun i y => sv ad (upd f j v) i y) := by
  apply List.ext_getElem?
  intro i
  have hk : j < fs.length := (List.getElem?_eq_some_iff.mp h).1
  by_cases hi : i = j
  · subst hi
    rw [List.getElem?_set_self (by simpa using hk)]
    simp [h, hv]
  · rw [List.getElem?_set_ne (Ne.symm hi)]
    simp only [List.getElem?_mapIdx]
    cases fs[i]? with
    | none => rfl
    | some y =>
      rcases y with y | y
      · rfl
      · cases y <;> simp [sv, upd, hi]
/-! locals -/
def lh (ls : Array Slot) (lo : List (Option Value)) : Prop := ls.size = lo.length ∧ lv_wf ls ∧ (∀ (i : Nat) (v : Value), lo[i]? = some (some v) → ls[i]? = some (.val v)) ∧ ∀ (i : Nat) (v : Value), lo[i]? = some (some v) → v.category = 1
def lvl (lo : List (Option Value)) : List (Nat × Value) := (List.range lo.length).filterMap (fun i => match lo[i]? with | some (some v) => some (i, v) | _ => none)
theorem lvl_mem {lo : List (Option Value)} {q : Nat × Value} : q ∈ lvl lo ↔ lo[q.1]? = some (some q.2) := by
  obtain ⟨i, v⟩ := q
  simp only [lvl, List.mem_filterMap, List.mem_range]
  constructor
  · rintro ⟨a, ha, h⟩
    split at h
    · rename_i w hw
      cases h
      exact hw
    · cases h
  · intro h
    exact ⟨i, (List.getElem?_eq_some_iff.mp h).1, by simp [h]⟩
theorem lh_has {ls : Array Slot} {lo : List (Option Value)} (h : lh ls lo) : lv_has ls lo.length (lvl lo) := ⟨h.1, h.2.1, fun q hq => h.2.2.1 q.1 q.2 (lvl_mem.mp hq)⟩
theorem lh_set {ls ls' : Array Slot} {lo : List (Option Value)} {i : Nat} {v : Value} (h : lh ls lo) (hi : i < lo.length) (hc : v.category = 1) (h' : lv_has ls' lo.length ((i, v) :: (lvl lo).filter (fun q => !(q.1 == i) && !(q.1 + 1 == i && q.2.category == 2)))) : lh ls' (lo.set i (some v)) := by
  refine ⟨by rw [h'.1, List.length_set], h'.2.1, fun j w hj => ?_, fun j w hj => ?_⟩
  · by_cases e : j = i
    · subst e
      rw [List.getElem?_set_self hi] at hj
      cases hj
      exact h'.2.2 (j, v) List.mem_cons_self
    · rw [List.getElem?_set_ne (Ne.symm e)] at hj
      refine h'.2.2 (j, w) (List.mem_cons_of_mem _ (List.mem_filter.mpr ⟨lvl_mem.mpr hj, ?_⟩))
      have := h.2.2.2 j w hj
      simp [e, this]
  · by_cases e : j = i
    · subst e
      rw [List.getElem?_set_self hi] at hj
      cases hj
      exact hc
    · rw [List.getElem?_set_ne (Ne.symm e)] at hj
      exact h.2.2.2 j w hj
theorem lh_sub {ls : Array Slot} {lo lo' : List (Option Value)} (h : lh ls lo) (hl : lo'.length = lo.length) (hs : ∀ (i : Nat) (v : Value), lo'[i]? = some (some v) → lo[i]? = some (some v)) : lh ls lo' := ⟨by rw [hl]; exact h.1, h.2.1, fun i v hi => h.2.2.1 i v (hs i v hi), fun i v hi => h.2.2.2 i v (hs i v hi)⟩
/-- fewer locals: each is the same or forgotten -/
def lfew : List (Option Value) → List (Option Value) → Prop
  | [], [] => True
  | a :: r, b :: q => (b = none ∨ b = a) ∧ lfew r q
  | _, _ => False
theorem lfew_len : ∀ {lo lo' : List (Option Value)}, lfew lo lo' → lo'.length = lo.length
  | [], [], _ => rfl
  | _ :: r, _ :: q, h => by simp [lfew_len h.2]
  | [], _ :: _, h => h.elim
  | _ :: _, [], h => h.elim
theorem lfew_at : ∀ {lo lo' : List (Option Value)}, lfew lo lo' → ∀ (i : Nat) (v : Value), lo'[i]? = some (some v) → lo[i]? = some (some v)
  | [], [], _, i, v, h => by simp at h
  | a :: r, b :: q, hf, 0, v, h => by
    simp only [List.getElem?_cons_zero, Option.some.injEq] at h ⊢
    rcases hf.1 with e | e
    · rw [e] at h; cases h
    · rw [← e]; exact h
  | a :: r, b :: q, hf, i + 1, v, h => by
    simp only [List.getElem?_cons_succ] at h ⊢
    exact lfew_at hf.2 i v h
  | [], _ :: _, hf, _, _, _ => hf.elim
  | _ :: _, [], hf, _, _, _ => hf.elim

/-! the judgement: in every heap that holds the world of σ, with these locals, this stack -/
def WW (p : Program) (l : Launch) (e : Env) (R : Room) (s : State) (m : MethodId) (args : Array Value) (below : List Frame) (meth : Method) (c : Code) (cells slots : Nat) (Q : State → Prop) (A : Nat → Prop) (D : va_G) (ca : Nat → ClassId) (ad : Nat → Nat) (sh : List sO) (pc : Nat) (lo : List (Option Value)) (st : List Value) (σ : St) : Prop :=
  ∀ (H : Heap) (locs : List Loc) (ls : Array Slot), va_P D vwCl (wd sh ca ad σ) H → va_D A (wd sh ca ad σ) → va_S A s.heap H locs → lh ls lo → W p l e R s m args below meth c H locs cells slots Q (F0 m pc ls st)
/-- a method's own: the machine, its code, its class, the words, the classes -/
def CX (p : Program) (s : State) (m : MethodId) (args : Array Value) (c : Code) (D : va_G) (ca : Nat → ClassId) (A : Nat → Prop) (own : String) (cc : ByteArray) (nL : Nat) : Prop :=
  p.tables.exec = Jvm.exec ∧ c.code = cc ∧ c.maxLocals = nL ∧ s.vm.findClass own = some m.cls ∧ (∀ w ∈ WS, w.before args s = true) ∧ va_K D vwCl (tys ca) s ∧ (∀ q, s.heap.size ≤ q → A q) ∧ NWs s
section WWR
variable {p : Program} {l : Launch} {e : Env} {R : Room} {s : State} {m : MethodId} {args : Array Value} {below : List Frame} {meth : Method} {c : Code} {cells slots : Nat} {Q : State → Prop} {A : Nat → Prop} {D : va_G} {ca : Nat → ClassId} {ad : Nat → Nat} {sh : List sO} {own : String} {cc : ByteArray} {nL pc : Nat} {lo : List (Option Value)} {st : List Value} {σ : St}

theorem s_iconst (C : CX p s m args c D ca A own cc nL) {n : Int} {v : Int32} (d : decode cc pc = .ok (.iconst n, 1)) (hv : Int32.ofInt n = v) (k : WW p l e R s m args below meth c cells slots Q A D ca ad sh (pc + 1) lo (.int v :: st) σ) : WW p l e R s m args below meth c cells slots Q A D ca ad sh pc lo st σ := fun H locs ls hP hD hS hl => lv_iconst C.1 C.2.1 d hv (k H locs ls hP hD hS hl)
theorem s_bipush (C : CX p s m args c D ca A own cc nL) {n : Int} {v : Int32} (d : decode cc pc = .ok (.bipush n, 2)) (hv : (Int8.ofInt n).toInt32 = v) (k : WW p l e R s m args below meth c cells slots Q A D ca ad sh (pc + 2) lo (.int v :: st) σ) : WW p l e R s m args below meth c cells slots Q A D ca ad sh pc lo st σ := fun H locs ls hP hD hS hl => lv_bipush C.1 C.2.1 d hv (k H locs ls hP hD hS hl)
theorem s_sipush (C : CX p s m args c D ca A own cc nL) {n : Int} {v : Int32} (d : decode cc pc = .ok (.sipush n, 3)) (hv : (Int16.ofInt n).toInt32 = v) (k : WW p l e R s m args below meth c cells slots Q A D ca ad sh (pc + 3) lo (.int v :: st) σ) : WW p l e R s m args below meth c cells slots Q A D ca ad sh pc lo st σ := fun H locs ls hP hD hS hl => lv_sipush C.1 C.2.1 d hv (k H locs ls hP hD hS hl)
theorem s_iloadn (C : CX p s m args c D ca A own cc nL) {q : Fin 4} {x : Int32} (d : decode cc pc = .ok (.iload_n q, 1)) (hx : lo[(q : Nat)]? = some (some (.int x))) (k : WW p l e R s m args below meth c cells slots Q A D ca ad sh (pc + 1) lo (.int x :: st) σ) : WW p l e R s m args below meth c cells slots Q A D ca ad sh pc lo st σ := fun H locs ls hP hD hS hl => lv_iload_n C.1 C.2.1 d rfl (hl.2.2.1 _ _ hx) (k H locs ls hP hD hS hl)
theorem s_iload (C : CX p s m args c D ca A own cc nL) {i : Nat} {x : Int32} (d : decode cc pc = .ok (.iload i, 2)) (hx : lo[i]? = some (some (.int x))) (k : WW p l e R s m args below meth c cells slots Q A D ca ad sh (pc + 2) lo (.int x :: st) σ) : WW p l e R s m args below meth c cells slots Q A D ca ad sh pc lo st σ := fun H locs ls hP hD hS hl => lv_iload C.1 C.2.1 d (hl.2.2.1 _ _ hx) (k H locs ls hP hD hS hl)
theorem s_istoren (C : CX p s m args c D ca A own cc nL) {q : Fin 4} {x : Int32} {lo' : List (Option Value)} (d : decode cc pc = .ok (.istore_n q, 1)) (hi : (q : Nat) < lo.length) (hs : lo.set q (some (.int x)) = lo') (k : WW p l e R s m args below meth c cells slots Q A D ca ad sh (pc + 1) lo' st σ) : WW p l e R s m args below meth c cells slots Q A D ca ad sh pc lo (.int x :: st) σ := fun H locs ls hP hD hS hl => lv_istore_n C.1 C.2.1 d rfl (lh_has hl) hi rfl (fun ls' h' => k H locs ls' hP hD hS (hs ▸ lh_set hl hi rfl h'))
theorem s_istore (C : CX p s m args c D ca A own cc nL) {i : Nat} {x : Int32} {lo' : List (Option Value)} (d : decode cc pc = .ok (.istore i, 2)) (hi : i < lo.length) (hs : lo.set i (some (.int x)) = lo') (k : WW p l e R s m args below meth c cells slots Q A D ca ad sh (pc + 2) lo' st σ) : WW p l e R s m args below meth c cells slots Q A D ca ad sh pc lo (.int x :: st) σ := fun H locs ls hP hD hS hl => lv_istore C.1 C.2.1 d (lh_has hl) hi rfl (fun ls' h' => k H locs ls' hP hD hS (hs ▸ lh_set hl hi rfl h'))
theorem s_aloadn (C : CX p s m args c D ca A own cc nL) {q : Fin 4} {x : Nat} (d : decode cc pc = .ok (.aload_n q, 1)) (hx : lo[(q : Nat)]? = some (some (.ref x))) (k : WW p l e R s m args below meth c cells slots Q A D ca ad sh (pc + 1) lo (.ref x :: st) σ) : WW p l e R s m args below meth c cells slots Q A D ca ad sh pc lo st σ := fun H locs ls hP hD hS hl => lv_aload_n C.1 C.2.1 d rfl (hl.2.2.1 _ _ hx) (k H locs ls hP hD hS hl)
theorem s_aload (C : CX p s m args c D ca A own cc nL) {i : Nat} {x : Nat} (d : decode cc pc = .ok (.aload i, 2)) (hx : lo[i]? = some (some (.ref x))) (k : WW p l e R s m args below meth c cells slots Q A D ca ad sh (pc + 2) lo (.ref x :: st) σ) : WW p l e R s m args below meth c cells slots Q A D ca ad sh pc lo st σ := fun H locs ls hP hD hS hl => lv_aload C.1 C.2.1 d (hl.2.2.1 _ _ hx) (k H locs ls hP hD hS hl)
theorem s_astoren (C : CX p s m args c D ca A own cc nL) {q : Fin 4} {x : Nat} {lo' : List (Option Value)} (d : decode cc pc = .ok (.astore_n q, 1)) (hi : (q : Nat) < lo.length) (hs : lo.set q (some (.ref x)) = lo') (k : WW p l e R s m args below meth c cells slots Q A D ca ad sh (pc + 1) lo' st σ) : WW p l e R s m args below meth c cells slots Q A D ca ad sh pc lo (.ref x :: st) σ := fun H locs ls hP hD hS hl => lv_astore_n C.1 C.2.1 d rfl (lh_has hl) hi rfl (fun ls' h' => k H locs ls' hP hD hS (hs ▸ lh_set hl hi rfl h'))
theorem s_astore (C : CX p s m args c D ca A own cc nL) {i : Nat} {x : Nat} {lo' : List (Option Value)} (d : decode cc pc = .ok (.astore i, 2)) (hi : i < lo.length) (hs : lo.set i (some (.ref x)) = lo') (k : WW p l e R s m args below meth c cells slots Q A D ca ad sh (pc + 2) lo' st σ) : WW p l e R s m args below meth c cells slots Q A D ca ad sh pc lo (.ref x :: st) σ := fun H locs ls hP hD hS hl => lv_astore C.1 C.2.1 d (lh_has hl) hi rfl (fun ls' h' => k H locs ls' hP hD hS (hs ▸ lh_set hl hi rfl h'))
theorem s_iinc (C : CX p s m args c D ca A own cc nL) {i : Nat} {n : Int} {x v : Int32} {lo' : List (Option Value)} (d : decode cc pc = .ok (.iinc i n, 3)) (hx : lo[i]? = some (some (.int x))) (hv : x + Int32.ofInt n = v) (hs : lo.set i (some (.int v)) = lo') (k : WW p l e R s m args below meth c cells slots Q A D ca ad sh (pc + 3) lo' st σ) : WW p l e R s m args below meth c cells slots Q A D ca ad sh pc lo st σ := fun H locs ls hP hD hS hl => by
  have hi : i < lo.length := (List.getElem?_eq_some_iff.mp hx).1
  obtain ⟨j, hj⟩ := List.getElem?_of_mem (lvl_mem (q := (i, .int x)).mpr hx)
  exact lv_iinc C.1 C.2.1 d (lh_has hl) hj hv hi rfl (fun ls' h' => k H locs ls' hP hD hS (hs ▸ lh_set hl hi rfl h'))
theorem s_iadd (C : CX p s m args c D ca A own cc nL) {x y : Int32} (d : decode cc pc = .ok (.iadd, 1)) (k : WW p l e R s m args below meth c cells slots Q A D ca ad sh (pc + 1) lo (.int (x + y) :: st) σ) : WW p l e R s m args below meth c cells slots Q A D ca ad sh pc lo (.int y :: .int x :: st) σ := fun H locs ls hP hD hS hl => lv_iadd C.1 C.2.1 d (k H locs ls hP hD hS hl)
theorem s_isub (C : CX p s m args c D ca A own cc nL) {x y : Int32} (d : decode cc pc = .ok (.isub, 1)) (k : WW p l e R s m args below meth c cells slots Q A D ca ad sh (pc + 1) lo (.int (x - y) :: st) σ) : WW p l e R s m args below meth c cells slots Q A D ca ad sh pc lo (.int y :: .int x :: st) σ := fun H locs ls hP hD hS hl => lv_isub C.1 C.2.1 d (k H locs ls hP hD hS hl)
theorem s_imul (C : CX p s m args c D ca A own cc nL) {x y : Int32} (d : decode cc pc = .ok (.imul, 1)) (k : WW p l e R s m args below meth c cells slots Q A D ca ad sh (pc + 1) lo (.int (x * y) :: st) σ) : WW p l e R s m args below meth c cells slots Q A D ca ad sh pc lo (.int y :: .int x :: st) σ := fun H locs ls hP hD hS hl => lv_imul C.1 C.2.1 d (k H locs ls hP hD hS hl)
theorem s_iand (C : CX p s m args c D ca A own cc nL) {x y : Int32} (d : decode cc pc = .ok (.iand, 1)) (k : WW p l e R s m args below meth c cells slots Q A D ca ad sh (pc + 1) lo (.int (x &&& y) :: st) σ) : WW p l e R s m args below meth c cells slots Q A D ca ad sh pc lo (.int y :: .int x :: st) σ := fun H locs ls hP hD hS hl => lv_iand C.1 C.2.1 d (k H locs ls hP hD hS hl)
theorem s_ior (C : CX p s m args c D ca A own cc nL) {x y : Int32} (d : decode cc pc = .ok (.ior, 1)) (k : WW p l e R s m args below meth c cells slots Q A D ca ad sh (pc + 1) lo (.int (x ||| y) :: st) σ) : WW p l e R s m args below meth c cells slots Q A D ca ad sh pc lo (.int y :: .int x :: st) σ := fun H locs ls hP hD hS hl => lv_ior C.1 C.2.1 d (k H locs ls hP hD hS hl)
theorem s_ixor (C : CX p s m args c D ca A own cc nL) {x y : Int32} (d : decode cc pc = .ok (.ixor, 1)) (k : WW p l e R s m args below meth c cells slots Q A D ca ad sh (pc + 1) lo (.int (x ^^^ y) :: st) σ) : WW p l e R s m args below meth c cells slots Q A D ca ad sh pc lo (.int y :: .int x :: st) σ := fun H locs ls hP hD hS hl => lv_ixor C.1 C.2.1 d (k H locs ls hP hD hS hl)
theorem s_ishl (C : CX p s m args c D ca A own cc nL) {x y : Int32} (d : decode cc pc = .ok (.ishl, 1)) (k : WW p l e R s m args below meth c cells slots Q A D ca ad sh (pc + 1) lo (.int (x <<< (y &&& 31)) :: st) σ) : WW p l e R s m args below meth c cells slots Q A D ca ad sh pc lo (.int y :: .int x :: st) σ := fun H locs ls hP hD hS hl => lv_ishl C.1 C.2.1 d (k H locs ls hP hD hS hl)
theorem s_ishr (C : CX p s m args c D ca A own cc nL) {x y : Int32} (d : decode cc pc = .ok (.ishr, 1)) (k : WW p l e R s m args below meth c cells slots Q A D ca ad sh (pc + 1) lo (.int (x >>> (y &&& 31)) :: st) σ) : WW p l e R s m args below meth c cells slots Q A D ca ad sh pc lo (.int y :: .int x :: st) σ := fun H locs ls hP hD hS hl => lv_ishr C.1 C.2.1 d (k H locs ls hP hD hS hl)
theorem s_idiv (C : CX p s m args c D ca A own cc nL) {x y : Int32} (d : decode cc pc = .ok (.idiv, 1)) (hne : ¬ y = 0) (k : WW p l e R s m args below meth c cells slots Q A D ca ad sh (pc + 1) lo (.int (x / y) :: st) σ) : WW p l e R s m args below meth c cells slots Q A D ca ad sh pc lo (.int y :: .int x :: st) σ := fun H locs ls hP hD hS hl => lv_idiv C.1 C.2.1 d hne (k H locs ls hP hD hS hl)
theorem s_irem (C : CX p s m args c D ca A own cc nL) {x y : Int32} (d : decode cc pc = .ok (.irem, 1)) (hne : ¬ y = 0) (k : WW p l e R s m args below meth c cells slots Q A D ca ad sh (pc + 1) lo (.int (x - x / y * y) :: st) σ) : WW p l e R s m args below meth c cells slots Q A D ca ad sh pc lo (.int y :: .int x :: st) σ := fun H locs ls hP hD hS hl => lv_irem C.1 C.2.1 d hne (k H locs ls hP hD hS hl)
theorem s_ineg (C : CX p s m args c D ca A own cc nL) {x : Int32} (d : decode cc pc = .ok (.ineg, 1)) (k : WW p l e R s m args below meth c cells slots Q A D ca ad sh (pc + 1) lo (.int (-x) :: st) σ) : WW p l e R s m args below meth c cells slots Q A D ca ad sh pc lo (.int x :: st) σ := fun H locs ls hP hD hS hl => lv_ineg C.1 C.2.1 d (k H locs ls hP hD hS hl)
theorem s_iushr (C : CX p s m args c D ca A own cc nL) {x y : Int32} (d : decode cc pc = .ok (.iushr, 1)) (k : WW p l e R s m args below meth c cells slots Q A D ca ad sh (pc + 1) lo (.int ((x.toUInt32 >>> (y.toUInt32 &&& Int32.toUInt32 31)).toInt32) :: st) σ) : WW p l e R s m args below meth c cells slots Q A D ca ad sh pc lo (.int y :: .int x :: st) σ := fun H locs ls hP hD hS hl => lv_iushr C.1 C.2.1 d rfl (k H locs ls hP hD hS hl)
theorem s_dup (C : CX p s m args c D ca A own cc nL) {v : Value} (d : decode cc pc = .ok (.dup, 1)) (hv : v.category = 1) (k : WW p l e R s m args below meth c cells slots Q A D ca ad sh (pc + 1) lo (v :: v :: st) σ) : WW p l e R s m args below meth c cells slots Q A D ca ad sh pc lo (v :: st) σ := fun H locs ls hP hD hS hl => lv_dup C.1 C.2.1 d hv (k H locs ls hP hD hS hl)
theorem s_pop (C : CX p s m args c D ca A own cc nL) {v : Value} (d : decode cc pc = .ok (.pop, 1)) (hv : v.category = 1) (k : WW p l e R s m args below meth c cells slots Q A D ca ad sh (pc + 1) lo st σ) : WW p l e R s m args below meth c cells slots Q A D ca ad sh pc lo (v :: st) σ := fun H locs ls hP hD hS hl => lv_pop C.1 C.2.1 d hv (k H locs ls hP hD hS hl)
theorem s_dupx1 (C : CX p s m args c D ca A own cc nL) {v w : Value} (d : decode cc pc = .ok (.dup_x1, 1)) (hv : v.category = 1) (hw : w.category = 1) (k : WW p l e R s m args below meth c cells slots Q A D ca ad sh (pc + 1) lo (v :: w :: v :: st) σ) : WW p l e R s m args below meth c cells slots Q A D ca ad sh pc lo (v :: w :: st) σ := fun H locs ls hP hD hS hl => lv_dup_x1 C.1 C.2.1 d hv hw (k H locs ls hP hD hS hl)
theorem s_dup2 (C : CX p s m args c D ca A own cc nL) {v w : Value} (d : decode cc pc = .ok (.dup2, 1)) (hv : v.category = 1) (hw : w.category = 1) (k : WW p l e R s m args below meth c cells slots Q A D ca ad sh (pc + 1) lo (v :: w :: v :: w :: st) σ) : WW p l e R s m args below meth c cells slots Q A D ca ad sh pc lo (v :: w :: st) σ := fun H locs ls hP hD hS hl => lv_dup2_11 C.1 C.2.1 d hv hw (k H locs ls hP hD hS hl)
theorem s_goto (C : CX p s m args c D ca A own cc nL) {off : Int} {tgt : Nat} (d : decode cc pc = .ok (.goto off, 3)) (ht : (pc : Int) + off = (tgt : Int)) (k : WW p l e R s m args below meth c cells slots Q A D ca ad sh tgt lo st σ) : WW p l e R s m args below meth c cells slots Q A D ca ad sh pc lo st σ := fun H locs ls hP hD hS hl => lv_goto C.1 C.2.1 d ht (k H locs ls hP hD hS hl)
theorem s_if_eq (C : CX p s m args c D ca A own cc nL) {x : Int32} {off : Int} {tgt : Nat} (d : decode cc pc = .ok (.ifCond .eq off, 3)) (ht : (pc : Int) + off = (tgt : Int)) (kt : x = 0 → WW p l e R s m args below meth c cells slots Q A D ca ad sh tgt lo st σ) (kf : ¬ x = 0 → WW p l e R s m args below meth c cells slots Q A D ca ad sh (pc + 3) lo st σ) : WW p l e R s m args below meth c cells slots Q A D ca ad sh pc lo (.int x :: st) σ := fun H locs ls hP hD hS hl => lv_if_eq C.1 C.2.1 d ht (fun h => kt h H locs ls hP hD hS hl) (fun h => kf h H locs ls hP hD hS hl)
theorem s_icmp_eq (C : CX p s m args c D ca A own cc nL) {x y : Int32} {off : Int} {tgt : Nat} (d : decode cc pc = .ok (.if_icmp .eq off, 3)) (ht : (pc : Int) + off = (tgt : Int)) (kt : x = y → WW p l e R s m args below meth c cells slots Q A D ca ad sh tgt lo st σ) (kf : ¬ x = y → WW p l e R s m args below meth c cells slots Q A D ca ad sh (pc + 3) lo st σ) : WW p l e R s m args below meth c cells slots Q A D ca ad sh pc lo (.int y :: .int x :: st) σ := fun H locs ls hP hD hS hl => lv_icmp_eq C.1 C.2.1 d ht (fun h => kt h H locs ls hP hD hS hl) (fun h => kf h H locs ls hP hD hS hl)
theorem s_if_lt (C : CX p s m args c D ca A own cc nL) {x : Int32} {off : Int} {tgt : Nat} (d : decode cc pc = .ok (.ifCond .lt off, 3)) (ht : (pc : Int) + off = (tgt : Int)) (kt : x < 0 → WW p l e R s m args below meth c cells slots Q A D ca ad sh tgt lo st σ) (kf : ¬ x < 0 → WW p l e R s m args below meth c cells slots Q A D ca ad sh (pc + 3) lo st σ) : WW p l e R s m args below meth c cells slots Q A D ca ad sh pc lo (.int x :: st) σ := fun H locs ls hP hD hS hl => lv_if_lt C.1 C.2.1 d ht (fun h => kt h H locs ls hP hD hS hl) (fun h => kf h H locs ls hP hD hS hl)
theorem s_icmp_lt (C : CX p s m args c D ca A own cc nL) {x y : Int32} {off : Int} {tgt : Nat} (d : decode cc pc = .ok (.if_icmp .lt off, 3)) (ht : (pc : Int) + off = (tgt : Int)) (kt : x < y → WW p l e R s m args below meth c cells slots Q A D ca ad sh tgt lo st σ) (kf : ¬ x < y → WW p l e R s m args below meth c cells slots Q A D ca ad sh (pc + 3) lo st σ) : WW p l e R s m args below meth c cells slots Q A D ca ad sh pc lo (.int y :: .int x :: st) σ := fun H locs ls hP hD hS hl => lv_icmp_lt C.1 C.2.1 d ht (fun h => kt h H locs ls hP hD hS hl) (fun h => kf h H locs ls hP hD hS hl)
theorem s_if_ge (C : CX p s m args c D ca A own cc nL) {x : Int32} {off : Int} {tgt : Nat} (d : decode cc pc = .ok (.ifCond .ge off, 3)) (ht : (pc : Int) + off = (tgt : Int)) (kt : 0 ≤ x → WW p l e R s m args below meth c cells slots Q A D ca ad sh tgt lo st σ) (kf : ¬ 0 ≤ x → WW p l e R s m args below meth c cells slots Q A D ca ad sh (pc + 3) lo st σ) : WW p l e R s m args below meth c cells slots Q A D ca ad sh pc lo (.int x :: st) σ := fun H locs ls hP hD hS hl => lv_if_ge C.1 C.2.1 d ht (fun h => kt h H locs ls hP hD hS hl) (fun h => kf h H locs ls hP hD hS hl)
theorem s_icmp_ge (C : CX p s m args c D ca A own cc nL) {x y : Int32} {off : Int} {tgt : Nat} (d : decode cc pc = .ok (.if_icmp .ge off, 3)) (ht : (pc : Int) + off = (tgt : Int)) (kt : y ≤ x → WW p l e R s m args below meth c cells slots Q A D ca ad sh tgt lo st σ) (kf : ¬ y ≤ x → WW p l e R s m args below meth c cells slots Q A D ca ad sh (pc + 3) lo st σ) : WW p l e R s m args below meth c cells slots Q A D ca ad sh pc lo (.int y :: .int x :: st) σ := fun H locs ls hP hD hS hl => lv_icmp_ge C.1 C.2.1 d ht (fun h => kt h H locs ls hP hD hS hl) (fun h => kf h H locs ls hP hD hS hl)
theorem s_if_gt (C : CX p s m args c D ca A own cc nL) {x : Int32} {off : Int} {tgt : Nat} (d : decode cc pc = .ok (.ifCond .gt off, 3)) (ht : (pc : Int) + off = (tgt : Int)) (kt : 0 < x → WW p l e R s m args below meth c cells slots Q A D ca ad sh tgt lo st σ) (kf : ¬ 0 < x → WW p l e R s m args below meth c cells slots Q A D ca ad sh (pc + 3) lo st σ) : WW p l e R s m args below meth c cells slots Q A D ca ad sh pc lo (.int x :: st) σ := fun H locs ls hP hD hS hl => lv_if_gt C.1 C.2.1 d ht (fun h => kt h H locs ls hP hD hS hl) (fun h => kf h H locs ls hP hD hS hl)
theorem s_icmp_gt (C : CX p s m args c D ca A own cc nL) {x y : Int32} {off : Int} {tgt : Nat} (d : decode cc pc = .ok (.if_icmp .gt off, 3)) (ht : (pc : Int) + off = (tgt : Int)) (kt : y < x → WW p l e R s m args below meth c cells slots Q A D ca ad sh tgt lo st σ) (kf : ¬ y < x → WW p l e R s m args below meth c cells slots Q A D ca ad sh (pc + 3) lo st σ) : WW p l e R s m args below meth c cells slots Q A D ca ad sh pc lo (.int y :: .int x :: st) σ := fun H locs ls hP hD hS hl => lv_icmp_gt C.1 C.2.1 d ht (fun h => kt h H locs ls hP hD hS hl) (fun h => kf h H locs ls hP hD hS hl)
theorem s_if_le (C : CX p s m args c D ca A own cc nL) {x : Int32} {off : Int} {tgt : Nat} (d : decode cc pc = .ok (.ifCond .le off, 3)) (ht : (pc : Int) + off = (tgt : Int)) (kt : x ≤ 0 → WW p l e R s m args below meth c cells slots Q A D ca ad sh tgt lo st σ) (kf : ¬ x ≤ 0 → WW p l e R s m args below meth c cells slots Q A D ca ad sh (pc + 3) lo st σ) : WW p l e R s m args below meth c cells slots Q A D ca ad sh pc lo (.int x :: st) σ := fun H locs ls hP hD hS hl => lv_if_le C.1 C.2.1 d ht (fun h => kt h H locs ls hP hD hS hl) (fun h => kf h H locs ls hP hD hS hl)
theorem s_icmp_le (C : CX p s m args c D ca A own cc nL) {x y : Int32} {off : Int} {tgt : Nat} (d : decode cc pc = .ok (.if_icmp .le off, 3)) (ht : (pc : Int) + off = (tgt : Int)) (kt : x ≤ y → WW p l e R s m args below meth c cells slots Q A D ca ad sh tgt lo st σ) (kf : ¬ x ≤ y → WW p l e R s m args below meth c cells slots Q A D ca ad sh (pc + 3) lo st σ) : WW p l e R s m args below meth c cells slots Q A D ca ad sh pc lo (.int y :: .int x :: st) σ := fun H locs ls hP hD hS hl => lv_icmp_le C.1 C.2.1 d ht (fun h => kt h H locs ls hP hD hS hl) (fun h => kf h H locs ls hP hD hS hl)
theorem s_if_ne (C : CX p s m args c D ca A own cc nL) {x : Int32} {off : Int} {tgt : Nat} (d : decode cc pc = .ok (.ifCond .ne off, 3)) (ht : (pc : Int) + off = (tgt : Int)) (kt : ¬ x = 0 → WW p l e R s m args below meth c cells slots Q A D ca ad sh tgt lo st σ) (kf : x = 0 → WW p l e R s m args below meth c cells slots Q A D ca ad sh (pc + 3) lo st σ) : WW p l e R s m args below meth c cells slots Q A D ca ad sh pc lo (.int x :: st) σ := fun H locs ls hP hD hS hl => lv_if_ne C.1 C.2.1 d ht (fun h => kt h H locs ls hP hD hS hl) (fun h => kf h H locs ls hP hD hS hl)
theorem s_icmp_ne (C : CX p s m args c D ca A own cc nL) {x y : Int32} {off : Int} {tgt : Nat} (d : decode cc pc = .ok (.if_icmp .ne off, 3)) (ht : (pc : Int) + off = (tgt : Int)) (kt : ¬ x = y → WW p l e R s m args below meth c cells slots Q A D ca ad sh tgt lo st σ) (kf : x = y → WW p l e R s m args below meth c cells slots Q A D ca ad sh (pc + 3) lo st σ) : WW p l e R s m args below meth c cells slots Q A D ca ad sh pc lo (.int y :: .int x :: st) σ := fun H locs ls hP hD hS hl => lv_icmp_ne C.1 C.2.1 d ht (fun h => kt h H locs ls hP hD hS hl) (fun h => kf h H locs ls hP hD hS hl)
theorem s_few {lo' : List (Option Value)} (h : lfew lo lo') (k : WW p l e R s m args below meth c cells slots Q A D ca ad sh pc lo' st σ) : WW p l e R s m args below meth c cells slots Q A D ca ad sh pc lo st σ := fun H locs ls hP hD hS hl => k H locs ls hP hD hS (lh_sub hl (lfew_len h) (lfew_at h))
end WWR
end
section
/-- an index in range, and the place that it names -/
def inb (x : Int32) (n : Nat) : Bool := decide (¬ (x < 0 ∨ n ≤ x.toNatClampNeg))
def ix (x : Int32) : Nat := x.toNatClampNeg
theorem inb_in {x : Int32} {n : Nat} (h : inb x n = true) : vp_in x n := by
  unfold inb at h
  have h2 : ¬ (x < 0 ∨ n ≤ x.toNatClampNeg) := of_decide_eq_true h
  exact h2
theorem inb_lt {x : Int32} {n : Nat} (h : inb x n = true) : ix x < n := Nat.not_le.mp fun q => inb_in h (Or.inr q)
/-! fields and arrays of a world of a shape; contracts over such a world; calls and returns -/
/-- own's pool entry index is the field j of the class number ci -/
def FL (own : String) (index ci j : Nat) : Prop := ∃ (C : String) (T : u_T) (N : Nat), vwCl[ci]? = some (C, T, N) ∧ j < N ∧ (∀ w ∈ u_ws C T N, w ∈ WS) ∧ Cond.fieldLink own index (T j).1 (T j).2.1 (T j).2.2.1 ∈ WS
def FP (own : String) (index ci j : Nat) (ty : FieldType) : Prop := ∃ (C : String) (T : u_T) (N : Nat) (ty0 : Nat → FieldType), vwCl[ci]? = some (C, T, N) ∧ j < N ∧ (∀ w ∈ u_ws C T N, w ∈ WS) ∧ Cond.fieldLink own index (T j).1 (T j).2.1 (T j).2.2.1 ∈ WS ∧ (∀ k, k < N → parseFieldDescriptor (T k).2.2.1 = some (ty0 k)) ∧ (∀ a, a < N → ∀ b, b < N → a ≠ b → (T a).2.1 ≠ (T b).2.1) ∧ (T j).2.2.2 = false ∧ parseFieldDescriptor (T j).2.2.1 = some ty
theorem i_and1 {v : Int32} (h : v = 0 ∨ v = 1) : v &&& 1 = v := by rcases h with rfl | rfl <;> decide +kernel
theorem i_and1_01 (x : Int32) : x &&& 1 = 0 ∨ x &&& 1 = 1 := by
  obtain ⟨j, hj, e⟩ := pk_andE x (m := 1) 1 (by decide +kernel)
  rcases (show j = 0 ∨ j = 1 by omega) with rfl | rfl
  · exact Or.inl (by rw [e]; decide +kernel)
  · exact Or.inr (by rw [e]; decide +kernel)
section WWF
variable {p : Program} {l : Launch} {e : Env} {R : Room} {s : State} {m : MethodId} {args : Array Value} {below : List Frame} {meth : Method} {c : Code} {cells slots : Nat} {Q : State → Prop} {A : Nat → Prop} {D : va_G} {ca : Nat → ClassId} {ad : Nat → Nat} {sh : List sO} {own : String} {cc : ByteArray} {nL pc : Nat} {lo : List (Option Value)} {st : List Value} {σ : St}
theorem s_get (C : CX p s m args c D ca A own cc nL) {index ci j q : Nat} {fs : List sF} {x : sF} (hF : FL own index ci j) (hq : sh[q]? = some (.inl (ci, fs))) (hx : fs[j]? = some x) (d : decode cc pc = .ok (.getfield index, 3)) (k : WW p l e R s m args below meth c cells slots Q A D ca ad sh (pc + 3) lo (sv ad (σ q) j x :: st) σ) : WW p l e R s m args below meth c cells slots Q A D ca ad sh pc lo (.ref (ad q) :: st) σ := by
  intro H locs ls hP hD hS hl
  obtain ⟨Cn, T, N, hc, hj, hin, hlk⟩ := hF
  refine va_get (D := D) (ci := ci) (v := sv ad (σ q) j x) (C := Cn) (T := T) (N := N) C.1 C.2.1 C.2.2.2.2.1 hin C.2.2.2.1 C.2.2.2.2.2.1 hP q (wd_at hq) hc j hj (C.2.2.2.2.1 _ hlk) (fun _ h => h) ?_ d (k H locs ls hP hD hS hl)
  simp [hx]
theorem s_getI (C : CX p s m args c D ca A own cc nL) {index ci j q : Nat} {fs : List sF} (hF : FL own index ci j) (hq : sh[q]? = some (.inl (ci, fs))) (hx : fs[j]? = some (.inr false)) (d : decode cc pc = .ok (.getfield index, 3)) (k : WW p l e R s m args below meth c cells slots Q A D ca ad sh (pc + 3) lo (.int (σ q j) :: st) σ) : WW p l e R s m args below meth c cells slots Q A D ca ad sh pc lo (.ref (ad q) :: st) σ := s_get C hF hq hx d k
theorem s_getZ (C : CX p s m args c D ca A own cc nL) {index ci j q : Nat} {fs : List sF} (hF : FL own index ci j) (hq : sh[q]? = some (.inl (ci, fs))) (hx : fs[j]? = some (.inr true)) (d : decode cc pc = .ok (.getfield index, 3)) (k : WW p l e R s m args below meth c cells slots Q A D ca ad sh (pc + 3) lo (.int (σ q j &&& 1) :: st) σ) : WW p l e R s m args below meth c cells slots Q A D ca ad sh pc lo (.ref (ad q) :: st) σ := s_get C hF hq hx d k
theorem s_getR (C : CX p s m args c D ca A own cc nL) {index ci j q r : Nat} {fs : List sF} (hF : FL own index ci j) (hq : sh[q]? = some (.inl (ci, fs))) (hx : fs[j]? = some (.inl r)) (d : decode cc pc = .ok (.getfield index, 3)) (k : WW p l e R s m args below meth c cells slots Q A D ca ad sh (pc + 3) lo (.ref (ad r) :: st) σ) : WW p l e R s m args below meth c cells slots Q A D ca ad sh pc lo (.ref (ad q) :: st) σ := s_get C hF hq hx d k
theorem s_put (C : CX p s m args c D ca A own cc nL) {index ci j q : Nat} {fs : List sF} {x : sF} {ty : FieldType} {v : Int32} (hF : FP own index ci j ty) (hq : sh[q]? = some (.inl (ci, fs))) (hx : fs[j]? = some x) (hv : sv ad (upd (σ q) j v) j x = .int v) (hn : narrow ty (.int v) = .int v) (hfit : fits ty (.int v) = true) (d : decode cc pc = .ok (.putfield index, 3)) (k : WW p l e R s m args below meth c cells slots Q A D ca ad sh (pc + 3) lo st (su σ q j v)) : WW p l e R s m args below meth c cells slots Q A D ca ad sh pc lo (.int v :: .ref (ad q) :: st) σ := by
  intro H locs ls hP hD hS hl
  obtain ⟨Cn, T, N, ty0, hc, hj, hin, hlk, hty, hnm, hfin, hd⟩ := hF
  have hlen : j < (fs.mapIdx (fun i y => sv ad (σ q) i y)).length := by
    have := (List.getElem?_eq_some_iff.mp hx).1
    simpa using this
  refine va_put (D := D) (ci := ci) (v := .int v) (ty := ty) (C := Cn) (T := T) (N := N) C.1 C.2.1 C.2.2.2.2.1 hin ty0 hty hnm C.2.2.2.1 C.2.2.2.2.2.1 hP hD hS q (wd_at hq) hc j hj (C.2.2.2.2.1 _ hlk) (fun _ h => h) hfin hd hn hfit hlen d (fun H1 locs1 hP1 hD1 hS1 => ?_)
  have he : (wd sh ca ad σ).set q (ad q, .inr (ci, (fs.mapIdx (fun i y => sv ad (σ q) i y)).set j (.int v))) = wd sh ca ad (su σ q j v) := by
    refine wd_set hq ?_ (fun a ha => su_row ha)
    rw [su_at]
    show (Sum.inr (ci, _) : va_E) = Sum.inr (ci, _)
    rw [sv_set hx hv]
  rw [he] at hP1 hD1
  exact k H1 locs1 ls hP1 hD1 hS1 hl
theorem s_putI (C : CX p s m args c D ca A own cc nL) {index ci j q : Nat} {fs : List sF} {v : Int32} (hF : FP own index ci j .int) (hq : sh[q]? = some (.inl (ci, fs))) (hx : fs[j]? = some (.inr false)) (d : decode cc pc = .ok (.putfield index, 3)) (k : WW p l e R s m args below meth c cells slots Q A D ca ad sh (pc + 3) lo st (su σ q j v)) : WW p l e R s m args below meth c cells slots Q A D ca ad sh pc lo (.int v :: .ref (ad q) :: st) σ := s_put C hF hq hx (by simp [sv, upd]) rfl rfl d k
theorem s_putZ (C : CX p s m args c D ca A own cc nL) {index ci j q : Nat} {fs : List sF} {v : Int32} (hF : FP own index ci j .boolean) (hq : sh[q]? = some (.inl (ci, fs))) (hx : fs[j]? = some (.inr true)) (h01 : v = 0 ∨ v = 1) (d : decode cc pc = .ok (.putfield index, 3)) (k : WW p l e R s m args below meth c cells slots Q A D ca ad sh (pc + 3) lo st (su σ q j v)) : WW p l e R s m args below meth c cells slots Q A D ca ad sh pc lo (.int v :: .ref (ad q) :: st) σ :=
  s_put C hF hq hx (by simp [sv, upd, i_and1 h01]) (by show Value.int (v &&& 1) = _; rw [i_and1 h01]) (by rcases h01 with rfl | rfl <;> rfl) d k
theorem s_alenI (C : CX p s m args c D ca A own cc nL) {t n q : Nat} {o : Option (Option Nat)} {ty : FieldType} {v : Int32} (hq : sh[q]? = some (.inr (t, n, o))) (ht : (tys ca)[t]? = some (ca t, ty)) (hv : nI n = v) (d : decode cc pc = .ok (.arraylength, 1)) (k : WW p l e R s m args below meth c cells slots Q A D ca ad sh (pc + 1) lo (.int v :: st) σ) : WW p l e R s m args below meth c cells slots Q A D ca ad sh pc lo (.ref (ad q) :: st) σ := by
  intro H locs ls hP hD hS hl
  cases o with
  | none => exact va_alen C.1 C.2.1 C.2.2.2.2.2.1 hP q t (wd_at hq) ht hv d (k H locs ls hP hD hS hl)
  | some o => cases o with
    | none => exact va_alen C.1 C.2.1 C.2.2.2.2.2.1 hP q t (wd_at hq) ht hv d (k H locs ls hP hD hS hl)
    | some b => exact va_alen C.1 C.2.1 C.2.2.2.2.2.1 hP q t (wd_at hq) ht hv d (k H locs ls hP hD hS hl)
theorem s_iald (C : CX p s m args c D ca A own cc nL) {t n q : Nat} {x : Int32} (hq : sh[q]? = some (.inr (t, n, none))) (ht : (tys ca)[t]? = some (ca t, .int)) (hx : inb x n = true) (d : decode cc pc = .ok (.iaload, 1)) (k : WW p l e R s m args below meth c cells slots Q A D ca ad sh (pc + 1) lo (.int (σ q (ix x)) :: st) σ) : WW p l e R s m args below meth c cells slots Q A D ca ad sh pc lo (.int x :: .ref (ad q) :: st) σ := fun H locs ls hP hD hS hl => va_iald C.1 C.2.1 C.2.2.2.2.2.1 hP q t (wd_at hq) ht (inb_in hx) d (k H locs ls hP hD hS hl)
theorem s_iast (C : CX p s m args c D ca A own cc nL) {t n q : Nat} {x v : Int32} (hq : sh[q]? = some (.inr (t, n, none))) (ht : (tys ca)[t]? = some (ca t, .int)) (hx : inb x n = true) (d : decode cc pc = .ok (.iastore, 1)) (k : WW p l e R s m args below meth c cells slots Q A D ca ad sh (pc + 1) lo st (su σ q (ix x) v)) : WW p l e R s m args below meth c cells slots Q A D ca ad sh pc lo (.int v :: .int x :: .ref (ad q) :: st) σ := by
  intro H locs ls hP hD hS hl
  refine va_iast C.1 C.2.1 C.2.2.2.2.2.1 hP hD hS q t (wd_at hq) ht (inb_in hx) d (fun H1 locs1 hP1 hD1 hS1 => ?_)
  have he : (wd sh ca ad σ).set q (ad q, .inl (ca t, n, .inl (upd (σ q) x.toNatClampNeg v))) = wd sh ca ad (su σ q (ix x) v) := by
    refine wd_set hq ?_ (fun a ha => su_row ha)
    rw [su_at]
    rfl
  rw [he] at hP1 hD1
  exact k H1 locs1 ls hP1 hD1 hS1 hl
theorem s_aald (C : CX p s m args c D ca A own cc nL) {t n q b : Nat} {x : Int32} {Cn : String} (hq : sh[q]? = some (.inr (t, n, some (some b)))) (ht : (tys ca)[t]? = some (ca t, .object Cn)) (hx : inb x n = true) (d : decode cc pc = .ok (.aaload, 1)) (k : WW p l e R s m args below meth c cells slots Q A D ca ad sh (pc + 1) lo (.ref (ad (b + ix x)) :: st) σ) : WW p l e R s m args below meth c cells slots Q A D ca ad sh pc lo (.int x :: .ref (ad q) :: st) σ := fun H locs ls hP hD hS hl => va_aldq C.1 C.2.1 C.2.2.2.2.2.1 hP q t (wd_at hq) ht (inb_in hx) d (k H locs ls hP hD hS hl)
end WWF
/-! contracts: a method of a world of a shape that makes nothing and always returns: what it answers (ov), the state behind it (τ) -/
def Pr (D : va_G) (ca : Nat → ClassId) (ad : Nat → Nat) (sh : List sO) (av : List Value) (σ : St) (sz : Nat) : Array Value → State → Prop := va_Pc av (fun U => U.heap.size = sz ∧ va_P D vwCl (wd sh ca ad σ) U.heap ∧ va_K D vwCl (tys ca) U ∧ va_D (fun _ => True) (wd sh ca ad σ) ∧ NWs U)
def QV (D : va_G) (ca : Nat → ClassId) (ad : Nat → Nat) (sh : List sO) (A : Nat → Prop) (ov : Option Value) (τ : St) : Array Value → State → Outcome → State → Prop := fun _ st oc t => (oc = .returned ov ∧ va_P D vwCl (wd sh ca ad τ) t.heap ∧ va_K D vwCl (tys ca) t ∧ va_D A (wd sh ca ad τ)) ∧ va_F A st t
def cM (l : Launch) (y : MethodName) (cw : Cond) (rm : Room) (D : va_G) (ca : Nat → ClassId) (ad : Nat → Nat) (sh : List sO) (av : List Value) (σ : St) (ov : Option Value) (τ : St) : Prop :=
  ∀ sz : Nat, Met l y (cw :: WS) rm (Pr D ca ad sh av σ sz) (QV D ca ad sh (va_A (wd sh ca ad σ) sz) ov τ) 0 0 (va_A (wd sh ca ad σ) sz)
/-- the end that a body owes -/
def EQ (D : va_G) (ca : Nat → ClassId) (ad : Nat → Nat) (sh : List sO) (A : Nat → Prop) (below : List Frame) (args : Array Value) (s : State) (ov : Option Value) (τ : St) : State → Prop := MQ below (QV D ca ad sh A ov τ) args s 0 0 A
def lo0 (av : List Value) (nL : Nat) : List (Option Value) := av.map some ++ List.replicate (nL - av.length) none
theorem lg_sl_len1 : ∀ {av : List Value}, (∀ v ∈ av, v.category = 1) → (lg_sl av).length = av.length
  | [], _ => rfl
  | v :: r, h => by
    have h1 := h v List.mem_cons_self
    have h2 := lg_sl_len1 (av := r) (fun w hw => h w (List.mem_cons_of_mem _ hw))
    cases v <;> simp_all [lg_sl, Value.category]
theorem lv_args1 : ∀ {av : List Value} {b : Nat}, (∀ v ∈ av, v.category = 1) → ∀ {i : Nat} {v : Value}, av[i]? = some v → (b + i, v) ∈ lv_args b av
  | [], _, _, i, v, h => by simp at h
  | w :: r, b, hc, 0, v, h => by
    simp only [List.getElem?_cons_zero, Option.some.injEq] at h
    subst h
    exact List.mem_cons_self
  | w :: r, b, hc, i + 1, v, h => by
    simp only [List.getElem?_cons_succ] at h
    have h1 := hc w List.mem_cons_self
    have h2 := lv_args1 (av := r) (b := b + 1) (fun x hx => hc x (List.mem_cons_of_mem _ hx)) h
    have e : b + (i + 1) = b + 1 + i := by omega
    rw [e]
    unfold lv_args
    rw [h1]
    exact List.mem_cons_of_mem _ h2
theorem lh_entry {av : List Value} {nL : Nat} (hc : ∀ v ∈ av, v.category = 1) (hn : av.length ≤ nL) : lh ((lg_sl av ++ List.replicate (nL - (lg_sl av).length) Slot.unset).toArray) (lo0 av nL) := by
  have hlen := lg_sl_len1 hc
  have h := lv_entry av (n := nL) (by rw [hlen]; exact hn)
  have key : ∀ (i : Nat) (v : Value), (lo0 av nL)[i]? = some (some v) → av[i]? = some v := by
    intro i v hi
    unfold lo0 at hi
    by_cases hlt : i < av.length
    · rw [List.getElem?_append_left (by simpa using hlt), List.getElem?_map] at hi
      cases hv : av[i]? with
      | none => rw [hv] at hi; cases hi
      | some w => rw [hv] at hi; simpa using hi
    · rw [List.getElem?_append_right (by simpa using hlt)] at hi
      rw [List.getElem?_replicate] at hi
      split at hi <;> simp at hi
  refine ⟨by rw [h.1]; simp [lo0]; omega, h.2.1, fun i v hi => ?_, fun i v hi => ?_⟩
  · have := h.2.2 _ (lv_args1 (b := 0) hc (key i v hi))
    simpa using this
  · exact hc v (List.mem_of_getElem? (key i v hi))
theorem cM.intro {l : Launch} {y : MethodName} {cc : ByteArray} {nL : Nat} {ret : Option FieldType} {rm : Room} {D : va_G} {ca : Nat → ClassId} {ad : Nat → Nat} {sh : List sO} {av : List Value} {σ : St} {ov : Option Value} {τ : St} {own : String}
    (hy : plainName y.cls = true) (hown : y.cls = own) (hc : ∀ v ∈ av, v.category = 1) (hn : av.length ≤ nL)
    (k : ∀ (p : Program) (e : Env) (s : State) (m : MethodId) (args : Array Value) (below : List Frame) (meth : Method) (c : Code) (A : Nat → Prop), CX p s m args c D ca A own cc nL → meth.sig.returnType = ret → meth.locks = false →
      WW p l e rm s m args below meth c 0 0 (EQ D ca ad sh A below args s ov τ) A D ca ad sh 0 (lo0 av nL) [] σ) : cM l y (.code y cc nL ret) rm D ca ad sh av σ ov τ := by
  intro sz
  refine Met.ofW (cc := cc) (maxL := nL) (ret := ret) hy rfl ?_
  intro p e s m args below meth c s₁ B hml hv
  obtain ⟨rfl, hsz, hP, hK, hD0, hNW⟩ := hv
  have hts := atoms_spec (ws := .code y cc nL ret :: WS) B.pre
  have ho : s.vm.findClass own = some m.cls := by rw [← hown]; exact findClass_of_methodNamed B.named
  subst hsz
  have hA : ∀ q : Nat, s.heap.size ≤ q → va_A (wd sh ca ad σ) s.heap.size q := fun q h => Or.inr h
  rw [lg_entry_eq]
  exact k p e s m _ below meth c _ ⟨B.exec, B.bytes, hml, ho, fun w hw => hts w (List.mem_cons_of_mem _ hw), hK, hA, hNW⟩ B.returns B.notSynchronized s.heap [] _ hP hD0.self va_S.rf (lh_entry hc hn)
section WWC
variable {p : Program} {l : Launch} {e : Env} {R : Room} {s : State} {m : MethodId} {args : Array Value} {below : List Frame} {meth : Method} {c : Code} {cells slots : Nat} {Q : State → Prop} {A : Nat → Prop} {D : va_G} {ca : Nat → ClassId} {ad : Nat → Nat} {sh : List sO} {own : String} {cc : ByteArray} {nL pc : Nat} {lo : List (Option Value)} {st : List Value} {σ τ : St} {ov : Option Value}
theorem s_iret (C : CX p s m args c D ca A own cc nL) {v : Int32} (hr : meth.sig.returnType = some .int) (hlocks : meth.locks = false) (d : decode cc pc = .ok (.ireturn, 1)) (hv : ov = some (.int v)) (hσ : τ = σ) : WW p l e R s m args below meth c 0 0 (EQ D ca ad sh A below args s ov τ) A D ca ad sh pc lo [.int v] σ := by
  subst hv; subst hσ
  intro H locs ls hP hD hS hl
  exact W.iret (Qc := QV D ca ad sh A (some (.int v)) τ) C.1 C.2.1 hr (fun t ht hW => ⟨⟨rfl, by rw [ht]; exact hP, va_K.moved hW.alike C.2.2.2.2.2.1, hD⟩, hS.F ht⟩) hS.2.2 d hlocks
theorem s_zret (C : CX p s m args c D ca A own cc nL) {v : Int32} (hr : meth.sig.returnType = some .boolean) (hlocks : meth.locks = false) (d : decode cc pc = .ok (.ireturn, 1)) (h01 : v = 0 ∨ v = 1) (hv : ov = some (.int v)) (hσ : τ = σ) : WW p l e R s m args below meth c 0 0 (EQ D ca ad sh A below args s ov τ) A D ca ad sh pc lo [.int v] σ := by
  subst hv; subst hσ
  intro H locs ls hP hD hS hl
  exact W.zret (Qc := QV D ca ad sh A (some (.int v)) τ) (ty := .boolean) C.1 C.2.1 hr (by show Value.int (v &&& 1) = _; rw [i_and1 h01]) (fun t ht hW => ⟨⟨rfl, by rw [ht]; exact hP, va_K.moved hW.alike C.2.2.2.2.2.1, hD⟩, hS.F ht⟩) hS.2.2 d hlocks
theorem s_vret (C : CX p s m args c D ca A own cc nL) (hr : meth.sig.returnType = none) (hlocks : meth.locks = false) (d : decode cc pc = .ok (.return_, 1)) (hv : ov = none) (hσ : τ = σ) : WW p l e R s m args below meth c 0 0 (EQ D ca ad sh A below args s ov τ) A D ca ad sh pc lo [] σ := by
  subst hv; subst hσ
  intro H locs ls hP hD hS hl
  exact W.vret (Qc := QV D ca ad sh A none τ) C.1 C.2.1 hr (fun t ht hW => ⟨⟨rfl, by rw [ht]; exact hP, va_K.moved hW.alike C.2.2.2.2.2.1, hD⟩, hS.F ht⟩) hS.2.2 d hlocks
theorem s_aret (C : CX p s m args c D ca A own cc nL) {a : Nat} {Cn : String} (hr : meth.sig.returnType = some (.object Cn)) (hlocks : meth.locks = false) (d : decode cc pc = .ok (.areturn, 1)) (hv : ov = some (.ref a)) (hσ : τ = σ) : WW p l e R s m args below meth c 0 0 (EQ D ca ad sh A below args s ov τ) A D ca ad sh pc lo [.ref a] σ := by
  subst hv; subst hσ
  intro H locs ls hP hD hS hl
  exact W.aret (Qc := QV D ca ad sh A (some (.ref a)) τ) C.1 C.2.1 hr (Or.inl ⟨_, rfl⟩) (Or.inr ⟨_, rfl⟩) (fun t ht hW => ⟨⟨rfl, by rw [ht]; exact hP, va_K.moved hW.alike C.2.2.2.2.2.1, hD⟩, hS.F ht⟩) hS.2.2 d hlocks
/-- what lies behind a call in the world -/
theorem s_back (C : CX p s m args c D ca A own cc nL) {st0 : List Value} {rest : List Value} (hr : ∀ H locs ls, va_P D vwCl (wd sh ca ad σ) H → va_D A (wd sh ca ad σ) → lh ls lo → va_Run p l e R s m args below meth c H locs cells slots 0 0 (F0 m pc ls st0) rest (QV D ca ad sh (va_A (wd sh ca ad σ) H.size) ov τ #[]) (va_A (wd sh ca ad σ) H.size))
    (k : WW p l e R s m args below meth c cells slots Q A D ca ad sh (pc + 3) lo (ov.toList ++ rest) τ) : WW p l e R s m args below meth c cells slots Q A D ca ad sh pc lo st0 σ := by
  intro H locs ls hP hD hS hl T hT X
  obtain ⟨v, st₀, t, T', L, h0, X', hL, e1, e2, ⟨⟨hv, hb1, hb2, hb3⟩, hz, hk⟩, go⟩ := hr H locs ls hP hD hl T hT X
  cases hv
  rw [h0] at hz hk
  have hsub : ∀ q, va_A (wd sh ca ad σ) H.size q → A q := by
    intro q hq
    rcases hq with ⟨i, x, hi⟩ | hq
    · exact hD.2 i _ hi
    · exact C.2.2.2.2.2.2.1 q (Nat.le_trans hS.1 hq)
  obtain ⟨t2, a1, b1⟩ := k T'.heap (locs ++ L) ls (by rw [e1]; exact hb1) (hb3.weaken (fun _ _ _ h => hsub _ h))
    ⟨Nat.le_trans hS.1 (by rw [e1]; exact hz), fun q h1 h2 => by rw [e1, hk q (Nat.lt_of_lt_of_le h1 hS.1) (fun z => h2 (hsub q z))]; exact hS.2.1 q h1 h2, fun q hq => by
      rcases List.mem_append.mp hq with h | h
      · exact hS.2.2 q h
      · exact hsub _ (hL q h)⟩ hl T' rfl X'
  exact ⟨t2, go t2 a1, b1⟩
end WWC
end
section
theorem WS_good : ∀ w ∈ WS, goodWord w = true := fun w h => (List.mem_filter.mp h).2
theorem WS_in {cw : Cond} (h : cw ∈ WS) : GoodIn WS (cw :: WS) := fun w hw => by
  rcases List.mem_cons.mp hw with rfl | hw
  · exact ⟨h, good_of_word (WS_good _ h)⟩
  · exact ⟨hw, good_of_word (WS_good _ hw)⟩
/-- the words of a call -/
def KV (own : String) (index : Nat) (y : MethodName) (Cn : String) (bytes : ByteArray) (maxL : Nat) (ret : Option FieldType) (n : Nat) : Prop :=
  (∀ w ∈ ([.methodLink own index y, .instanceMethod y, .selects Cn y y, .initialized Cn, .code y bytes maxL ret] : List Cond), w ∈ WS) ∧ y.cls = Cn ∧ y.cls ≠ "java/lang/invoke/MethodHandle" ∧ y.cls ≠ "java/lang/invoke/VarHandle" ∧ (parseMethodDescriptor y.desc).map (fun d => d.parameters.length) = some n
def KS (own : String) (index : Nat) (y : MethodName) (bytes : ByteArray) (maxL : Nat) (ret : Option FieldType) (n : Nat) : Prop :=
  (∀ w ∈ ([.methodLink own index y, .static y, .initialized own, .code y bytes maxL ret] : List Cond), w ∈ WS) ∧ y.cls = own ∧ y.cls ≠ "java/lang/invoke/MethodHandle" ∧ y.cls ≠ "java/lang/invoke/VarHandle" ∧ (parseMethodDescriptor y.desc).map (fun d => d.parameters.length) = some n
section WWK
variable {p : Program} {l : Launch} {e : Env} {R : Room} {s : State} {m : MethodId} {args : Array Value} {below : List Frame} {meth : Method} {c : Code} {cells slots : Nat} {Q : State → Prop} {A : Nat → Prop} {D : va_G} {ca : Nat → ClassId} {ad : Nat → Nat} {sh : List sO} {own : String} {cc : ByteArray} {nL pc : Nat} {lo : List (Option Value)} {σ τ : St} {ov : Option Value}
variable {y : MethodName} {bytes : ByteArray} {maxL n index q ci : Nat} {ret : Option FieldType} {rm : Room} {Cn : String} {fs : List sF} {As rest st0 : List Value}
theorem s_callV (C : CX p s m args c D ca A own cc nL) (hlo : lo.length = nL) (hM : cM l y (.code y bytes maxL ret) rm D ca ad sh (.ref (ad q) :: As) σ ov τ) (hw : KV own index y Cn bytes maxL ret n)
    (hrm : rm.cells = 0 ∧ rm.slots = 0) (hR : rm.frames + 1 ≤ R.frames ∧ 8 + (maxL + 11) + rm.locals ≤ R.locals) (hq : sh[q]? = some (.inl (ci, fs))) (hci : ∃ x : vw_C, vwCl[ci]? = some x ∧ x.1 = Cn)
    (hn : As.length = n) (hst : st0 = As.reverse ++ .ref (ad q) :: rest) (hW : (rest.map fun v => v.category).sum ≤ 8) (d : decode cc pc = .ok (.invokevirtual index, 3)) (hcs : cells ≤ R.cells ∧ slots ≤ R.slots)
    (k : WW p l e R s m args below meth c cells slots Q A D ca ad sh (pc + 3) lo (ov.toList ++ rest) τ) : WW p l e R s m args below meth c cells slots Q A D ca ad sh pc lo st0 σ := by
  refine s_back C (ov := ov) (rest := rest) (fun H locs ls hP hD hl => ?_) k
  obtain ⟨x, hx1, hx2⟩ := hci
  subst hst
  have hG : GoodIn WS (wsV own index Cn y (.code y bytes maxL ret :: WS)) := by
    intro w hw'
    have hin : w ∈ WS := by
      rcases List.mem_append.mp hw' with h | h
      · exact hw.1 w (by simp only [List.mem_cons, List.not_mem_nil, or_false] at h ⊢; rcases h with h | h | h | h <;> simp [h])
      · rcases List.mem_cons.mp h with h | h
        · exact hw.1 w (by simp [h])
        · exact h
    exact ⟨hin, good_of_word (WS_good w hin)⟩
  exact va_runV (b := ad q) (As := As) (rest := rest) (n := n) ⟨C.1, C.2.1, C.2.2.1, C.2.2.2.1, C.2.2.2.2.1⟩ (hM H.size) (cwV n C.2.2.2.2.1 hG rfl hrm.1 hrm.2 hw.2 hR)
    ⟨fun a U g mk q => by obtain ⟨q0, q1, qP, qK, qD, qN⟩ := q; exact ⟨q0, q1, qP, va_K.moved (u := U) (U := U.calling g mk a) (Vm.Alike.refl U.vm) qK, qD, NWs.same (u := U) (U := U.calling g mk a) rfl qN⟩, by have := va_recv C.2.2.2.2.2.1 hP hx1 (wd_at hq); rw [hx2] at this; exact this, fun U hU hW => ⟨rfl, by rw [hU], by rw [hU]; exact hP, va_K.moved hW.alike C.2.2.2.2.2.1, hD.weaken (fun _ _ _ _ => trivial), NWs.warm hW C.2.2.2.2.2.2.2⟩⟩
    rfl hn (by show ls.size = _; rw [hl.1, hlo]) rfl (lv_room hW) d ⟨by simpa using hcs.1, by simpa using hcs.2⟩
theorem s_callS (C : CX p s m args c D ca A own cc nL) (hlo : lo.length = nL) (hM : cM l y (.code y bytes maxL ret) rm D ca ad sh As σ ov τ) (hw : KS own index y bytes maxL ret n)
    (hrm : rm.cells = 0 ∧ rm.slots = 0) (hR : rm.frames + 1 ≤ R.frames ∧ 8 + (maxL + 11) + rm.locals ≤ R.locals)
    (hn : As.length = n) (hst : st0 = As.reverse ++ rest) (hW : (rest.map fun v => v.category).sum ≤ 8) (d : decode cc pc = .ok (.invokestatic index, 3)) (hcs : cells ≤ R.cells ∧ slots ≤ R.slots)
    (k : WW p l e R s m args below meth c cells slots Q A D ca ad sh (pc + 3) lo (ov.toList ++ rest) τ) : WW p l e R s m args below meth c cells slots Q A D ca ad sh pc lo st0 σ := by
  refine s_back C (ov := ov) (rest := rest) (fun H locs ls hP hD hl => ?_) k
  subst hst
  have hG : GoodIn WS (wsS own index y (.code y bytes maxL ret :: WS)) := by
    intro w hw'
    have hin : w ∈ WS := by
      rcases List.mem_append.mp hw' with h | h
      · exact hw.1 w (by simp only [List.mem_cons, List.not_mem_nil, or_false] at h ⊢; rcases h with h | h | h <;> simp [h])
      · rcases List.mem_cons.mp h with h | h
        · exact hw.1 w (by simp [h])
        · exact h
    exact ⟨hin, good_of_word (WS_good w hin)⟩
  exact va_runS (As := As) (rest := rest) (n := n) ⟨C.1, C.2.1, C.2.2.1, C.2.2.2.1, C.2.2.2.2.1⟩ (hM H.size) (cwS n C.2.2.2.2.1 hG rfl hrm.1 hrm.2 hw.2 hR)
    ⟨fun a U g mk q => by obtain ⟨q0, q1, qP, qK, qD, qN⟩ := q; exact ⟨q0, q1, qP, va_K.moved (u := U) (U := U.calling g mk a) (Vm.Alike.refl U.vm) qK, qD, NWs.same (u := U) (U := U.calling g mk a) rfl qN⟩, fun U hU hW => ⟨rfl, by rw [hU], by rw [hU]; exact hP, va_K.moved hW.alike C.2.2.2.2.2.1, hD.weaken (fun _ _ _ _ => trivial), NWs.warm hW C.2.2.2.2.2.2.2⟩⟩
    rfl hn (by show ls.size = _; rw [hl.1, hlo]) rfl (lv_room hW) d ⟨by simpa using hcs.1, by simpa using hcs.2⟩
end WWK
end
section
/-! further rows: nest calls, Math, switches, comparisons of references, constants; the pure functions' combinators -/
theorem ifp {α : Type} {c : Prop} {_ : Decidable c} {a b : α} {r : α} (h : c) (e : (if c then a else b) = r) : a = r := by rwa [if_pos h] at e
theorem ifn {α : Type} {c : Prop} {_ : Decidable c} {a b : α} {r : α} (h : ¬ c) (e : (if c then a else b) = r) : b = r := by rwa [if_neg h] at e
theorem gd {α : Type} {c : Prop} {_ : Decidable c} {a : Option α} {r : α} (e : (if c then a else none) = some r) : c ∧ a = some r := by
  by_cases h : c
  · exact ⟨h, by rwa [if_pos h] at e⟩
  · rw [if_neg h] at e; cases e
def bn {α β : Type} (o : Option (α × St)) (f : α → St → Option β) : Option β := match o with
  | none => none
  | some x => f x.1 x.2
def bv {β : Type} (o : Option St) (f : St → Option β) : Option β := match o with
  | none => none
  | some x => f x
theorem bnd {α β : Type} {o : Option (α × St)} {f : α → St → Option β} {r : β} (h : bn o f = some r) : ∃ (a : α) (τ : St), o = some (a, τ) ∧ f a τ = some r := by
  cases o with
  | none => cases h
  | some x => exact ⟨x.1, x.2, rfl, h⟩
theorem bvd {β : Type} {o : Option St} {f : St → Option β} {r : β} (h : bv o f = some r) : ∃ τ : St, o = some τ ∧ f τ = some r := by
  cases o with
  | none => cases h
  | some x => exact ⟨x, rfl, h⟩
theorem rt {α : Type} {a c : α} {b d : St} (h : some (a, b) = some (c, d)) : c = a ∧ d = b := by cases h; exact ⟨rfl, rfl⟩
theorem rtv {b d : St} (h : some b = some d) : d = b := by cases h; rfl
def rmk (k : Nat) : Room := { frames := k, cells := 0, slots := 0, locals := 40 * k }
def mmax (x y : Int32) : Int32 := if x < y then y else x
def mmin (x y : Int32) : Int32 := if y < x then y else x
def iush (x y : Int32) : Int32 := (x.toUInt32 >>> (y.toUInt32 &&& Int32.toUInt32 31)).toInt32
def KN (own : String) (index : Nat) (y : MethodName) (host : String) (bytes : ByteArray) (maxL : Nat) (ret : Option FieldType) (n : Nat) : Prop :=
  (∀ w ∈ ([.static y, .initialized y.cls, .code y bytes maxL ret] : List Cond), w ∈ WS) ∧ Cond.methodLinkNest own index y host ∈ NW ∧ y.cls ≠ "java/lang/invoke/MethodHandle" ∧ y.cls ≠ "java/lang/invoke/VarHandle" ∧ (parseMethodDescriptor y.desc).map (fun d => d.parameters.length) = some n
/-- a static method of any class of ours (or of the JDK), by an ordinary link -/
def KO (own : String) (index : Nat) (y : MethodName) (bytes : ByteArray) (maxL : Nat) (ret : Option FieldType) (n : Nat) : Prop :=
  (∀ w ∈ ([.methodLink own index y, .static y, .initialized y.cls, .code y bytes maxL ret] : List Cond), w ∈ WS) ∧ y.cls ≠ "java/lang/invoke/MethodHandle" ∧ y.cls ≠ "java/lang/invoke/VarHandle" ∧ (parseMethodDescriptor y.desc).map (fun d => d.parameters.length) = some n
theorem goodWS {ws : List Cond} (h : ∀ w ∈ ws, w ∈ WS) : GoodIn WS ws := fun w hw => ⟨h w hw, good_of_word (WS_good w (h w hw))⟩
section WWM
variable {p : Program} {l : Launch} {e : Env} {R : Room} {s : State} {m : MethodId} {args : Array Value} {below : List Frame} {meth : Method} {c : Code} {cells slots : Nat} {Q : State → Prop} {A : Nat → Prop} {D : va_G} {ca : Nat → ClassId} {ad : Nat → Nat} {sh : List sO} {own : String} {cc : ByteArray} {nL pc : Nat} {lo : List (Option Value)} {st : List Value} {σ τ : St} {ov : Option Value}
variable {y : MethodName} {bytes : ByteArray} {maxL n index : Nat} {ret : Option FieldType} {rm : Room} {As rest st0 : List Value}
theorem s_callN {host : String} (C : CX p s m args c D ca A own cc nL) (hlo : lo.length = nL) (hM : cM l y (.code y bytes maxL ret) rm D ca ad sh As σ ov τ) (hw : KN own index y host bytes maxL ret n)
    (hrm : rm.cells = 0 ∧ rm.slots = 0) (hR : rm.frames + 1 ≤ R.frames ∧ 8 + (maxL + 11) + rm.locals ≤ R.locals)
    (hn : As.length = n) (hst : st0 = As.reverse ++ rest) (hW : (rest.map fun v => v.category).sum ≤ 8) (d : decode cc pc = .ok (.invokestatic index, 3)) (hcs : cells ≤ R.cells ∧ slots ≤ R.slots)
    (k : WW p l e R s m args below meth c cells slots Q A D ca ad sh (pc + 3) lo (ov.toList ++ rest) τ) : WW p l e R s m args below meth c cells slots Q A D ca ad sh pc lo st0 σ := by
  refine s_back C (ov := ov) (rest := rest) (fun H locs ls hP hD hl => ?_) k
  subst hst
  have hG : GoodIn WS (.code y bytes maxL ret :: WS) := WS_in (hw.1 _ (by simp))
  have hok : ∀ w ∈ ([.static y, .initialized y.cls, .code y bytes maxL ret] : List Cond), w.before args s = true := fun w h => C.2.2.2.2.1 w (hw.1 w h)
  exact va_runSN (As := As) (rest := rest) (n := n) ⟨C.1, C.2.1, C.2.2.1, C.2.2.2.1, C.2.2.2.2.1⟩ (hM H.size) ⟨va_cnB n C.2.2.2.2.1 hG rfl hrm.1 hrm.2 (C.2.2.2.2.2.2.2 _ hw.2.1) (hok _ (by simp)) hw.2.2 hR, hok _ (by simp), trivial⟩
    ⟨fun a U g mk q => by obtain ⟨q0, q1, qP, qK, qD, qN⟩ := q; exact ⟨q0, q1, qP, va_K.moved (u := U) (U := U.calling g mk a) (Vm.Alike.refl U.vm) qK, qD, NWs.same (u := U) (U := U.calling g mk a) rfl qN⟩, fun U hU hW => ⟨rfl, by rw [hU], by rw [hU]; exact hP, va_K.moved hW.alike C.2.2.2.2.2.1, hD.weaken (fun _ _ _ _ => trivial), NWs.warm hW C.2.2.2.2.2.2.2⟩⟩
    rfl hn (by show ls.size = _; rw [hl.1, hlo]) rfl (lv_room hW) d ⟨by simpa using hcs.1, by simpa using hcs.2⟩
theorem s_callO (C : CX p s m args c D ca A own cc nL) (hlo : lo.length = nL) (hM : cM l y (.code y bytes maxL ret) rm D ca ad sh As σ ov τ) (hw : KO own index y bytes maxL ret n)
    (hrm : rm.cells = 0 ∧ rm.slots = 0) (hR : rm.frames + 1 ≤ R.frames ∧ 8 + (maxL + 11) + rm.locals ≤ R.locals)
    (hn : As.length = n) (hst : st0 = As.reverse ++ rest) (hW : (rest.map fun v => v.category).sum ≤ 8) (d : decode cc pc = .ok (.invokestatic index, 3)) (hcs : cells ≤ R.cells ∧ slots ≤ R.slots)
    (k : WW p l e R s m args below meth c cells slots Q A D ca ad sh (pc + 3) lo (ov.toList ++ rest) τ) : WW p l e R s m args below meth c cells slots Q A D ca ad sh pc lo st0 σ := by
  refine s_back C (ov := ov) (rest := rest) (fun H locs ls hP hD hl => ?_) k
  subst hst
  have hG : GoodIn WS (.code y bytes maxL ret :: WS) := WS_in (hw.1 _ (by simp))
  have hok : ∀ w ∈ ([.methodLink own index y, .static y, .initialized y.cls, .code y bytes maxL ret] : List Cond), w.before args s = true := fun w h => C.2.2.2.2.1 w (hw.1 w h)
  exact va_runS (As := As) (rest := rest) (n := n) ⟨C.1, C.2.1, C.2.2.1, C.2.2.2.1, C.2.2.2.2.1⟩ (hM H.size) ⟨callB_of n C.2.2.2.2.1 hG rfl hrm.1 hrm.2 (hok _ (by simp)) (hok _ (by simp)) hw.2 hR, hok _ (by simp)⟩
    ⟨fun a U g mk q => by obtain ⟨q0, q1, qP, qK, qD, qN⟩ := q; exact ⟨q0, q1, qP, va_K.moved (u := U) (U := U.calling g mk a) (Vm.Alike.refl U.vm) qK, qD, NWs.same (u := U) (U := U.calling g mk a) rfl qN⟩, fun U hU hW => ⟨rfl, by rw [hU], by rw [hU]; exact hP, va_K.moved hW.alike C.2.2.2.2.2.1, hD.weaken (fun _ _ _ _ => trivial), NWs.warm hW C.2.2.2.2.2.2.2⟩⟩
    rfl hn (by show ls.size = _; rw [hl.1, hlo]) rfl (lv_room hW) d ⟨by simpa using hcs.1, by simpa using hcs.2⟩
theorem s_mmax (C : CX p s m args c D ca A own cc nL) (hlo : lo.length = nL) {x z : Int32} (hlk : Cond.methodLink own index Lib.Math.max.name ∈ WS) (hR : 1 ≤ R.frames ∧ (st.map fun v => v.category).sum + 13 ≤ R.locals) (hcs : cells ≤ R.cells ∧ slots ≤ R.slots) (hm : Cond.static Lib.Math.max.name ∈ WS ∧ Cond.initialized "java/lang/Math" ∈ WS ∧ Cond.code Lib.Math.max.name Lib.Math.max.code 2 (some .int) ∈ WS) (d : decode cc pc = .ok (.invokestatic index, 3))
    (k : WW p l e R s m args below meth c cells slots Q A D ca ad sh (pc + 3) lo (.int (mmax x z) :: st) σ) : WW p l e R s m args below meth c cells slots Q A D ca ad sh pc lo (.int z :: .int x :: st) σ := fun H locs ls hP hD hS hl =>
  va_mmax C.1 C.2.1 (by rw [C.2.2.1, hl.1, hlo]) C.2.2.2.1 (C.2.2.2.2.1 _ hlk) (C.2.2.2.2.1 _ hm.1) (C.2.2.2.2.1 _ hm.2.1) (C.2.2.2.2.1 _ hm.2.2) hR.1 hR.2 hcs.1 hcs.2 d (k H locs ls hP hD hS hl)
theorem s_mmin (C : CX p s m args c D ca A own cc nL) (hlo : lo.length = nL) {x z : Int32} (hlk : Cond.methodLink own index Lib.Math.min.name ∈ WS) (hR : 1 ≤ R.frames ∧ (st.map fun v => v.category).sum + 13 ≤ R.locals) (hcs : cells ≤ R.cells ∧ slots ≤ R.slots) (hm : Cond.static Lib.Math.min.name ∈ WS ∧ Cond.initialized "java/lang/Math" ∈ WS ∧ Cond.code Lib.Math.min.name Lib.Math.min.code 2 (some .int) ∈ WS) (d : decode cc pc = .ok (.invokestatic index, 3))
    (k : WW p l e R s m args below meth c cells slots Q A D ca ad sh (pc + 3) lo (.int (mmin x z) :: st) σ) : WW p l e R s m args below meth c cells slots Q A D ca ad sh pc lo (.int z :: .int x :: st) σ := fun H locs ls hP hD hS hl =>
  va_mmin C.1 C.2.1 (by rw [C.2.2.1, hl.1, hlo]) C.2.2.2.1 (C.2.2.2.2.1 _ hlk) (C.2.2.2.2.1 _ hm.1) (C.2.2.2.2.1 _ hm.2.1) (C.2.2.2.2.1 _ hm.2.2) hR.1 hR.2 hcs.1 hcs.2 d (k H locs ls hP hD hS hl)
theorem s_ush (C : CX p s m args c D ca A own cc nL) {x z : Int32} (d : decode cc pc = .ok (.iushr, 1)) (k : WW p l e R s m args below meth c cells slots Q A D ca ad sh (pc + 1) lo (.int (iush x z) :: st) σ) : WW p l e R s m args below meth c cells slots Q A D ca ad sh pc lo (.int z :: .int x :: st) σ := s_iushr C d k
theorem s_ldcw (C : CX p s m args c D ca A own cc nL) {v : Int32} (hc : Cond.constant own index v ∈ WS) (d : decode cc pc = .ok (.ldc_w index, 3)) (k : WW p l e R s m args below meth c cells slots Q A D ca ad sh (pc + 3) lo (.int v :: st) σ) : WW p l e R s m args below meth c cells slots Q A D ca ad sh pc lo st σ := fun H locs ls hP hD hS hl => lv_ldcw C.1 C.2.1 C.2.2.2.1 (C.2.2.2.2.1 _ hc) d (k H locs ls hP hD hS hl)
theorem s_tsw (C : CX p s m args c D ca A own cc nL) {dflt low hi off : Int} {offs : Array Int} {len tgt : Nat} {x v : Int32} (hx : x = v) (d : decode cc pc = .ok (.tableswitch dflt low hi offs, len)) (h : ¬ v.toInt < low ∧ ¬ hi < v.toInt ∧ offs[(v.toInt - low).toNat]? = some off ∧ (pc : Int) + off = (tgt : Int)) (k : WW p l e R s m args below meth c cells slots Q A D ca ad sh tgt lo st σ) : WW p l e R s m args below meth c cells slots Q A D ca ad sh pc lo (.int x :: st) σ := by
  subst hx
  exact fun H locs ls hP hD hS hl => lv_tableIn C.1 C.2.1 d h.1 h.2.1 h.2.2.1 h.2.2.2 (k H locs ls hP hD hS hl)
theorem s_tswD (C : CX p s m args c D ca A own cc nL) {dflt low hi : Int} {offs : Array Int} {len tgt : Nat} {x : Int32} (h : x.toInt < low ∨ hi < x.toInt) (d : decode cc pc = .ok (.tableswitch dflt low hi offs, len)) (ht : (pc : Int) + dflt = (tgt : Int)) (k : WW p l e R s m args below meth c cells slots Q A D ca ad sh tgt lo st σ) : WW p l e R s m args below meth c cells slots Q A D ca ad sh pc lo (.int x :: st) σ := fun H locs ls hP hD hS hl => lv_tableOut C.1 C.2.1 d h ht (k H locs ls hP hD hS hl)
theorem s_lsw (C : CX p s m args c D ca A own cc nL) {dflt off : Int} {ps : Array (Int × Int)} {len tgt : Nat} {x : Int32} (ho : Op.lookupswitch.offset ps.toList dflt x.toInt = off) (d : decode cc pc = .ok (.lookupswitch dflt ps, len)) (hp : (ps.toList.zip (ps.toList.drop 1)).all (fun (a, next) => a.1 < next.1) = true) (ht : (pc : Int) + off = (tgt : Int)) (k : WW p l e R s m args below meth c cells slots Q A D ca ad sh tgt lo st σ) : WW p l e R s m args below meth c cells slots Q A D ca ad sh pc lo (.int x :: st) σ := fun H locs ls hP hD hS hl => lv_lookup C.1 C.2.1 d hp ho ht (k H locs ls hP hD hS hl)
/-- two places: one address or not -/
theorem s_acmp_eq (C : CX p s m args c D ca A own cc nL) {a b : Nat} {oa ob : sO} (ha : sh[a]? = some oa) (hb : sh[b]? = some ob) {off : Int} {tgt : Nat} (d : decode cc pc = .ok (.if_acmp .eq off, 3)) (ht : (pc : Int) + off = (tgt : Int)) (kt : a = b → WW p l e R s m args below meth c cells slots Q A D ca ad sh tgt lo st σ) (kf : ¬ a = b → WW p l e R s m args below meth c cells slots Q A D ca ad sh (pc + 3) lo st σ) : WW p l e R s m args below meth c cells slots Q A D ca ad sh pc lo (.ref (ad b) :: .ref (ad a) :: st) σ := fun H locs ls hP hD hS hl =>
  lv_acmp_eq (rx := some (ad a)) (ry := some (ad b)) C.1 C.2.1 d ht (fun h => kt (hD.1 a b _ _ (wd_at ha) (wd_at hb) (Option.some.inj h)) H locs ls hP hD hS hl) (fun h => kf (fun q => h (by rw [q])) H locs ls hP hD hS hl)
theorem s_acmp_ne (C : CX p s m args c D ca A own cc nL) {a b : Nat} {oa ob : sO} (ha : sh[a]? = some oa) (hb : sh[b]? = some ob) {off : Int} {tgt : Nat} (d : decode cc pc = .ok (.if_acmp .ne off, 3)) (ht : (pc : Int) + off = (tgt : Int)) (kt : ¬ a = b → WW p l e R s m args below meth c cells slots Q A D ca ad sh tgt lo st σ) (kf : a = b → WW p l e R s m args below meth c cells slots Q A D ca ad sh (pc + 3) lo st σ) : WW p l e R s m args below meth c cells slots Q A D ca ad sh pc lo (.ref (ad b) :: .ref (ad a) :: st) σ := fun H locs ls hP hD hS hl =>
  lv_acmp_ne (rx := some (ad a)) (ry := some (ad b)) C.1 C.2.1 d ht (fun h => kt (fun q => h (by rw [q])) H locs ls hP hD hS hl) (fun h => kf (hD.1 a b _ _ (wd_at ha) (wd_at hb) (Option.some.inj h)) H locs ls hP hD hS hl)
end WWM
end
section
/-! the shape of the world: 0 .. 24 the class's, 25 .. 50 the reference's, 51 the law's own row of longs -/
def oPS : sO := .inl (4, [.inl 1, .inl 2, .inl 3, .inl 4, .inr false, .inr false, .inr false, .inr false, .inr false, .inr false, .inr false, .inr true, .inr true])
def oPlan (r : Nat) : sO := .inl (2, [.inr false, .inr false, .inr false, .inl r])
def oPiece : sO := .inl (1, [.inr false, .inr false, .inr false, .inr false, .inr false, .inr false, .inr false, .inr false])
def oSpot : sO := .inl (3, [.inr true, .inr false, .inr false, .inr false, .inr false, .inr false, .inr false, .inr false, .inr false, .inr false, .inr false])
def oM : sO := .inl (5, [.inr false, .inr false, .inr false, .inr false, .inr false, .inl 26, .inl 27, .inl 28, .inl 29, .inl 30, .inl 31, .inr false, .inr false, .inl 32, .inl 33, .inl 34, .inl 35, .inl 36, .inl 37, .inl 38, .inr true, .inr false, .inl 39, .inl 40, .inl 41, .inl 42, .inr false, .inr true, .inr false, .inl 43, .inl 44, .inl 45, .inl 46, .inl 47, .inl 48, .inl 49, .inl 50])
def SH : List sO := [oPS, .inr (1, 6, some (some 5)), oPlan 11, oPlan 12, .inr (0, 6, none), oPiece, oPiece, oPiece, oPiece, oPiece, oPiece, .inr (2, 6, some (some 13)), .inr (2, 6, some (some 19)), oSpot, oSpot, oSpot, oSpot, oSpot, oSpot, oSpot, oSpot, oSpot, oSpot, oSpot, oSpot, oM, .inr (0, 18, none), .inr (0, 6, none), .inr (0, 6, none), .inr (0, 6, none), .inr (0, 6, none), .inr (0, 6, none), .inr (0, 6, none), .inr (0, 6, none), .inr (0, 6, none), .inr (0, 6, none), .inr (0, 6, none), .inr (0, 6, none), .inr (0, 6, none), .inr (0, 6, none), .inr (0, 6, none), .inr (0, 6, none), .inr (0, 6, none), .inr (0, 6, none), .inr (0, 7, none), .inr (0, 7, none), .inr (0, 7, none), .inr (0, 7, none), .inr (0, 168, none), .inr (0, 21, none), .inr (0, 8, none), .inr (3, 1, some none)]
theorem SH_piece {i : Nat} (h : i < 6) : SH[5 + i]? = some oPiece := by
  rcases (show i = 0 ∨ i = 1 ∨ i = 2 ∨ i = 3 ∨ i = 4 ∨ i = 5 by omega) with rfl | rfl | rfl | rfl | rfl | rfl <;> rfl
theorem SH_spot {b i : Nat} (hb : b < 2) (h : i < 6) : SH[13 + 6 * b + i]? = some oSpot := by
  rcases (show b = 0 ∨ b = 1 by omega) with rfl | rfl <;> rcases (show i = 0 ∨ i = 1 ∨ i = 2 ∨ i = 3 ∨ i = 4 ∨ i = 5 by omega) with rfl | rfl | rfl | rfl | rfl | rfl <;> rfl
theorem SH_plan {b : Nat} (hb : b < 2) : SH[2 + b]? = some (oPlan (11 + b)) := by
  rcases (show b = 0 ∨ b = 1 by omega) with rfl | rfl <;> rfl
theorem SH_spots {b : Nat} (hb : b < 2) : SH[11 + b]? = some (.inr (2, 6, some (some (13 + 6 * b)))) := by
  rcases (show b = 0 ∨ b = 1 by omega) with rfl | rfl <;> rfl
theorem ty0 (ca : Nat → ClassId) : (tys ca)[0]? = some (ca 0, .int) := rfl
theorem ty1 (ca : Nat → ClassId) : (tys ca)[1]? = some (ca 1, .object "PackingSearch$Piece") := rfl
theorem ty2 (ca : Nat → ClassId) : (tys ca)[2]? = some (ca 2, .object "PackingSearch$Spot") := rfl
theorem ty3 (ca : Nat → ClassId) : (tys ca)[3]? = some (ca 3, .long) := rfl
theorem inWSX0 : ∀ w ∈ u_ws RX0 TX0 8, w ∈ WS := by decide +kernel
theorem inWSX1 : ∀ w ∈ u_ws RX1 TX1 4, w ∈ WS := by decide +kernel
theorem inWSX2 : ∀ w ∈ u_ws RX2 TX2 11, w ∈ WS := by decide +kernel
theorem inWSX3 : ∀ w ∈ u_ws RX3 TX3 13, w ∈ WS := by decide +kernel
theorem inWSX4 : ∀ w ∈ u_ws RX4 TX4 37, w ∈ WS := by decide +kernel
end
section
theorem fl_X3_15 : FL RX3 15 4 0 := ⟨_, TX3, _, rfl, by decide, inWSX3, ws_mem 175 (by decide +kernel) rfl⟩
theorem fl_X3_25 : FL RX3 25 4 1 := ⟨_, TX3, _, rfl, by decide, inWSX3, ws_mem 176 (by decide +kernel) rfl⟩
theorem fl_X3_29 : FL RX3 29 4 2 := ⟨_, TX3, _, rfl, by decide, inWSX3, ws_mem 177 (by decide +kernel) rfl⟩
theorem fl_X3_32 : FL RX3 32 4 3 := ⟨_, TX3, _, rfl, by decide, inWSX3, ws_mem 178 (by decide +kernel) rfl⟩
theorem fl_X3_49 : FL RX3 49 4 4 := ⟨_, TX3, _, rfl, by decide, inWSX3, ws_mem 179 (by decide +kernel) rfl⟩
theorem fp_X3_49 : FP RX3 49 4 4 .int := ⟨_, TX3, _, tyX3, rfl, by decide, inWSX3, ws_mem 179 (by decide +kernel) rfl, tyX3_ok, nmX3, rfl, by decide +kernel⟩
theorem fl_X3_78 : FL RX3 78 1 5 := ⟨_, TX0, _, rfl, by decide, inWSX0, ws_mem 83 (by decide +kernel) rfl⟩
theorem fp_X3_78 : FP RX3 78 1 5 .int := ⟨_, TX0, _, tyX0, rfl, by decide, inWSX0, ws_mem 83 (by decide +kernel) rfl, tyX0_ok, nmX0, rfl, by decide +kernel⟩
theorem fl_X3_83 : FL RX3 83 1 6 := ⟨_, TX0, _, rfl, by decide, inWSX0, ws_mem 84 (by decide +kernel) rfl⟩
theorem fp_X3_83 : FP RX3 83 1 6 .int := ⟨_, TX0, _, tyX0, rfl, by decide, inWSX0, ws_mem 84 (by decide +kernel) rfl, tyX0_ok, nmX0, rfl, by decide +kernel⟩
theorem fl_X3_96 : FL RX3 96 4 6 := ⟨_, TX3, _, rfl, by decide, inWSX3, ws_mem 181 (by decide +kernel) rfl⟩
theorem fp_X3_96 : FP RX3 96 4 6 .int := ⟨_, TX3, _, tyX3, rfl, by decide, inWSX3, ws_mem 181 (by decide +kernel) rfl, tyX3_ok, nmX3, rfl, by decide +kernel⟩
theorem fl_X3_107 : FL RX3 107 4 11 := ⟨_, TX3, _, rfl, by decide, inWSX3, ws_mem 186 (by decide +kernel) rfl⟩
theorem fp_X3_107 : FP RX3 107 4 11 .boolean := ⟨_, TX3, _, tyX3, rfl, by decide, inWSX3, ws_mem 186 (by decide +kernel) rfl, tyX3_ok, nmX3, rfl, by decide +kernel⟩
theorem fl_X3_111 : FL RX3 111 4 12 := ⟨_, TX3, _, rfl, by decide, inWSX3, ws_mem 187 (by decide +kernel) rfl⟩
theorem fp_X3_111 : FP RX3 111 4 12 .boolean := ⟨_, TX3, _, tyX3, rfl, by decide, inWSX3, ws_mem 187 (by decide +kernel) rfl, tyX3_ok, nmX3, rfl, by decide +kernel⟩
theorem fl_X3_117 : FL RX3 117 4 9 := ⟨_, TX3, _, rfl, by decide, inWSX3, ws_mem 184 (by decide +kernel) rfl⟩
theorem fp_X3_117 : FP RX3 117 4 9 .int := ⟨_, TX3, _, tyX3, rfl, by decide, inWSX3, ws_mem 184 (by decide +kernel) rfl, tyX3_ok, nmX3, rfl, by decide +kernel⟩
theorem fl_X3_140 : FL RX3 140 3 0 := ⟨_, TX2, _, rfl, by decide, inWSX2, ws_mem 119 (by decide +kernel) rfl⟩
theorem fp_X3_140 : FP RX3 140 3 0 .boolean := ⟨_, TX2, _, tyX2, rfl, by decide, inWSX2, ws_mem 119 (by decide +kernel) rfl, tyX2_ok, nmX2, rfl, by decide +kernel⟩
theorem fl_X3_193 : FL RX3 193 4 7 := ⟨_, TX3, _, rfl, by decide, inWSX3, ws_mem 182 (by decide +kernel) rfl⟩
theorem fp_X3_193 : FP RX3 193 4 7 .int := ⟨_, TX3, _, tyX3, rfl, by decide, inWSX3, ws_mem 182 (by decide +kernel) rfl, tyX3_ok, nmX3, rfl, by decide +kernel⟩
theorem fl_X3_196 : FL RX3 196 2 3 := ⟨_, TX1, _, rfl, by decide, inWSX1, ws_mem 165 (by decide +kernel) rfl⟩
theorem fl_X3_200 : FL RX3 200 1 7 := ⟨_, TX0, _, rfl, by decide, inWSX0, ws_mem 86 (by decide +kernel) rfl⟩
theorem fp_X3_200 : FP RX3 200 1 7 .int := ⟨_, TX0, _, tyX0, rfl, by decide, inWSX0, ws_mem 86 (by decide +kernel) rfl, tyX0_ok, nmX0, rfl, by decide +kernel⟩
theorem fl_X3_238 : FL RX3 238 4 8 := ⟨_, TX3, _, rfl, by decide, inWSX3, ws_mem 183 (by decide +kernel) rfl⟩
theorem fp_X3_238 : FP RX3 238 4 8 .int := ⟨_, TX3, _, tyX3, rfl, by decide, inWSX3, ws_mem 183 (by decide +kernel) rfl, tyX3_ok, nmX3, rfl, by decide +kernel⟩
theorem fl_X3_241 : FL RX3 241 4 10 := ⟨_, TX3, _, rfl, by decide, inWSX3, ws_mem 185 (by decide +kernel) rfl⟩
theorem fp_X3_241 : FP RX3 241 4 10 .int := ⟨_, TX3, _, tyX3, rfl, by decide, inWSX3, ws_mem 185 (by decide +kernel) rfl, tyX3_ok, nmX3, rfl, by decide +kernel⟩
theorem fl_X3_247 : FL RX3 247 4 5 := ⟨_, TX3, _, rfl, by decide, inWSX3, ws_mem 180 (by decide +kernel) rfl⟩
theorem fp_X3_247 : FP RX3 247 4 5 .int := ⟨_, TX3, _, tyX3, rfl, by decide, inWSX3, ws_mem 180 (by decide +kernel) rfl, tyX3_ok, nmX3, rfl, by decide +kernel⟩
theorem fl_X0_9 : FL RX0 9 1 4 := ⟨_, TX0, _, rfl, by decide, inWSX0, ws_mem 80 (by decide +kernel) rfl⟩
theorem fp_X0_9 : FP RX0 9 1 4 .int := ⟨_, TX0, _, tyX0, rfl, by decide, inWSX0, ws_mem 80 (by decide +kernel) rfl, tyX0_ok, nmX0, rfl, by decide +kernel⟩
theorem fl_X0_15 : FL RX0 15 1 5 := ⟨_, TX0, _, rfl, by decide, inWSX0, ws_mem 81 (by decide +kernel) rfl⟩
theorem fp_X0_15 : FP RX0 15 1 5 .int := ⟨_, TX0, _, tyX0, rfl, by decide, inWSX0, ws_mem 81 (by decide +kernel) rfl, tyX0_ok, nmX0, rfl, by decide +kernel⟩
theorem fl_X0_18 : FL RX0 18 1 7 := ⟨_, TX0, _, rfl, by decide, inWSX0, ws_mem 85 (by decide +kernel) rfl⟩
theorem fp_X0_18 : FP RX0 18 1 7 .int := ⟨_, TX0, _, tyX0, rfl, by decide, inWSX0, ws_mem 85 (by decide +kernel) rfl, tyX0_ok, nmX0, rfl, by decide +kernel⟩
theorem fl_X0_21 : FL RX0 21 1 0 := ⟨_, TX0, _, rfl, by decide, inWSX0, ws_mem 75 (by decide +kernel) rfl⟩
theorem fp_X0_21 : FP RX0 21 1 0 .int := ⟨_, TX0, _, tyX0, rfl, by decide, inWSX0, ws_mem 75 (by decide +kernel) rfl, tyX0_ok, nmX0, rfl, by decide +kernel⟩
theorem fl_X0_24 : FL RX0 24 1 1 := ⟨_, TX0, _, rfl, by decide, inWSX0, ws_mem 76 (by decide +kernel) rfl⟩
theorem fp_X0_24 : FP RX0 24 1 1 .int := ⟨_, TX0, _, tyX0, rfl, by decide, inWSX0, ws_mem 76 (by decide +kernel) rfl, tyX0_ok, nmX0, rfl, by decide +kernel⟩
theorem fl_X0_27 : FL RX0 27 1 2 := ⟨_, TX0, _, rfl, by decide, inWSX0, ws_mem 77 (by decide +kernel) rfl⟩
theorem fp_X0_27 : FP RX0 27 1 2 .int := ⟨_, TX0, _, tyX0, rfl, by decide, inWSX0, ws_mem 77 (by decide +kernel) rfl, tyX0_ok, nmX0, rfl, by decide +kernel⟩
theorem fl_X0_30 : FL RX0 30 1 3 := ⟨_, TX0, _, rfl, by decide, inWSX0, ws_mem 78 (by decide +kernel) rfl⟩
theorem fp_X0_30 : FP RX0 30 1 3 .int := ⟨_, TX0, _, tyX0, rfl, by decide, inWSX0, ws_mem 78 (by decide +kernel) rfl, tyX0_ok, nmX0, rfl, by decide +kernel⟩
theorem fl_X1_9 : FL RX1 9 2 0 := ⟨_, TX1, _, rfl, by decide, inWSX1, ws_mem 161 (by decide +kernel) rfl⟩
theorem fl_X1_15 : FL RX1 15 2 1 := ⟨_, TX1, _, rfl, by decide, inWSX1, ws_mem 162 (by decide +kernel) rfl⟩
theorem fl_X1_18 : FL RX1 18 2 2 := ⟨_, TX1, _, rfl, by decide, inWSX1, ws_mem 163 (by decide +kernel) rfl⟩
theorem fl_X1_23 : FL RX1 23 2 3 := ⟨_, TX1, _, rfl, by decide, inWSX1, ws_mem 164 (by decide +kernel) rfl⟩
theorem fl_X1_35 : FL RX1 35 3 0 := ⟨_, TX2, _, rfl, by decide, inWSX2, ws_mem 118 (by decide +kernel) rfl⟩
theorem fp_X1_35 : FP RX1 35 3 0 .boolean := ⟨_, TX2, _, tyX2, rfl, by decide, inWSX2, ws_mem 118 (by decide +kernel) rfl, tyX2_ok, nmX2, rfl, by decide +kernel⟩
theorem fl_X1_47 : FL RX1 47 3 8 := ⟨_, TX2, _, rfl, by decide, inWSX2, ws_mem 134 (by decide +kernel) rfl⟩
theorem fp_X1_47 : FP RX1 47 3 8 .int := ⟨_, TX2, _, tyX2, rfl, by decide, inWSX2, ws_mem 134 (by decide +kernel) rfl, tyX2_ok, nmX2, rfl, by decide +kernel⟩
theorem fl_X1_60 : FL RX1 60 3 1 := ⟨_, TX2, _, rfl, by decide, inWSX2, ws_mem 121 (by decide +kernel) rfl⟩
theorem fp_X1_60 : FP RX1 60 3 1 .int := ⟨_, TX2, _, tyX2, rfl, by decide, inWSX2, ws_mem 121 (by decide +kernel) rfl, tyX2_ok, nmX2, rfl, by decide +kernel⟩
theorem fl_X1_63 : FL RX1 63 3 4 := ⟨_, TX2, _, rfl, by decide, inWSX2, ws_mem 127 (by decide +kernel) rfl⟩
theorem fp_X1_63 : FP RX1 63 3 4 .int := ⟨_, TX2, _, tyX2, rfl, by decide, inWSX2, ws_mem 127 (by decide +kernel) rfl, tyX2_ok, nmX2, rfl, by decide +kernel⟩
theorem fl_X1_66 : FL RX1 66 3 2 := ⟨_, TX2, _, rfl, by decide, inWSX2, ws_mem 123 (by decide +kernel) rfl⟩
theorem fp_X1_66 : FP RX1 66 3 2 .int := ⟨_, TX2, _, tyX2, rfl, by decide, inWSX2, ws_mem 123 (by decide +kernel) rfl, tyX2_ok, nmX2, rfl, by decide +kernel⟩
theorem fl_X1_69 : FL RX1 69 3 5 := ⟨_, TX2, _, rfl, by decide, inWSX2, ws_mem 129 (by decide +kernel) rfl⟩
theorem fp_X1_69 : FP RX1 69 3 5 .int := ⟨_, TX2, _, tyX2, rfl, by decide, inWSX2, ws_mem 129 (by decide +kernel) rfl, tyX2_ok, nmX2, rfl, by decide +kernel⟩
theorem fl_X1_72 : FL RX1 72 3 3 := ⟨_, TX2, _, rfl, by decide, inWSX2, ws_mem 125 (by decide +kernel) rfl⟩
theorem fp_X1_72 : FP RX1 72 3 3 .int := ⟨_, TX2, _, tyX2, rfl, by decide, inWSX2, ws_mem 125 (by decide +kernel) rfl, tyX2_ok, nmX2, rfl, by decide +kernel⟩
theorem fl_X1_75 : FL RX1 75 3 6 := ⟨_, TX2, _, rfl, by decide, inWSX2, ws_mem 131 (by decide +kernel) rfl⟩
theorem fp_X1_75 : FP RX1 75 3 6 .int := ⟨_, TX2, _, tyX2, rfl, by decide, inWSX2, ws_mem 131 (by decide +kernel) rfl, tyX2_ok, nmX2, rfl, by decide +kernel⟩
theorem fl_X1_108 : FL RX1 108 3 9 := ⟨_, TX2, _, rfl, by decide, inWSX2, ws_mem 136 (by decide +kernel) rfl⟩
theorem fp_X1_108 : FP RX1 108 3 9 .int := ⟨_, TX2, _, tyX2, rfl, by decide, inWSX2, ws_mem 136 (by decide +kernel) rfl, tyX2_ok, nmX2, rfl, by decide +kernel⟩
theorem fl_X1_114 : FL RX1 114 3 10 := ⟨_, TX2, _, rfl, by decide, inWSX2, ws_mem 137 (by decide +kernel) rfl⟩
theorem fp_X1_114 : FP RX1 114 3 10 .int := ⟨_, TX2, _, tyX2, rfl, by decide, inWSX2, ws_mem 137 (by decide +kernel) rfl, tyX2_ok, nmX2, rfl, by decide +kernel⟩
theorem fl_X2_9 : FL RX2 9 3 0 := ⟨_, TX2, _, rfl, by decide, inWSX2, ws_mem 117 (by decide +kernel) rfl⟩
theorem fp_X2_9 : FP RX2 9 3 0 .boolean := ⟨_, TX2, _, tyX2, rfl, by decide, inWSX2, ws_mem 117 (by decide +kernel) rfl, tyX2_ok, nmX2, rfl, by decide +kernel⟩
theorem fl_X2_15 : FL RX2 15 3 1 := ⟨_, TX2, _, rfl, by decide, inWSX2, ws_mem 120 (by decide +kernel) rfl⟩
theorem fp_X2_15 : FP RX2 15 3 1 .int := ⟨_, TX2, _, tyX2, rfl, by decide, inWSX2, ws_mem 120 (by decide +kernel) rfl, tyX2_ok, nmX2, rfl, by decide +kernel⟩
theorem fl_X2_19 : FL RX2 19 3 2 := ⟨_, TX2, _, rfl, by decide, inWSX2, ws_mem 122 (by decide +kernel) rfl⟩
theorem fp_X2_19 : FP RX2 19 3 2 .int := ⟨_, TX2, _, tyX2, rfl, by decide, inWSX2, ws_mem 122 (by decide +kernel) rfl, tyX2_ok, nmX2, rfl, by decide +kernel⟩
theorem fl_X2_22 : FL RX2 22 3 3 := ⟨_, TX2, _, rfl, by decide, inWSX2, ws_mem 124 (by decide +kernel) rfl⟩
theorem fp_X2_22 : FP RX2 22 3 3 .int := ⟨_, TX2, _, tyX2, rfl, by decide, inWSX2, ws_mem 124 (by decide +kernel) rfl, tyX2_ok, nmX2, rfl, by decide +kernel⟩
theorem fl_X2_31 : FL RX2 31 3 4 := ⟨_, TX2, _, rfl, by decide, inWSX2, ws_mem 126 (by decide +kernel) rfl⟩
theorem fp_X2_31 : FP RX2 31 3 4 .int := ⟨_, TX2, _, tyX2, rfl, by decide, inWSX2, ws_mem 126 (by decide +kernel) rfl, tyX2_ok, nmX2, rfl, by decide +kernel⟩
theorem fl_X2_37 : FL RX2 37 3 5 := ⟨_, TX2, _, rfl, by decide, inWSX2, ws_mem 128 (by decide +kernel) rfl⟩
theorem fp_X2_37 : FP RX2 37 3 5 .int := ⟨_, TX2, _, tyX2, rfl, by decide, inWSX2, ws_mem 128 (by decide +kernel) rfl, tyX2_ok, nmX2, rfl, by decide +kernel⟩
theorem fl_X2_43 : FL RX2 43 3 6 := ⟨_, TX2, _, rfl, by decide, inWSX2, ws_mem 130 (by decide +kernel) rfl⟩
theorem fp_X2_43 : FP RX2 43 3 6 .int := ⟨_, TX2, _, tyX2, rfl, by decide, inWSX2, ws_mem 130 (by decide +kernel) rfl, tyX2_ok, nmX2, rfl, by decide +kernel⟩
theorem fl_X2_46 : FL RX2 46 3 7 := ⟨_, TX2, _, rfl, by decide, inWSX2, ws_mem 132 (by decide +kernel) rfl⟩
theorem fp_X2_46 : FP RX2 46 3 7 .int := ⟨_, TX2, _, tyX2, rfl, by decide, inWSX2, ws_mem 132 (by decide +kernel) rfl, tyX2_ok, nmX2, rfl, by decide +kernel⟩
theorem fl_X2_49 : FL RX2 49 1 3 := ⟨_, TX0, _, rfl, by decide, inWSX0, ws_mem 79 (by decide +kernel) rfl⟩
theorem fp_X2_49 : FP RX2 49 1 3 .int := ⟨_, TX0, _, tyX0, rfl, by decide, inWSX0, ws_mem 79 (by decide +kernel) rfl, tyX0_ok, nmX0, rfl, by decide +kernel⟩
theorem fl_X2_52 : FL RX2 52 3 8 := ⟨_, TX2, _, rfl, by decide, inWSX2, ws_mem 133 (by decide +kernel) rfl⟩
theorem fp_X2_52 : FP RX2 52 3 8 .int := ⟨_, TX2, _, tyX2, rfl, by decide, inWSX2, ws_mem 133 (by decide +kernel) rfl, tyX2_ok, nmX2, rfl, by decide +kernel⟩
theorem fl_X2_53 : FL RX2 53 1 5 := ⟨_, TX0, _, rfl, by decide, inWSX0, ws_mem 82 (by decide +kernel) rfl⟩
theorem fp_X2_53 : FP RX2 53 1 5 .int := ⟨_, TX0, _, tyX0, rfl, by decide, inWSX0, ws_mem 82 (by decide +kernel) rfl, tyX0_ok, nmX0, rfl, by decide +kernel⟩
theorem fl_X2_56 : FL RX2 56 3 9 := ⟨_, TX2, _, rfl, by decide, inWSX2, ws_mem 135 (by decide +kernel) rfl⟩
theorem fp_X2_56 : FP RX2 56 3 9 .int := ⟨_, TX2, _, tyX2, rfl, by decide, inWSX2, ws_mem 135 (by decide +kernel) rfl, tyX2_ok, nmX2, rfl, by decide +kernel⟩
theorem fl_X4_7 : FL RX4 7 5 0 := ⟨_, TX4, _, rfl, by decide, inWSX4, ws_mem 736 (by decide +kernel) rfl⟩
theorem fp_X4_7 : FP RX4 7 5 0 .int := ⟨_, TX4, _, tyX4, rfl, by decide, inWSX4, ws_mem 736 (by decide +kernel) rfl, tyX4_ok, nmX4, rfl, by decide +kernel⟩
theorem fl_X4_13 : FL RX4 13 5 4 := ⟨_, TX4, _, rfl, by decide, inWSX4, ws_mem 740 (by decide +kernel) rfl⟩
theorem fp_X4_13 : FP RX4 13 5 4 .int := ⟨_, TX4, _, tyX4, rfl, by decide, inWSX4, ws_mem 740 (by decide +kernel) rfl, tyX4_ok, nmX4, rfl, by decide +kernel⟩
theorem fl_X4_16 : FL RX4 16 5 5 := ⟨_, TX4, _, rfl, by decide, inWSX4, ws_mem 741 (by decide +kernel) rfl⟩
theorem fl_X4_20 : FL RX4 20 5 6 := ⟨_, TX4, _, rfl, by decide, inWSX4, ws_mem 742 (by decide +kernel) rfl⟩
theorem fl_X4_23 : FL RX4 23 5 7 := ⟨_, TX4, _, rfl, by decide, inWSX4, ws_mem 743 (by decide +kernel) rfl⟩
theorem fl_X4_26 : FL RX4 26 5 8 := ⟨_, TX4, _, rfl, by decide, inWSX4, ws_mem 744 (by decide +kernel) rfl⟩
theorem fl_X4_29 : FL RX4 29 5 9 := ⟨_, TX4, _, rfl, by decide, inWSX4, ws_mem 745 (by decide +kernel) rfl⟩
theorem fl_X4_32 : FL RX4 32 5 10 := ⟨_, TX4, _, rfl, by decide, inWSX4, ws_mem 746 (by decide +kernel) rfl⟩
theorem fl_X4_35 : FL RX4 35 5 11 := ⟨_, TX4, _, rfl, by decide, inWSX4, ws_mem 747 (by decide +kernel) rfl⟩
theorem fp_X4_35 : FP RX4 35 5 11 .int := ⟨_, TX4, _, tyX4, rfl, by decide, inWSX4, ws_mem 747 (by decide +kernel) rfl, tyX4_ok, nmX4, rfl, by decide +kernel⟩
theorem fl_X4_38 : FL RX4 38 5 12 := ⟨_, TX4, _, rfl, by decide, inWSX4, ws_mem 748 (by decide +kernel) rfl⟩
theorem fp_X4_38 : FP RX4 38 5 12 .int := ⟨_, TX4, _, tyX4, rfl, by decide, inWSX4, ws_mem 748 (by decide +kernel) rfl, tyX4_ok, nmX4, rfl, by decide +kernel⟩
theorem fl_X4_41 : FL RX4 41 5 13 := ⟨_, TX4, _, rfl, by decide, inWSX4, ws_mem 749 (by decide +kernel) rfl⟩
theorem fl_X4_44 : FL RX4 44 5 14 := ⟨_, TX4, _, rfl, by decide, inWSX4, ws_mem 750 (by decide +kernel) rfl⟩
theorem fl_X4_47 : FL RX4 47 5 15 := ⟨_, TX4, _, rfl, by decide, inWSX4, ws_mem 751 (by decide +kernel) rfl⟩
theorem fl_X4_50 : FL RX4 50 5 16 := ⟨_, TX4, _, rfl, by decide, inWSX4, ws_mem 752 (by decide +kernel) rfl⟩
theorem fl_X4_53 : FL RX4 53 5 17 := ⟨_, TX4, _, rfl, by decide, inWSX4, ws_mem 753 (by decide +kernel) rfl⟩
theorem fl_X4_56 : FL RX4 56 5 18 := ⟨_, TX4, _, rfl, by decide, inWSX4, ws_mem 754 (by decide +kernel) rfl⟩
theorem fl_X4_59 : FL RX4 59 5 19 := ⟨_, TX4, _, rfl, by decide, inWSX4, ws_mem 755 (by decide +kernel) rfl⟩
theorem fl_X4_62 : FL RX4 62 5 20 := ⟨_, TX4, _, rfl, by decide, inWSX4, ws_mem 756 (by decide +kernel) rfl⟩
theorem fp_X4_62 : FP RX4 62 5 20 .boolean := ⟨_, TX4, _, tyX4, rfl, by decide, inWSX4, ws_mem 756 (by decide +kernel) rfl, tyX4_ok, nmX4, rfl, by decide +kernel⟩
theorem fl_X4_66 : FL RX4 66 5 21 := ⟨_, TX4, _, rfl, by decide, inWSX4, ws_mem 757 (by decide +kernel) rfl⟩
theorem fp_X4_66 : FP RX4 66 5 21 .int := ⟨_, TX4, _, tyX4, rfl, by decide, inWSX4, ws_mem 757 (by decide +kernel) rfl, tyX4_ok, nmX4, rfl, by decide +kernel⟩
theorem fl_X4_69 : FL RX4 69 5 22 := ⟨_, TX4, _, rfl, by decide, inWSX4, ws_mem 758 (by decide +kernel) rfl⟩
theorem fl_X4_72 : FL RX4 72 5 23 := ⟨_, TX4, _, rfl, by decide, inWSX4, ws_mem 759 (by decide +kernel) rfl⟩
theorem fl_X4_75 : FL RX4 75 5 24 := ⟨_, TX4, _, rfl, by decide, inWSX4, ws_mem 760 (by decide +kernel) rfl⟩
theorem fl_X4_78 : FL RX4 78 5 25 := ⟨_, TX4, _, rfl, by decide, inWSX4, ws_mem 761 (by decide +kernel) rfl⟩
theorem fl_X4_81 : FL RX4 81 5 26 := ⟨_, TX4, _, rfl, by decide, inWSX4, ws_mem 762 (by decide +kernel) rfl⟩
theorem fp_X4_81 : FP RX4 81 5 26 .int := ⟨_, TX4, _, tyX4, rfl, by decide, inWSX4, ws_mem 762 (by decide +kernel) rfl, tyX4_ok, nmX4, rfl, by decide +kernel⟩
theorem fl_X4_84 : FL RX4 84 5 27 := ⟨_, TX4, _, rfl, by decide, inWSX4, ws_mem 763 (by decide +kernel) rfl⟩
theorem fp_X4_84 : FP RX4 84 5 27 .boolean := ⟨_, TX4, _, tyX4, rfl, by decide, inWSX4, ws_mem 763 (by decide +kernel) rfl, tyX4_ok, nmX4, rfl, by decide +kernel⟩
theorem fl_X4_87 : FL RX4 87 5 28 := ⟨_, TX4, _, rfl, by decide, inWSX4, ws_mem 764 (by decide +kernel) rfl⟩
theorem fp_X4_87 : FP RX4 87 5 28 .int := ⟨_, TX4, _, tyX4, rfl, by decide, inWSX4, ws_mem 764 (by decide +kernel) rfl, tyX4_ok, nmX4, rfl, by decide +kernel⟩
theorem fl_X4_90 : FL RX4 90 5 29 := ⟨_, TX4, _, rfl, by decide, inWSX4, ws_mem 765 (by decide +kernel) rfl⟩
theorem fl_X4_93 : FL RX4 93 5 30 := ⟨_, TX4, _, rfl, by decide, inWSX4, ws_mem 766 (by decide +kernel) rfl⟩
theorem fl_X4_96 : FL RX4 96 5 31 := ⟨_, TX4, _, rfl, by decide, inWSX4, ws_mem 767 (by decide +kernel) rfl⟩
theorem fl_X4_99 : FL RX4 99 5 32 := ⟨_, TX4, _, rfl, by decide, inWSX4, ws_mem 768 (by decide +kernel) rfl⟩
theorem fl_X4_102 : FL RX4 102 5 33 := ⟨_, TX4, _, rfl, by decide, inWSX4, ws_mem 769 (by decide +kernel) rfl⟩
theorem fl_X4_105 : FL RX4 105 5 34 := ⟨_, TX4, _, rfl, by decide, inWSX4, ws_mem 770 (by decide +kernel) rfl⟩
theorem fl_X4_108 : FL RX4 108 5 35 := ⟨_, TX4, _, rfl, by decide, inWSX4, ws_mem 771 (by decide +kernel) rfl⟩
theorem fl_X4_111 : FL RX4 111 5 36 := ⟨_, TX4, _, rfl, by decide, inWSX4, ws_mem 772 (by decide +kernel) rfl⟩
theorem fl_X4_118 : FL RX4 118 5 1 := ⟨_, TX4, _, rfl, by decide, inWSX4, ws_mem 737 (by decide +kernel) rfl⟩
theorem fl_X4_121 : FL RX4 121 5 2 := ⟨_, TX4, _, rfl, by decide, inWSX4, ws_mem 738 (by decide +kernel) rfl⟩
theorem fl_X4_124 : FL RX4 124 5 3 := ⟨_, TX4, _, rfl, by decide, inWSX4, ws_mem 739 (by decide +kernel) rfl⟩
end
section
theorem all2 {α : Type} {P : α → Prop} {a b : α} (h1 : P a) (h2 : P b) : ∀ w ∈ [a, b], P w := fun w h => by simp only [List.mem_cons, List.not_mem_nil, or_false] at h; rcases h with rfl | rfl <;> assumption
theorem all3 {α : Type} {P : α → Prop} {a b c : α} (h1 : P a) (h2 : P b) (h3 : P c) : ∀ w ∈ [a, b, c], P w := fun w h => by simp only [List.mem_cons, List.not_mem_nil, or_false] at h; rcases h with rfl | rfl | rfl <;> assumption
theorem all4 {α : Type} {P : α → Prop} {a b c d : α} (h1 : P a) (h2 : P b) (h3 : P c) (h4 : P d) : ∀ w ∈ [a, b, c, d], P w := fun w h => by simp only [List.mem_cons, List.not_mem_nil, or_false] at h; rcases h with rfl | rfl | rfl | rfl <;> assumption
theorem all5 {α : Type} {P : α → Prop} {a b c d e : α} (h1 : P a) (h2 : P b) (h3 : P c) (h4 : P d) (h5 : P e) : ∀ w ∈ [a, b, c, d, e], P w := fun w h => by simp only [List.mem_cons, List.not_mem_nil, or_false] at h; rcases h with rfl | rfl | rfl | rfl | rfl <;> assumption
theorem cw_X3_init : Cond.code yX3_init cX3_init 8 none ∈ WS := (ws_mem 55 (by decide +kernel) rfl)
theorem cw_X3_asSide : Cond.code yX3_asSide cX3_asSide 1 (some .int) ∈ WS := (ws_mem 61 (by decide +kernel) rfl)
theorem cw_J9_min_7cf53 : Cond.code yJ9_min_7cf53 cJ9_min_7cf53 2 (some .int) ∈ WS := (ws_mem 64 (by decide +kernel) rfl)
theorem cw_J9_max_7cf53 : Cond.code yJ9_max_7cf53 cJ9_max_7cf53 2 (some .int) ∈ WS := (ws_mem 67 (by decide +kernel) rfl)
theorem cw_X0_init : Cond.code yX0_init cX0_init 1 none ∈ WS := (ws_mem 73 (by decide +kernel) rfl)
theorem cw_X1_init : Cond.code yX1_init cX1_init 5 none ∈ WS := (ws_mem 108 (by decide +kernel) rfl)
theorem cw_X2_init : Cond.code yX2_init cX2_init 1 none ∈ WS := (ws_mem 115 (by decide +kernel) rfl)
theorem cw_X3_exact : Cond.code yX3_exact cX3_exact 1 (some .boolean) ∈ WS := (ws_mem 219 (by decide +kernel) rfl)
theorem cw_X3_steps : Cond.code yX3_steps cX3_steps 1 (some .int) ∈ WS := (ws_mem 223 (by decide +kernel) rfl)
theorem cw_X3_bound : Cond.code yX3_bound cX3_bound 3 (some .int) ∈ WS := (ws_mem 227 (by decide +kernel) rfl)
theorem cw_X0_isPacked : Cond.code yX0_isPacked cX0_isPacked 1 (some .boolean) ∈ WS := (ws_mem 231 (by decide +kernel) rfl)
theorem cw_X3_fitsAlone : Cond.code yX3_fitsAlone cX3_fitsAlone 3 (some .boolean) ∈ WS := (ws_mem 235 (by decide +kernel) rfl)
theorem cw_X0_lets : Cond.code yX0_lets cX0_lets 2 (some .boolean) ∈ WS := (ws_mem 239 (by decide +kernel) rfl)
theorem cw_X3_isIn : Cond.code yX3_isIn cX3_isIn 2 (some .boolean) ∈ WS := (ws_mem 242 (by decide +kernel) rfl)
theorem cw_X0_widthIn : Cond.code yX0_widthIn cX0_widthIn 2 (some .int) ∈ WS := (ws_mem 246 (by decide +kernel) rfl)
theorem cw_X0_depthIn : Cond.code yX0_depthIn cX0_depthIn 2 (some .int) ∈ WS := (ws_mem 250 (by decide +kernel) rfl)
theorem cw_X0_heightIn : Cond.code yX0_heightIn cX0_heightIn 2 (some .int) ∈ WS := (ws_mem 254 (by decide +kernel) rfl)
theorem cw_X1_takes : Cond.code yX1_takes cX1_takes 4 (some .boolean) ∈ WS := (ws_mem 258 (by decide +kernel) rfl)
theorem cw_X0_volume : Cond.code yX0_volume cX0_volume 1 (some .int) ∈ WS := (ws_mem 262 (by decide +kernel) rfl)
theorem cw_X1_boxVolume : Cond.code yX1_boxVolume cX1_boxVolume 1 (some .int) ∈ WS := (ws_mem 266 (by decide +kernel) rfl)
theorem cw_X3_count : Cond.code yX3_count cX3_count 2 (some .int) ∈ WS := (ws_mem 270 (by decide +kernel) rfl)
theorem cw_X1_size : Cond.code yX1_size cX1_size 3 (some .int) ∈ WS := (ws_mem 274 (by decide +kernel) rfl)
theorem cw_X3_unpackedCount : Cond.code yX3_unpackedCount cX3_unpackedCount 3 (some .int) ∈ WS := (ws_mem 278 (by decide +kernel) rfl)
theorem cw_X1_volume : Cond.code yX1_volume cX1_volume 3 (some .int) ∈ WS := (ws_mem 282 (by decide +kernel) rfl)
theorem cw_X2_volume : Cond.code yX2_volume cX2_volume 1 (some .int) ∈ WS := (ws_mem 286 (by decide +kernel) rfl)
theorem cw_X2_area : Cond.code yX2_area cX2_area 1 (some .int) ∈ WS := (ws_mem 290 (by decide +kernel) rfl)
theorem cw_X1_weight : Cond.code yX1_weight cX1_weight 3 (some .int) ∈ WS := (ws_mem 294 (by decide +kernel) rfl)
theorem cw_X1_top : Cond.code yX1_top cX1_top 3 (some .int) ∈ WS := (ws_mem 298 (by decide +kernel) rfl)
theorem cw_X2_endAlong : Cond.code yX2_endAlong cX2_endAlong 2 (some .int) ∈ WS := (ws_mem 302 (by decide +kernel) rfl)
theorem cw_L_cell : Cond.code yL_cell cL_cell 2 (some .int) ∈ WS := (ws_mem 306 (by decide +kernel) rfl)
theorem cw_X3_piece : Cond.code yX3_piece cX3_piece 6 (some .int) ∈ WS := (ws_mem 315 (by decide +kernel) rfl)
theorem cw_X3_isSide : Cond.code yX3_isSide cX3_isSide 1 (some .boolean) ∈ WS := (ws_mem 318 (by decide +kernel) rfl)
theorem cw_X0_become : Cond.code yX0_become cX0_become 5 none ∈ WS := (ws_mem 410 (by decide +kernel) rfl)
theorem cw_X3_turn : Cond.code yX3_turn cX3_turn 4 (some .int) ∈ WS := (ws_mem 418 (by decide +kernel) rfl)
theorem cw_X3_known : Cond.code yX3_known cX3_known 2 (some (.object "PackingSearch$Piece")) ∈ WS := (ws_mem 422 (by decide +kernel) rfl)
theorem cw_X0_mark : Cond.code yX0_mark cX0_mark 4 none ∈ WS := (ws_mem 443 (by decide +kernel) rfl)
theorem cw_X0_marksFor : Cond.code yX0_marksFor cX0_marksFor 1 (some .int) ∈ WS := (ws_mem 446 (by decide +kernel) rfl)
theorem cw_X0_isLikeOneLet : Cond.code yX0_isLikeOneLet cX0_isLikeOneLet 3 (some .boolean) ∈ WS := (ws_mem 450 (by decide +kernel) rfl)
theorem cw_X0_wayCount : Cond.code yX0_wayCount cX0_wayCount 1 (some .int) ∈ WS := (ws_mem 458 (by decide +kernel) rfl)
theorem cw_J6_bitCount_0f7a4 : Cond.code yJ6_bitCount_0f7a4 cJ6_bitCount_0f7a4 1 (some .int) ∈ WS := (ws_mem 461 (by decide +kernel) rfl)
theorem cw_X3_limit : Cond.code yX3_limit cX3_limit 4 none ∈ WS := (ws_mem 471 (by decide +kernel) rfl)
theorem cw_X3_rank : Cond.code yX3_rank cX3_rank 4 (some .int) ∈ WS := (ws_mem 479 (by decide +kernel) rfl)
theorem cw_X3_positionOf : Cond.code yX3_positionOf cX3_positionOf 6 (some .int) ∈ WS := (ws_mem 484 (by decide +kernel) rfl)
theorem cw_X3_share : Cond.code yX3_share cX3_share 2 none ∈ WS := (ws_mem 491 (by decide +kernel) rfl)
theorem cw_X3_solve : Cond.code yX3_solve cX3_solve 2 (some .int) ∈ WS := (ws_mem 499 (by decide +kernel) rfl)
theorem cw_X3_startSearch : Cond.code yX3_startSearch cX3_startSearch 2 none ∈ WS := (ws_mem 504 (by decide +kernel) rfl)
theorem cw_X1_clear : Cond.code yX1_clear cX1_clear 2 none ∈ WS := (ws_mem 508 (by decide +kernel) rfl)
theorem cw_X2_leave : Cond.code yX2_leave cX2_leave 1 none ∈ WS := (ws_mem 512 (by decide +kernel) rfl)
theorem cw_X3_putInOrder : Cond.code yX3_putInOrder cX3_putInOrder 3 none ∈ WS := (ws_mem 516 (by decide +kernel) rfl)
theorem cw_X3_searchFrom : Cond.code yX3_searchFrom cX3_searchFrom 4 none ∈ WS := (ws_mem 520 (by decide +kernel) rfl)
theorem cw_X3_lookAtTrial : Cond.code yX3_lookAtTrial cX3_lookAtTrial 2 none ∈ WS := (ws_mem 524 (by decide +kernel) rfl)
theorem cw_X1_copyFrom : Cond.code yX1_copyFrom cX1_copyFrom 3 none ∈ WS := (ws_mem 528 (by decide +kernel) rfl)
theorem cw_X2_copyFrom : Cond.code yX2_copyFrom cX2_copyFrom 2 none ∈ WS := (ws_mem 532 (by decide +kernel) rfl)
theorem cw_X3_tryWay : Cond.code yX3_tryWay cX3_tryWay 11 none ∈ WS := (ws_mem 536 (by decide +kernel) rfl)
theorem cw_X1_ends : Cond.code yX1_ends cX1_ends 4 (some .int) ∈ WS := (ws_mem 540 (by decide +kernel) rfl)
theorem cw_X2_stand : Cond.code yX2_stand cX2_stand 6 none ∈ WS := (ws_mem 545 (by decide +kernel) rfl)
theorem cw_X1_isPlanWith : Cond.code yX1_isPlanWith cX1_isPlanWith 3 (some .boolean) ∈ WS := (ws_mem 552 (by decide +kernel) rfl)
theorem cw_X1_hasRoomFor : Cond.code yX1_hasRoomFor cX1_hasRoomFor 3 (some .boolean) ∈ WS := (ws_mem 557 (by decide +kernel) rfl)
theorem cw_X2_meets : Cond.code yX2_meets cX2_meets 2 (some .boolean) ∈ WS := (ws_mem 561 (by decide +kernel) rfl)
theorem cw_X2_meetsFromAbove : Cond.code yX2_meetsFromAbove cX2_meetsFromAbove 2 (some .boolean) ∈ WS := (ws_mem 565 (by decide +kernel) rfl)
theorem cw_X1_supportOf : Cond.code yX1_supportOf cX1_supportOf 4 (some .int) ∈ WS := (ws_mem 569 (by decide +kernel) rfl)
theorem cw_X2_standsOn : Cond.code yX2_standsOn cX2_standsOn 2 (some .boolean) ∈ WS := (ws_mem 574 (by decide +kernel) rfl)
theorem cw_X2_commonArea : Cond.code yX2_commonArea cX2_commonArea 4 (some .int) ∈ WS := (ws_mem 578 (by decide +kernel) rfl)
theorem cw_X1_weightsAreBorne : Cond.code yX1_weightsAreBorne cX1_weightsAreBorne 2 (some .boolean) ∈ WS := (ws_mem 584 (by decide +kernel) rfl)
theorem cw_X1_noteStanders : Cond.code yX1_noteStanders cX1_noteStanders 3 none ∈ WS := (ws_mem 588 (by decide +kernel) rfl)
theorem cw_X1_weightOn : Cond.code yX1_weightOn cX1_weightOn 6 (some .int) ∈ WS := (ws_mem 592 (by decide +kernel) rfl)
theorem cw_X3_at : Cond.code yX3_at cX3_at 4 (some .int) ∈ WS := (ws_mem 601 (by decide +kernel) rfl)
theorem cw_X3_spotOf : Cond.code yX3_spotOf cX3_spotOf 2 (some (.object "PackingSearch$Spot")) ∈ WS := (ws_mem 605 (by decide +kernel) rfl)
theorem cw_X2_detail : Cond.code yX2_detail cX2_detail 2 (some .int) ∈ WS := (ws_mem 610 (by decide +kernel) rfl)
theorem cw_X3_over : Cond.code yX3_over cX3_over 5 (some .boolean) ∈ WS := (ws_mem 618 (by decide +kernel) rfl)
theorem cw_X3_support : Cond.code yX3_support cX3_support 4 (some .int) ∈ WS := (ws_mem 643 (by decide +kernel) rfl)
theorem cw_X3_bears : Cond.code yX3_bears cX3_bears 3 (some .int) ∈ WS := (ws_mem 668 (by decide +kernel) rfl)
theorem cw_X3_cell : Cond.code yX3_cell cX3_cell 4 (some .int) ∈ WS := (ws_mem 678 (by decide +kernel) rfl)
theorem cw_X1_hasCell : Cond.code yX1_hasCell cX1_hasCell 4 (some .boolean) ∈ WS := (ws_mem 682 (by decide +kernel) rfl)
theorem cw_Jx00060_init_a7421 : Cond.code yJx00060_init_a7421 cJx00060_init_a7421 2 none ∈ WS := (ws_mem 697 (by decide +kernel) rfl)
theorem cw_X1_pieceIn : Cond.code yX1_pieceIn cX1_pieceIn 5 (some .int) ∈ WS := (ws_mem 707 (by decide +kernel) rfl)
theorem cw_X2_covers : Cond.code yX2_covers cX2_covers 4 (some .boolean) ∈ WS := (ws_mem 711 (by decide +kernel) rfl)
theorem cw_X3_close : Cond.code yX3_close cX3_close 3 (some .int) ∈ WS := (ws_mem 718 (by decide +kernel) rfl)
theorem cw_X3_box : Cond.code yX3_box cX3_box 2 (some .int) ∈ WS := (ws_mem 726 (by decide +kernel) rfl)
theorem cw_X4_init : Cond.code yX4_init cX4_init 5 none ∈ WS := (ws_mem 731 (by decide +kernel) rfl)
theorem cw_X4_held : Cond.code yX4_held cX4_held 1 (some .int) ∈ WS := (ws_mem 735 (by decide +kernel) rfl)
theorem cw_X4_thrown : Cond.code yX4_thrown cX4_thrown 1 (some .int) ∈ WS := (ws_mem 851 (by decide +kernel) rfl)
theorem cw_X4_piece : Cond.code yX4_piece cX4_piece 5 (some .int) ∈ WS := (ws_mem 855 (by decide +kernel) rfl)
theorem cw_X4_not : Cond.code yX4_not cX4_not 3 (some .boolean) ∈ WS := (ws_mem 858 (by decide +kernel) rfl)
theorem cw_X4_turn : Cond.code yX4_turn cX4_turn 5 (some .int) ∈ WS := (ws_mem 862 (by decide +kernel) rfl)
theorem cw_X4_noPiece : Cond.code yX4_noPiece cX4_noPiece 2 (some .boolean) ∈ WS := (ws_mem 866 (by decide +kernel) rfl)
theorem cw_X4_let : Cond.code yX4_let cX4_let 6 (some .boolean) ∈ WS := (ws_mem 870 (by decide +kernel) rfl)
theorem cw_X4_byMarks : Cond.code yX4_byMarks cX4_byMarks 3 (some .boolean) ∈ WS := (ws_mem 874 (by decide +kernel) rfl)
theorem cw_X4_measure : Cond.code yX4_measure cX4_measure 4 (some .int) ∈ WS := (ws_mem 878 (by decide +kernel) rfl)
theorem cw_X4_from : Cond.code yX4_from cX4_from 2 (some .int) ∈ WS := (ws_mem 881 (by decide +kernel) rfl)
theorem cw_X4_limit : Cond.code yX4_limit cX4_limit 3 none ∈ WS := (ws_mem 885 (by decide +kernel) rfl)
theorem cw_X4_rank : Cond.code yX4_rank cX4_rank 4 (some .int) ∈ WS := (ws_mem 889 (by decide +kernel) rfl)
theorem cw_X4_findOrder : Cond.code yX4_findOrder cX4_findOrder 3 none ∈ WS := (ws_mem 893 (by decide +kernel) rfl)
theorem cw_X4_share : Cond.code yX4_share cX4_share 2 none ∈ WS := (ws_mem 897 (by decide +kernel) rfl)
theorem cw_X4_solve : Cond.code yX4_solve cX4_solve 3 (some .int) ∈ WS := (ws_mem 901 (by decide +kernel) rfl)
theorem cw_X4_search : Cond.code yX4_search cX4_search 4 (some .boolean) ∈ WS := (ws_mem 905 (by decide +kernel) rfl)
theorem cw_X4_enter : Cond.code yX4_enter cX4_enter 3 none ∈ WS := (ws_mem 909 (by decide +kernel) rfl)
theorem cw_X4_end : Cond.code yX4_end cX4_end 7 none ∈ WS := (ws_mem 913 (by decide +kernel) rfl)
theorem cw_X4_look : Cond.code yX4_look cX4_look 3 none ∈ WS := (ws_mem 917 (by decide +kernel) rfl)
theorem cw_X4_volumeNow : Cond.code yX4_volumeNow cX4_volumeNow 3 (some .int) ∈ WS := (ws_mem 921 (by decide +kernel) rfl)
theorem cw_X4_volume : Cond.code yX4_volume cX4_volume 2 (some .int) ∈ WS := (ws_mem 925 (by decide +kernel) rfl)
theorem cw_X4_advance : Cond.code yX4_advance cX4_advance 2 (some .boolean) ∈ WS := (ws_mem 929 (by decide +kernel) rfl)
theorem cw_X4_stand : Cond.code yX4_stand cX4_stand 6 none ∈ WS := (ws_mem 933 (by decide +kernel) rfl)
theorem cw_X4_isPlan : Cond.code yX4_isPlan cX4_isPlan 3 (some .boolean) ∈ WS := (ws_mem 937 (by decide +kernel) rfl)
theorem cw_X4_supportOf : Cond.code yX4_supportOf cX4_supportOf 4 (some .int) ∈ WS := (ws_mem 941 (by decide +kernel) rfl)
theorem cw_X4_standsOn : Cond.code yX4_standsOn cX4_standsOn 3 (some .boolean) ∈ WS := (ws_mem 945 (by decide +kernel) rfl)
theorem cw_X4_area : Cond.code yX4_area cX4_area 3 (some .int) ∈ WS := (ws_mem 949 (by decide +kernel) rfl)
theorem cw_X4_common : Cond.code yX4_common cX4_common 6 (some .int) ∈ WS := (ws_mem 952 (by decide +kernel) rfl)
theorem cw_X4_borne : Cond.code yX4_borne cX4_borne 6 (some .int) ∈ WS := (ws_mem 956 (by decide +kernel) rfl)
theorem cw_X4_exact : Cond.code yX4_exact cX4_exact 1 (some .boolean) ∈ WS := (ws_mem 960 (by decide +kernel) rfl)
theorem cw_X4_steps : Cond.code yX4_steps cX4_steps 1 (some .int) ∈ WS := (ws_mem 964 (by decide +kernel) rfl)
theorem cw_X4_bound : Cond.code yX4_bound cX4_bound 3 (some .int) ∈ WS := (ws_mem 968 (by decide +kernel) rfl)
theorem cw_X4_goesIn : Cond.code yX4_goesIn cX4_goesIn 3 (some .boolean) ∈ WS := (ws_mem 972 (by decide +kernel) rfl)
theorem cw_X4_at : Cond.code yX4_at cX4_at 3 (some .int) ∈ WS := (ws_mem 976 (by decide +kernel) rfl)
theorem cw_X4_over : Cond.code yX4_over cX4_over 3 (some .boolean) ∈ WS := (ws_mem 980 (by decide +kernel) rfl)
theorem cw_X4_support : Cond.code yX4_support cX4_support 2 (some .int) ∈ WS := (ws_mem 984 (by decide +kernel) rfl)
theorem cw_X4_bears : Cond.code yX4_bears cX4_bears 2 (some .int) ∈ WS := (ws_mem 988 (by decide +kernel) rfl)
theorem cw_X4_cell : Cond.code yX4_cell cX4_cell 5 (some .int) ∈ WS := (ws_mem 992 (by decide +kernel) rfl)
theorem cw_X4_close : Cond.code yX4_close cX4_close 3 (some .int) ∈ WS := (ws_mem 996 (by decide +kernel) rfl)
theorem cw_X4_box : Cond.code yX4_box cX4_box 2 (some .int) ∈ WS := (ws_mem 1000 (by decide +kernel) rfl)
theorem cw_X4_count : Cond.code yX4_count cX4_count 7 (some .int) ∈ WS := (ws_mem 1004 (by decide +kernel) rfl)
theorem ko_X3_7 : KO RX3 7 yX3_asSide cX3_asSide 1 (some .int) 1 := ⟨all4 (ws_mem 59 (by decide +kernel) rfl) (ws_mem 60 (by decide +kernel) rfl) (ws_mem 34 (by decide +kernel) rfl) cw_X3_asSide, by decide +kernel⟩
theorem ko_X3_36 : KO RX3 36 yX3_isSide cX3_isSide 1 (some .boolean) 1 := ⟨all4 (ws_mem 316 (by decide +kernel) rfl) (ws_mem 317 (by decide +kernel) rfl) (ws_mem 34 (by decide +kernel) rfl) cw_X3_isSide, by decide +kernel⟩
theorem kv_X3_58 : KV RX3 58 yX0_become RX0 cX0_become 5 none 4 := ⟨all5 (ws_mem 407 (by decide +kernel) rfl) (ws_mem 408 (by decide +kernel) rfl) (ws_mem 409 (by decide +kernel) rfl) (ws_mem 36 (by decide +kernel) rfl) cw_X0_become, by decide +kernel⟩
theorem kv_X3_62 : KV RX3 62 yX3_known RX3 cX3_known 2 (some (.object "PackingSearch$Piece")) 1 := ⟨all5 (ws_mem 419 (by decide +kernel) rfl) (ws_mem 421 (by decide +kernel) rfl) (ws_mem 3 (by decide +kernel) rfl) (ws_mem 34 (by decide +kernel) rfl) cw_X3_known, by decide +kernel⟩
theorem kv_X3_68 : KV RX3 68 yX0_mark RX0 cX0_mark 4 none 1 := ⟨all5 (ws_mem 440 (by decide +kernel) rfl) (ws_mem 441 (by decide +kernel) rfl) (ws_mem 442 (by decide +kernel) rfl) (ws_mem 36 (by decide +kernel) rfl) cw_X0_mark, by decide +kernel⟩
theorem kv_X3_72 : KV RX3 72 yX0_wayCount RX0 cX0_wayCount 1 (some .int) 0 := ⟨all5 (ws_mem 455 (by decide +kernel) rfl) (ws_mem 456 (by decide +kernel) rfl) (ws_mem 457 (by decide +kernel) rfl) (ws_mem 36 (by decide +kernel) rfl) cw_X0_wayCount, by decide +kernel⟩
theorem kv_X3_86 : KV RX3 86 yX0_isPacked RX0 cX0_isPacked 1 (some .boolean) 0 := ⟨all5 (ws_mem 228 (by decide +kernel) rfl) (ws_mem 229 (by decide +kernel) rfl) (ws_mem 230 (by decide +kernel) rfl) (ws_mem 36 (by decide +kernel) rfl) cw_X0_isPacked, by decide +kernel⟩
theorem kv_X3_90 : KV RX3 90 yX3_positionOf RX3 cX3_positionOf 6 (some .int) 2 := ⟨all5 (ws_mem 481 (by decide +kernel) rfl) (ws_mem 483 (by decide +kernel) rfl) (ws_mem 5 (by decide +kernel) rfl) (ws_mem 34 (by decide +kernel) rfl) cw_X3_positionOf, by decide +kernel⟩
theorem kv_X3_101 : KV RX3 101 yX3_startSearch RX3 cX3_startSearch 2 none 1 := ⟨all5 (ws_mem 501 (by decide +kernel) rfl) (ws_mem 503 (by decide +kernel) rfl) (ws_mem 6 (by decide +kernel) rfl) (ws_mem 34 (by decide +kernel) rfl) cw_X3_startSearch, by decide +kernel⟩
theorem kv_X3_104 : KV RX3 104 yX3_searchFrom RX3 cX3_searchFrom 4 none 1 := ⟨all5 (ws_mem 517 (by decide +kernel) rfl) (ws_mem 519 (by decide +kernel) rfl) (ws_mem 8 (by decide +kernel) rfl) (ws_mem 34 (by decide +kernel) rfl) cw_X3_searchFrom, by decide +kernel⟩
theorem kv_X3_114 : KV RX3 114 yX1_volume RX1 cX1_volume 3 (some .int) 0 := ⟨all5 (ws_mem 279 (by decide +kernel) rfl) (ws_mem 280 (by decide +kernel) rfl) (ws_mem 281 (by decide +kernel) rfl) (ws_mem 37 (by decide +kernel) rfl) cw_X1_volume, by decide +kernel⟩
theorem kv_X3_120 : KV RX3 120 yX3_fitsAlone RX3 cX3_fitsAlone 3 (some .boolean) 1 := ⟨all5 (ws_mem 232 (by decide +kernel) rfl) (ws_mem 234 (by decide +kernel) rfl) (ws_mem 0 (by decide +kernel) rfl) (ws_mem 34 (by decide +kernel) rfl) cw_X3_fitsAlone, by decide +kernel⟩
theorem kv_X3_124 : KV RX3 124 yX0_volume RX0 cX0_volume 1 (some .int) 0 := ⟨all5 (ws_mem 259 (by decide +kernel) rfl) (ws_mem 260 (by decide +kernel) rfl) (ws_mem 261 (by decide +kernel) rfl) (ws_mem 36 (by decide +kernel) rfl) cw_X0_volume, by decide +kernel⟩
theorem kv_X3_125 : KV RX3 125 yX1_boxVolume RX1 cX1_boxVolume 1 (some .int) 0 := ⟨all5 (ws_mem 263 (by decide +kernel) rfl) (ws_mem 264 (by decide +kernel) rfl) (ws_mem 265 (by decide +kernel) rfl) (ws_mem 37 (by decide +kernel) rfl) cw_X1_boxVolume, by decide +kernel⟩
theorem ko_X3_128 : KO RX3 128 yJ9_min_7cf53 cJ9_min_7cf53 2 (some .int) 2 := ⟨all4 (ws_mem 62 (by decide +kernel) rfl) (ws_mem 63 (by decide +kernel) rfl) (ws_mem 35 (by decide +kernel) rfl) cw_J9_min_7cf53, by decide +kernel⟩
theorem kv_X3_134 : KV RX3 134 yX3_spotOf RX3 cX3_spotOf 2 (some (.object "PackingSearch$Spot")) 1 := ⟨all5 (ws_mem 602 (by decide +kernel) rfl) (ws_mem 604 (by decide +kernel) rfl) (ws_mem 13 (by decide +kernel) rfl) (ws_mem 34 (by decide +kernel) rfl) cw_X3_spotOf, by decide +kernel⟩
theorem kv_X3_145 : KV RX3 145 yX2_detail RX2 cX2_detail 2 (some .int) 1 := ⟨all5 (ws_mem 607 (by decide +kernel) rfl) (ws_mem 608 (by decide +kernel) rfl) (ws_mem 609 (by decide +kernel) rfl) (ws_mem 38 (by decide +kernel) rfl) cw_X2_detail, by decide +kernel⟩
theorem kv_X3_153 : KV RX3 153 yX2_meetsFromAbove RX2 cX2_meetsFromAbove 2 (some .boolean) 1 := ⟨all5 (ws_mem 635 (by decide +kernel) rfl) (ws_mem 563 (by decide +kernel) rfl) (ws_mem 564 (by decide +kernel) rfl) (ws_mem 38 (by decide +kernel) rfl) cw_X2_meetsFromAbove, by decide +kernel⟩
theorem kv_X3_157 : KV RX3 157 yX2_area RX2 cX2_area 1 (some .int) 0 := ⟨all5 (ws_mem 644 (by decide +kernel) rfl) (ws_mem 288 (by decide +kernel) rfl) (ws_mem 289 (by decide +kernel) rfl) (ws_mem 38 (by decide +kernel) rfl) cw_X2_area, by decide +kernel⟩
theorem kv_X3_165 : KV RX3 165 yX1_supportOf RX1 cX1_supportOf 4 (some .int) 1 := ⟨all5 (ws_mem 661 (by decide +kernel) rfl) (ws_mem 567 (by decide +kernel) rfl) (ws_mem 568 (by decide +kernel) rfl) (ws_mem 37 (by decide +kernel) rfl) cw_X1_supportOf, by decide +kernel⟩
theorem kv_X3_169 : KV RX3 169 yX1_noteStanders RX1 cX1_noteStanders 3 none 0 := ⟨all5 (ws_mem 669 (by decide +kernel) rfl) (ws_mem 586 (by decide +kernel) rfl) (ws_mem 587 (by decide +kernel) rfl) (ws_mem 37 (by decide +kernel) rfl) cw_X1_noteStanders, by decide +kernel⟩
theorem kv_X3_172 : KV RX3 172 yX1_weightOn RX1 cX1_weightOn 6 (some .int) 1 := ⟨all5 (ws_mem 670 (by decide +kernel) rfl) (ws_mem 590 (by decide +kernel) rfl) (ws_mem 591 (by decide +kernel) rfl) (ws_mem 37 (by decide +kernel) rfl) cw_X1_weightOn, by decide +kernel⟩
theorem kv_X3_175 : KV RX3 175 yX1_hasCell RX1 cX1_hasCell 4 (some .boolean) 3 := ⟨all5 (ws_mem 679 (by decide +kernel) rfl) (ws_mem 680 (by decide +kernel) rfl) (ws_mem 681 (by decide +kernel) rfl) (ws_mem 37 (by decide +kernel) rfl) cw_X1_hasCell, by decide +kernel⟩
theorem kv_X3_184 : KV RX3 184 yX1_pieceIn RX1 cX1_pieceIn 5 (some .int) 3 := ⟨all5 (ws_mem 704 (by decide +kernel) rfl) (ws_mem 705 (by decide +kernel) rfl) (ws_mem 706 (by decide +kernel) rfl) (ws_mem 37 (by decide +kernel) rfl) cw_X1_pieceIn, by decide +kernel⟩
theorem kv_X3_188 : KV RX3 188 yX1_size RX1 cX1_size 3 (some .int) 0 := ⟨all5 (ws_mem 271 (by decide +kernel) rfl) (ws_mem 272 (by decide +kernel) rfl) (ws_mem 273 (by decide +kernel) rfl) (ws_mem 37 (by decide +kernel) rfl) cw_X1_size, by decide +kernel⟩
theorem kv_X3_203 : KV RX3 203 yX1_clear RX1 cX1_clear 2 none 0 := ⟨all5 (ws_mem 505 (by decide +kernel) rfl) (ws_mem 506 (by decide +kernel) rfl) (ws_mem 507 (by decide +kernel) rfl) (ws_mem 37 (by decide +kernel) rfl) cw_X1_clear, by decide +kernel⟩
theorem kv_X3_206 : KV RX3 206 yX3_unpackedCount RX3 cX3_unpackedCount 3 (some .int) 0 := ⟨all5 (ws_mem 275 (by decide +kernel) rfl) (ws_mem 277 (by decide +kernel) rfl) (ws_mem 1 (by decide +kernel) rfl) (ws_mem 34 (by decide +kernel) rfl) cw_X3_unpackedCount, by decide +kernel⟩
theorem kv_X3_209 : KV RX3 209 yX1_weight RX1 cX1_weight 3 (some .int) 0 := ⟨all5 (ws_mem 291 (by decide +kernel) rfl) (ws_mem 292 (by decide +kernel) rfl) (ws_mem 293 (by decide +kernel) rfl) (ws_mem 37 (by decide +kernel) rfl) cw_X1_weight, by decide +kernel⟩
theorem kv_X3_212 : KV RX3 212 yX1_top RX1 cX1_top 3 (some .int) 0 := ⟨all5 (ws_mem 295 (by decide +kernel) rfl) (ws_mem 296 (by decide +kernel) rfl) (ws_mem 297 (by decide +kernel) rfl) (ws_mem 37 (by decide +kernel) rfl) cw_X1_top, by decide +kernel⟩
theorem ko_X3_215 : KO RX3 215 yJ9_max_7cf53 cJ9_max_7cf53 2 (some .int) 2 := ⟨all4 (ws_mem 65 (by decide +kernel) rfl) (ws_mem 66 (by decide +kernel) rfl) (ws_mem 35 (by decide +kernel) rfl) cw_J9_max_7cf53, by decide +kernel⟩
theorem kv_X3_223 : KV RX3 223 yX0_lets RX0 cX0_lets 2 (some .boolean) 1 := ⟨all5 (ws_mem 236 (by decide +kernel) rfl) (ws_mem 237 (by decide +kernel) rfl) (ws_mem 238 (by decide +kernel) rfl) (ws_mem 36 (by decide +kernel) rfl) cw_X0_lets, by decide +kernel⟩
theorem kv_X3_226 : KV RX3 226 yX0_widthIn RX0 cX0_widthIn 2 (some .int) 1 := ⟨all5 (ws_mem 243 (by decide +kernel) rfl) (ws_mem 244 (by decide +kernel) rfl) (ws_mem 245 (by decide +kernel) rfl) (ws_mem 36 (by decide +kernel) rfl) cw_X0_widthIn, by decide +kernel⟩
theorem kv_X3_229 : KV RX3 229 yX0_depthIn RX0 cX0_depthIn 2 (some .int) 1 := ⟨all5 (ws_mem 247 (by decide +kernel) rfl) (ws_mem 248 (by decide +kernel) rfl) (ws_mem 249 (by decide +kernel) rfl) (ws_mem 36 (by decide +kernel) rfl) cw_X0_depthIn, by decide +kernel⟩
theorem kv_X3_232 : KV RX3 232 yX0_heightIn RX0 cX0_heightIn 2 (some .int) 1 := ⟨all5 (ws_mem 251 (by decide +kernel) rfl) (ws_mem 252 (by decide +kernel) rfl) (ws_mem 253 (by decide +kernel) rfl) (ws_mem 36 (by decide +kernel) rfl) cw_X0_heightIn, by decide +kernel⟩
theorem kv_X3_235 : KV RX3 235 yX1_takes RX1 cX1_takes 4 (some .boolean) 3 := ⟨all5 (ws_mem 255 (by decide +kernel) rfl) (ws_mem 256 (by decide +kernel) rfl) (ws_mem 257 (by decide +kernel) rfl) (ws_mem 37 (by decide +kernel) rfl) cw_X1_takes, by decide +kernel⟩
theorem kv_X3_244 : KV RX3 244 yX3_putInOrder RX3 cX3_putInOrder 3 none 0 := ⟨all5 (ws_mem 513 (by decide +kernel) rfl) (ws_mem 515 (by decide +kernel) rfl) (ws_mem 7 (by decide +kernel) rfl) (ws_mem 34 (by decide +kernel) rfl) cw_X3_putInOrder, by decide +kernel⟩
theorem kv_X3_250 : KV RX3 250 yX3_lookAtTrial RX3 cX3_lookAtTrial 2 none 0 := ⟨all5 (ws_mem 521 (by decide +kernel) rfl) (ws_mem 523 (by decide +kernel) rfl) (ws_mem 9 (by decide +kernel) rfl) (ws_mem 34 (by decide +kernel) rfl) cw_X3_lookAtTrial, by decide +kernel⟩
theorem kv_X3_253 : KV RX3 253 yX3_tryWay RX3 cX3_tryWay 11 none 4 := ⟨all5 (ws_mem 533 (by decide +kernel) rfl) (ws_mem 535 (by decide +kernel) rfl) (ws_mem 10 (by decide +kernel) rfl) (ws_mem 34 (by decide +kernel) rfl) cw_X3_tryWay, by decide +kernel⟩
theorem kv_X3_257 : KV RX3 257 yX1_ends RX1 cX1_ends 4 (some .int) 1 := ⟨all5 (ws_mem 537 (by decide +kernel) rfl) (ws_mem 538 (by decide +kernel) rfl) (ws_mem 539 (by decide +kernel) rfl) (ws_mem 37 (by decide +kernel) rfl) cw_X1_ends, by decide +kernel⟩
theorem ko_X3_260 : KO RX3 260 yX3_isIn cX3_isIn 2 (some .boolean) 2 := ⟨all4 (ws_mem 541 (by decide +kernel) rfl) (ws_mem 241 (by decide +kernel) rfl) (ws_mem 34 (by decide +kernel) rfl) cw_X3_isIn, by decide +kernel⟩
theorem kv_X3_264 : KV RX3 264 yX2_stand RX2 cX2_stand 6 none 5 := ⟨all5 (ws_mem 542 (by decide +kernel) rfl) (ws_mem 543 (by decide +kernel) rfl) (ws_mem 544 (by decide +kernel) rfl) (ws_mem 38 (by decide +kernel) rfl) cw_X2_stand, by decide +kernel⟩
theorem kv_X3_268 : KV RX3 268 yX1_isPlanWith RX1 cX1_isPlanWith 3 (some .boolean) 2 := ⟨all5 (ws_mem 549 (by decide +kernel) rfl) (ws_mem 550 (by decide +kernel) rfl) (ws_mem 551 (by decide +kernel) rfl) (ws_mem 37 (by decide +kernel) rfl) cw_X1_isPlanWith, by decide +kernel⟩
theorem kv_X3_272 : KV RX3 272 yX2_leave RX2 cX2_leave 1 none 0 := ⟨all5 (ws_mem 594 (by decide +kernel) rfl) (ws_mem 510 (by decide +kernel) rfl) (ws_mem 511 (by decide +kernel) rfl) (ws_mem 38 (by decide +kernel) rfl) cw_X2_leave, by decide +kernel⟩
theorem kv_X3_275 : KV RX3 275 yX1_copyFrom RX1 cX1_copyFrom 3 none 1 := ⟨all5 (ws_mem 525 (by decide +kernel) rfl) (ws_mem 526 (by decide +kernel) rfl) (ws_mem 527 (by decide +kernel) rfl) (ws_mem 37 (by decide +kernel) rfl) cw_X1_copyFrom, by decide +kernel⟩
theorem ko_X0_37 : KO RX0 37 yJ6_bitCount_0f7a4 cJ6_bitCount_0f7a4 1 (some .int) 1 := ⟨all4 (ws_mem 459 (by decide +kernel) rfl) (ws_mem 460 (by decide +kernel) rfl) (ws_mem 46 (by decide +kernel) rfl) cw_J6_bitCount_0f7a4, by decide +kernel⟩
theorem ko_X0_43 : KO RX0 43 yX0_marksFor cX0_marksFor 1 (some .int) 1 := ⟨all4 (ws_mem 444 (by decide +kernel) rfl) (ws_mem 445 (by decide +kernel) rfl) (ws_mem 36 (by decide +kernel) rfl) cw_X0_marksFor, by decide +kernel⟩
theorem kv_X0_46 : KV RX0 46 yX0_isLikeOneLet RX0 cX0_isLikeOneLet 3 (some .boolean) 1 := ⟨all5 (ws_mem 447 (by decide +kernel) rfl) (ws_mem 449 (by decide +kernel) rfl) (ws_mem 4 (by decide +kernel) rfl) (ws_mem 36 (by decide +kernel) rfl) cw_X0_isLikeOneLet, by decide +kernel⟩
theorem kv_X0_50 : KV RX0 50 yX0_lets RX0 cX0_lets 2 (some .boolean) 1 := ⟨all5 (ws_mem 451 (by decide +kernel) rfl) (ws_mem 237 (by decide +kernel) rfl) (ws_mem 238 (by decide +kernel) rfl) (ws_mem 36 (by decide +kernel) rfl) cw_X0_lets, by decide +kernel⟩
theorem kv_X0_53 : KV RX0 53 yX0_widthIn RX0 cX0_widthIn 2 (some .int) 1 := ⟨all5 (ws_mem 452 (by decide +kernel) rfl) (ws_mem 244 (by decide +kernel) rfl) (ws_mem 245 (by decide +kernel) rfl) (ws_mem 36 (by decide +kernel) rfl) cw_X0_widthIn, by decide +kernel⟩
theorem kv_X0_56 : KV RX0 56 yX0_depthIn RX0 cX0_depthIn 2 (some .int) 1 := ⟨all5 (ws_mem 453 (by decide +kernel) rfl) (ws_mem 248 (by decide +kernel) rfl) (ws_mem 249 (by decide +kernel) rfl) (ws_mem 36 (by decide +kernel) rfl) cw_X0_depthIn, by decide +kernel⟩
theorem kv_X0_59 : KV RX0 59 yX0_heightIn RX0 cX0_heightIn 2 (some .int) 1 := ⟨all5 (ws_mem 454 (by decide +kernel) rfl) (ws_mem 252 (by decide +kernel) rfl) (ws_mem 253 (by decide +kernel) rfl) (ws_mem 36 (by decide +kernel) rfl) cw_X0_heightIn, by decide +kernel⟩
theorem kv_X1_28 : KV RX1 28 yX2_leave RX2 cX2_leave 1 none 0 := ⟨all5 (ws_mem 509 (by decide +kernel) rfl) (ws_mem 510 (by decide +kernel) rfl) (ws_mem 511 (by decide +kernel) rfl) (ws_mem 38 (by decide +kernel) rfl) cw_X2_leave, by decide +kernel⟩
theorem kv_X1_31 : KV RX1 31 yX2_copyFrom RX2 cX2_copyFrom 2 none 1 := ⟨all5 (ws_mem 529 (by decide +kernel) rfl) (ws_mem 530 (by decide +kernel) rfl) (ws_mem 531 (by decide +kernel) rfl) (ws_mem 38 (by decide +kernel) rfl) cw_X2_copyFrom, by decide +kernel⟩
theorem kv_X1_39 : KV RX1 39 yX2_covers RX2 cX2_covers 4 (some .boolean) 3 := ⟨all5 (ws_mem 708 (by decide +kernel) rfl) (ws_mem 709 (by decide +kernel) rfl) (ws_mem 710 (by decide +kernel) rfl) (ws_mem 38 (by decide +kernel) rfl) cw_X2_covers, by decide +kernel⟩
theorem kv_X1_43 : KV RX1 43 yX2_volume RX2 cX2_volume 1 (some .int) 0 := ⟨all5 (ws_mem 283 (by decide +kernel) rfl) (ws_mem 284 (by decide +kernel) rfl) (ws_mem 285 (by decide +kernel) rfl) (ws_mem 38 (by decide +kernel) rfl) cw_X2_volume, by decide +kernel⟩
theorem kv_X1_50 : KV RX1 50 yX2_endAlong RX2 cX2_endAlong 2 (some .int) 1 := ⟨all5 (ws_mem 299 (by decide +kernel) rfl) (ws_mem 300 (by decide +kernel) rfl) (ws_mem 301 (by decide +kernel) rfl) (ws_mem 38 (by decide +kernel) rfl) cw_X2_endAlong, by decide +kernel⟩
theorem ko_X1_54 : KO RX1 54 yJ9_max_7cf53 cJ9_max_7cf53 2 (some .int) 2 := ⟨all4 (ws_mem 303 (by decide +kernel) rfl) (ws_mem 66 (by decide +kernel) rfl) (ws_mem 35 (by decide +kernel) rfl) cw_J9_max_7cf53, by decide +kernel⟩
theorem kv_X1_78 : KV RX1 78 yX1_takes RX1 cX1_takes 4 (some .boolean) 3 := ⟨all5 (ws_mem 553 (by decide +kernel) rfl) (ws_mem 256 (by decide +kernel) rfl) (ws_mem 257 (by decide +kernel) rfl) (ws_mem 37 (by decide +kernel) rfl) cw_X1_takes, by decide +kernel⟩
theorem kv_X1_81 : KV RX1 81 yX1_hasRoomFor RX1 cX1_hasRoomFor 3 (some .boolean) 1 := ⟨all5 (ws_mem 554 (by decide +kernel) rfl) (ws_mem 556 (by decide +kernel) rfl) (ws_mem 11 (by decide +kernel) rfl) (ws_mem 37 (by decide +kernel) rfl) cw_X1_hasRoomFor, by decide +kernel⟩
theorem kv_X1_85 : KV RX1 85 yX1_supportOf RX1 cX1_supportOf 4 (some .int) 1 := ⟨all5 (ws_mem 566 (by decide +kernel) rfl) (ws_mem 567 (by decide +kernel) rfl) (ws_mem 568 (by decide +kernel) rfl) (ws_mem 37 (by decide +kernel) rfl) cw_X1_supportOf, by decide +kernel⟩
theorem kv_X1_89 : KV RX1 89 yX2_area RX2 cX2_area 1 (some .int) 0 := ⟨all5 (ws_mem 570 (by decide +kernel) rfl) (ws_mem 288 (by decide +kernel) rfl) (ws_mem 289 (by decide +kernel) rfl) (ws_mem 38 (by decide +kernel) rfl) cw_X2_area, by decide +kernel⟩
theorem kv_X1_92 : KV RX1 92 yX1_weightsAreBorne RX1 cX1_weightsAreBorne 2 (some .boolean) 0 := ⟨all5 (ws_mem 581 (by decide +kernel) rfl) (ws_mem 583 (by decide +kernel) rfl) (ws_mem 12 (by decide +kernel) rfl) (ws_mem 37 (by decide +kernel) rfl) cw_X1_weightsAreBorne, by decide +kernel⟩
theorem kv_X1_96 : KV RX1 96 yX2_meets RX2 cX2_meets 2 (some .boolean) 1 := ⟨all5 (ws_mem 558 (by decide +kernel) rfl) (ws_mem 559 (by decide +kernel) rfl) (ws_mem 560 (by decide +kernel) rfl) (ws_mem 38 (by decide +kernel) rfl) cw_X2_meets, by decide +kernel⟩
theorem kv_X1_99 : KV RX1 99 yX2_standsOn RX2 cX2_standsOn 2 (some .boolean) 1 := ⟨all5 (ws_mem 571 (by decide +kernel) rfl) (ws_mem 572 (by decide +kernel) rfl) (ws_mem 573 (by decide +kernel) rfl) (ws_mem 38 (by decide +kernel) rfl) cw_X2_standsOn, by decide +kernel⟩
theorem kv_X1_102 : KV RX1 102 yX2_commonArea RX2 cX2_commonArea 4 (some .int) 1 := ⟨all5 (ws_mem 575 (by decide +kernel) rfl) (ws_mem 576 (by decide +kernel) rfl) (ws_mem 577 (by decide +kernel) rfl) (ws_mem 38 (by decide +kernel) rfl) cw_X2_commonArea, by decide +kernel⟩
theorem kv_X1_105 : KV RX1 105 yX1_noteStanders RX1 cX1_noteStanders 3 none 0 := ⟨all5 (ws_mem 585 (by decide +kernel) rfl) (ws_mem 586 (by decide +kernel) rfl) (ws_mem 587 (by decide +kernel) rfl) (ws_mem 37 (by decide +kernel) rfl) cw_X1_noteStanders, by decide +kernel⟩
theorem kv_X1_111 : KV RX1 111 yX1_weightOn RX1 cX1_weightOn 6 (some .int) 1 := ⟨all5 (ws_mem 589 (by decide +kernel) rfl) (ws_mem 590 (by decide +kernel) rfl) (ws_mem 591 (by decide +kernel) rfl) (ws_mem 37 (by decide +kernel) rfl) cw_X1_weightOn, by decide +kernel⟩
theorem kv_X2_25 : KV RX2 25 yX0_widthIn RX0 cX0_widthIn 2 (some .int) 1 := ⟨all5 (ws_mem 546 (by decide +kernel) rfl) (ws_mem 244 (by decide +kernel) rfl) (ws_mem 245 (by decide +kernel) rfl) (ws_mem 36 (by decide +kernel) rfl) cw_X0_widthIn, by decide +kernel⟩
theorem kv_X2_34 : KV RX2 34 yX0_depthIn RX0 cX0_depthIn 2 (some .int) 1 := ⟨all5 (ws_mem 547 (by decide +kernel) rfl) (ws_mem 248 (by decide +kernel) rfl) (ws_mem 249 (by decide +kernel) rfl) (ws_mem 36 (by decide +kernel) rfl) cw_X0_depthIn, by decide +kernel⟩
theorem kv_X2_40 : KV RX2 40 yX0_heightIn RX0 cX0_heightIn 2 (some .int) 1 := ⟨all5 (ws_mem 548 (by decide +kernel) rfl) (ws_mem 252 (by decide +kernel) rfl) (ws_mem 253 (by decide +kernel) rfl) (ws_mem 36 (by decide +kernel) rfl) cw_X0_heightIn, by decide +kernel⟩
theorem kv_X2_57 : KV RX2 57 yX2_area RX2 cX2_area 1 (some .int) 0 := ⟨all5 (ws_mem 287 (by decide +kernel) rfl) (ws_mem 288 (by decide +kernel) rfl) (ws_mem 289 (by decide +kernel) rfl) (ws_mem 38 (by decide +kernel) rfl) cw_X2_area, by decide +kernel⟩
theorem kv_X2_61 : KV RX2 61 yX2_meetsFromAbove RX2 cX2_meetsFromAbove 2 (some .boolean) 1 := ⟨all5 (ws_mem 562 (by decide +kernel) rfl) (ws_mem 563 (by decide +kernel) rfl) (ws_mem 564 (by decide +kernel) rfl) (ws_mem 38 (by decide +kernel) rfl) cw_X2_meetsFromAbove, by decide +kernel⟩
theorem ko_X2_65 : KO RX2 65 yJ9_min_7cf53 cJ9_min_7cf53 2 (some .int) 2 := ⟨all4 (ws_mem 579 (by decide +kernel) rfl) (ws_mem 63 (by decide +kernel) rfl) (ws_mem 35 (by decide +kernel) rfl) cw_J9_min_7cf53, by decide +kernel⟩
theorem ko_X2_71 : KO RX2 71 yJ9_max_7cf53 cJ9_max_7cf53 2 (some .int) 2 := ⟨all4 (ws_mem 580 (by decide +kernel) rfl) (ws_mem 66 (by decide +kernel) rfl) (ws_mem 35 (by decide +kernel) rfl) cw_J9_max_7cf53, by decide +kernel⟩
theorem kv_L_7 : KV RL 7 yX3_piece RX3 cX3_piece 6 (some .int) 4 := ⟨all5 (ws_mem 312 (by decide +kernel) rfl) (ws_mem 313 (by decide +kernel) rfl) (ws_mem 314 (by decide +kernel) rfl) (ws_mem 34 (by decide +kernel) rfl) cw_X3_piece, by decide +kernel⟩
theorem kv_L_17 : KV RL 17 yX3_turn RX3 cX3_turn 4 (some .int) 2 := ⟨all5 (ws_mem 415 (by decide +kernel) rfl) (ws_mem 416 (by decide +kernel) rfl) (ws_mem 417 (by decide +kernel) rfl) (ws_mem 34 (by decide +kernel) rfl) cw_X3_turn, by decide +kernel⟩
theorem kv_L_23 : KV RL 23 yX3_limit RX3 cX3_limit 4 none 2 := ⟨all5 (ws_mem 468 (by decide +kernel) rfl) (ws_mem 469 (by decide +kernel) rfl) (ws_mem 470 (by decide +kernel) rfl) (ws_mem 34 (by decide +kernel) rfl) cw_X3_limit, by decide +kernel⟩
theorem kv_L_27 : KV RL 27 yX3_rank RX3 cX3_rank 4 (some .int) 2 := ⟨all5 (ws_mem 476 (by decide +kernel) rfl) (ws_mem 477 (by decide +kernel) rfl) (ws_mem 478 (by decide +kernel) rfl) (ws_mem 34 (by decide +kernel) rfl) cw_X3_rank, by decide +kernel⟩
theorem kv_L_30 : KV RL 30 yX3_share RX3 cX3_share 2 none 1 := ⟨all5 (ws_mem 488 (by decide +kernel) rfl) (ws_mem 489 (by decide +kernel) rfl) (ws_mem 490 (by decide +kernel) rfl) (ws_mem 34 (by decide +kernel) rfl) cw_X3_share, by decide +kernel⟩
theorem kv_L_34 : KV RL 34 yX3_solve RX3 cX3_solve 2 (some .int) 1 := ⟨all5 (ws_mem 496 (by decide +kernel) rfl) (ws_mem 497 (by decide +kernel) rfl) (ws_mem 498 (by decide +kernel) rfl) (ws_mem 34 (by decide +kernel) rfl) cw_X3_solve, by decide +kernel⟩
theorem kv_L_38 : KV RL 38 yX3_at RX3 cX3_at 4 (some .int) 2 := ⟨all5 (ws_mem 598 (by decide +kernel) rfl) (ws_mem 599 (by decide +kernel) rfl) (ws_mem 600 (by decide +kernel) rfl) (ws_mem 34 (by decide +kernel) rfl) cw_X3_at, by decide +kernel⟩
theorem kv_L_41 : KV RL 41 yX3_over RX3 cX3_over 5 (some .boolean) 2 := ⟨all5 (ws_mem 615 (by decide +kernel) rfl) (ws_mem 616 (by decide +kernel) rfl) (ws_mem 617 (by decide +kernel) rfl) (ws_mem 34 (by decide +kernel) rfl) cw_X3_over, by decide +kernel⟩
theorem kv_L_47 : KV RL 47 yX3_support RX3 cX3_support 4 (some .int) 1 := ⟨all5 (ws_mem 640 (by decide +kernel) rfl) (ws_mem 641 (by decide +kernel) rfl) (ws_mem 642 (by decide +kernel) rfl) (ws_mem 34 (by decide +kernel) rfl) cw_X3_support, by decide +kernel⟩
theorem kv_L_52 : KV RL 52 yX3_bears RX3 cX3_bears 3 (some .int) 1 := ⟨all5 (ws_mem 665 (by decide +kernel) rfl) (ws_mem 666 (by decide +kernel) rfl) (ws_mem 667 (by decide +kernel) rfl) (ws_mem 34 (by decide +kernel) rfl) cw_X3_bears, by decide +kernel⟩
theorem kv_L_55 : KV RL 55 yX3_cell RX3 cX3_cell 4 (some .int) 3 := ⟨all5 (ws_mem 675 (by decide +kernel) rfl) (ws_mem 676 (by decide +kernel) rfl) (ws_mem 677 (by decide +kernel) rfl) (ws_mem 34 (by decide +kernel) rfl) cw_X3_cell, by decide +kernel⟩
theorem kv_L_61 : KV RL 61 yX3_close RX3 cX3_close 3 (some .int) 0 := ⟨all5 (ws_mem 715 (by decide +kernel) rfl) (ws_mem 716 (by decide +kernel) rfl) (ws_mem 717 (by decide +kernel) rfl) (ws_mem 34 (by decide +kernel) rfl) cw_X3_close, by decide +kernel⟩
theorem kv_L_65 : KV RL 65 yX3_box RX3 cX3_box 2 (some .int) 1 := ⟨all5 (ws_mem 723 (by decide +kernel) rfl) (ws_mem 724 (by decide +kernel) rfl) (ws_mem 725 (by decide +kernel) rfl) (ws_mem 34 (by decide +kernel) rfl) cw_X3_box, by decide +kernel⟩
theorem ko_L_68 : KO RL 68 yL_cell cL_cell 2 (some .int) 2 := ⟨all4 (ws_mem 304 (by decide +kernel) rfl) (ws_mem 305 (by decide +kernel) rfl) (ws_mem 33 (by decide +kernel) rfl) cw_L_cell, by decide +kernel⟩
theorem kv_L_82 : KV RL 82 yX4_piece RX4 cX4_piece 5 (some .int) 4 := ⟨all5 (ws_mem 852 (by decide +kernel) rfl) (ws_mem 853 (by decide +kernel) rfl) (ws_mem 854 (by decide +kernel) rfl) (ws_mem 39 (by decide +kernel) rfl) cw_X4_piece, by decide +kernel⟩
theorem kv_L_83 : KV RL 83 yX4_thrown RX4 cX4_thrown 1 (some .int) 0 := ⟨all5 (ws_mem 848 (by decide +kernel) rfl) (ws_mem 849 (by decide +kernel) rfl) (ws_mem 850 (by decide +kernel) rfl) (ws_mem 39 (by decide +kernel) rfl) cw_X4_thrown, by decide +kernel⟩
theorem kv_L_89 : KV RL 89 yX4_turn RX4 cX4_turn 5 (some .int) 2 := ⟨all5 (ws_mem 859 (by decide +kernel) rfl) (ws_mem 860 (by decide +kernel) rfl) (ws_mem 861 (by decide +kernel) rfl) (ws_mem 39 (by decide +kernel) rfl) cw_X4_turn, by decide +kernel⟩
theorem kv_L_93 : KV RL 93 yX4_limit RX4 cX4_limit 3 none 2 := ⟨all5 (ws_mem 882 (by decide +kernel) rfl) (ws_mem 883 (by decide +kernel) rfl) (ws_mem 884 (by decide +kernel) rfl) (ws_mem 39 (by decide +kernel) rfl) cw_X4_limit, by decide +kernel⟩
theorem kv_L_96 : KV RL 96 yX4_rank RX4 cX4_rank 4 (some .int) 2 := ⟨all5 (ws_mem 886 (by decide +kernel) rfl) (ws_mem 887 (by decide +kernel) rfl) (ws_mem 888 (by decide +kernel) rfl) (ws_mem 39 (by decide +kernel) rfl) cw_X4_rank, by decide +kernel⟩
theorem kv_L_100 : KV RL 100 yX4_share RX4 cX4_share 2 none 1 := ⟨all5 (ws_mem 894 (by decide +kernel) rfl) (ws_mem 895 (by decide +kernel) rfl) (ws_mem 896 (by decide +kernel) rfl) (ws_mem 39 (by decide +kernel) rfl) cw_X4_share, by decide +kernel⟩
theorem kv_L_104 : KV RL 104 yX4_solve RX4 cX4_solve 3 (some .int) 1 := ⟨all5 (ws_mem 898 (by decide +kernel) rfl) (ws_mem 899 (by decide +kernel) rfl) (ws_mem 900 (by decide +kernel) rfl) (ws_mem 39 (by decide +kernel) rfl) cw_X4_solve, by decide +kernel⟩
theorem kv_L_105 : KV RL 105 yX3_exact RX3 cX3_exact 1 (some .boolean) 0 := ⟨all5 (ws_mem 216 (by decide +kernel) rfl) (ws_mem 217 (by decide +kernel) rfl) (ws_mem 218 (by decide +kernel) rfl) (ws_mem 34 (by decide +kernel) rfl) cw_X3_exact, by decide +kernel⟩
theorem kv_L_109 : KV RL 109 yX4_exact RX4 cX4_exact 1 (some .boolean) 0 := ⟨all5 (ws_mem 957 (by decide +kernel) rfl) (ws_mem 958 (by decide +kernel) rfl) (ws_mem 959 (by decide +kernel) rfl) (ws_mem 39 (by decide +kernel) rfl) cw_X4_exact, by decide +kernel⟩
theorem kv_L_110 : KV RL 110 yX3_steps RX3 cX3_steps 1 (some .int) 0 := ⟨all5 (ws_mem 220 (by decide +kernel) rfl) (ws_mem 221 (by decide +kernel) rfl) (ws_mem 222 (by decide +kernel) rfl) (ws_mem 34 (by decide +kernel) rfl) cw_X3_steps, by decide +kernel⟩
theorem kv_L_113 : KV RL 113 yX4_steps RX4 cX4_steps 1 (some .int) 0 := ⟨all5 (ws_mem 961 (by decide +kernel) rfl) (ws_mem 962 (by decide +kernel) rfl) (ws_mem 963 (by decide +kernel) rfl) (ws_mem 39 (by decide +kernel) rfl) cw_X4_steps, by decide +kernel⟩
theorem kv_L_114 : KV RL 114 yX3_bound RX3 cX3_bound 3 (some .int) 0 := ⟨all5 (ws_mem 224 (by decide +kernel) rfl) (ws_mem 225 (by decide +kernel) rfl) (ws_mem 226 (by decide +kernel) rfl) (ws_mem 34 (by decide +kernel) rfl) cw_X3_bound, by decide +kernel⟩
theorem kv_L_117 : KV RL 117 yX4_bound RX4 cX4_bound 3 (some .int) 0 := ⟨all5 (ws_mem 965 (by decide +kernel) rfl) (ws_mem 966 (by decide +kernel) rfl) (ws_mem 967 (by decide +kernel) rfl) (ws_mem 39 (by decide +kernel) rfl) cw_X4_bound, by decide +kernel⟩
theorem kv_L_120 : KV RL 120 yX4_at RX4 cX4_at 3 (some .int) 2 := ⟨all5 (ws_mem 973 (by decide +kernel) rfl) (ws_mem 974 (by decide +kernel) rfl) (ws_mem 975 (by decide +kernel) rfl) (ws_mem 39 (by decide +kernel) rfl) cw_X4_at, by decide +kernel⟩
theorem kv_L_123 : KV RL 123 yX4_over RX4 cX4_over 3 (some .boolean) 2 := ⟨all5 (ws_mem 977 (by decide +kernel) rfl) (ws_mem 978 (by decide +kernel) rfl) (ws_mem 979 (by decide +kernel) rfl) (ws_mem 39 (by decide +kernel) rfl) cw_X4_over, by decide +kernel⟩
theorem kv_L_126 : KV RL 126 yX4_support RX4 cX4_support 2 (some .int) 1 := ⟨all5 (ws_mem 981 (by decide +kernel) rfl) (ws_mem 982 (by decide +kernel) rfl) (ws_mem 983 (by decide +kernel) rfl) (ws_mem 39 (by decide +kernel) rfl) cw_X4_support, by decide +kernel⟩
theorem kv_L_129 : KV RL 129 yX4_bears RX4 cX4_bears 2 (some .int) 1 := ⟨all5 (ws_mem 985 (by decide +kernel) rfl) (ws_mem 986 (by decide +kernel) rfl) (ws_mem 987 (by decide +kernel) rfl) (ws_mem 39 (by decide +kernel) rfl) cw_X4_bears, by decide +kernel⟩
theorem kv_L_133 : KV RL 133 yX4_cell RX4 cX4_cell 5 (some .int) 3 := ⟨all5 (ws_mem 989 (by decide +kernel) rfl) (ws_mem 990 (by decide +kernel) rfl) (ws_mem 991 (by decide +kernel) rfl) (ws_mem 39 (by decide +kernel) rfl) cw_X4_cell, by decide +kernel⟩
theorem kv_L_137 : KV RL 137 yX4_close RX4 cX4_close 3 (some .int) 0 := ⟨all5 (ws_mem 993 (by decide +kernel) rfl) (ws_mem 994 (by decide +kernel) rfl) (ws_mem 995 (by decide +kernel) rfl) (ws_mem 39 (by decide +kernel) rfl) cw_X4_close, by decide +kernel⟩
theorem kv_L_140 : KV RL 140 yX4_box RX4 cX4_box 2 (some .int) 1 := ⟨all5 (ws_mem 997 (by decide +kernel) rfl) (ws_mem 998 (by decide +kernel) rfl) (ws_mem 999 (by decide +kernel) rfl) (ws_mem 39 (by decide +kernel) rfl) cw_X4_box, by decide +kernel⟩
theorem kv_L_141 : KV RL 141 yX3_count RX3 cX3_count 2 (some .int) 1 := ⟨all5 (ws_mem 267 (by decide +kernel) rfl) (ws_mem 268 (by decide +kernel) rfl) (ws_mem 269 (by decide +kernel) rfl) (ws_mem 34 (by decide +kernel) rfl) cw_X3_count, by decide +kernel⟩
theorem kv_L_144 : KV RL 144 yX4_count RX4 cX4_count 7 (some .int) 1 := ⟨all5 (ws_mem 1001 (by decide +kernel) rfl) (ws_mem 1002 (by decide +kernel) rfl) (ws_mem 1003 (by decide +kernel) rfl) (ws_mem 39 (by decide +kernel) rfl) cw_X4_count, by decide +kernel⟩
theorem ko_X4_114 : KO RX4 114 yX4_held cX4_held 1 (some .int) 1 := ⟨all4 (ws_mem 733 (by decide +kernel) rfl) (ws_mem 734 (by decide +kernel) rfl) (ws_mem 39 (by decide +kernel) rfl) cw_X4_held, by decide +kernel⟩
theorem ko_X4_127 : KO RX4 127 yX4_from cX4_from 2 (some .int) 2 := ⟨all4 (ws_mem 879 (by decide +kernel) rfl) (ws_mem 880 (by decide +kernel) rfl) (ws_mem 39 (by decide +kernel) rfl) cw_X4_from, by decide +kernel⟩
theorem kv_X4_131 : KV RX4 131 yX4_byMarks RX4 cX4_byMarks 3 (some .boolean) 2 := ⟨all5 (ws_mem 871 (by decide +kernel) rfl) (ws_mem 873 (by decide +kernel) rfl) (ws_mem 16 (by decide +kernel) rfl) (ws_mem 39 (by decide +kernel) rfl) cw_X4_byMarks, by decide +kernel⟩
theorem kv_X4_135 : KV RX4 135 yX4_measure RX4 cX4_measure 4 (some .int) 3 := ⟨all5 (ws_mem 875 (by decide +kernel) rfl) (ws_mem 877 (by decide +kernel) rfl) (ws_mem 17 (by decide +kernel) rfl) (ws_mem 39 (by decide +kernel) rfl) cw_X4_measure, by decide +kernel⟩
theorem ko_X4_139 : KO RX4 139 yX4_common cX4_common 6 (some .int) 4 := ⟨all4 (ws_mem 950 (by decide +kernel) rfl) (ws_mem 951 (by decide +kernel) rfl) (ws_mem 39 (by decide +kernel) rfl) cw_X4_common, by decide +kernel⟩
theorem kv_X4_143 : KV RX4 143 yX4_area RX4 cX4_area 3 (some .int) 2 := ⟨all5 (ws_mem 946 (by decide +kernel) rfl) (ws_mem 948 (by decide +kernel) rfl) (ws_mem 30 (by decide +kernel) rfl) (ws_mem 39 (by decide +kernel) rfl) cw_X4_area, by decide +kernel⟩
theorem kv_X4_146 : KV RX4 146 yX4_standsOn RX4 cX4_standsOn 3 (some .boolean) 2 := ⟨all5 (ws_mem 942 (by decide +kernel) rfl) (ws_mem 944 (by decide +kernel) rfl) (ws_mem 29 (by decide +kernel) rfl) (ws_mem 39 (by decide +kernel) rfl) cw_X4_standsOn, by decide +kernel⟩
theorem kv_X4_149 : KV RX4 149 yX4_supportOf RX4 cX4_supportOf 4 (some .int) 1 := ⟨all5 (ws_mem 938 (by decide +kernel) rfl) (ws_mem 940 (by decide +kernel) rfl) (ws_mem 28 (by decide +kernel) rfl) (ws_mem 39 (by decide +kernel) rfl) cw_X4_supportOf, by decide +kernel⟩
theorem kv_X4_152 : KV RX4 152 yX4_borne RX4 cX4_borne 6 (some .int) 1 := ⟨all5 (ws_mem 953 (by decide +kernel) rfl) (ws_mem 955 (by decide +kernel) rfl) (ws_mem 31 (by decide +kernel) rfl) (ws_mem 39 (by decide +kernel) rfl) cw_X4_borne, by decide +kernel⟩
theorem kv_X4_155 : KV RX4 155 yX4_volume RX4 cX4_volume 2 (some .int) 1 := ⟨all5 (ws_mem 922 (by decide +kernel) rfl) (ws_mem 924 (by decide +kernel) rfl) (ws_mem 24 (by decide +kernel) rfl) (ws_mem 39 (by decide +kernel) rfl) cw_X4_volume, by decide +kernel⟩
theorem kv_X4_158 : KV RX4 158 yX4_end RX4 cX4_end 7 none 3 := ⟨all5 (ws_mem 910 (by decide +kernel) rfl) (ws_mem 912 (by decide +kernel) rfl) (ws_mem 21 (by decide +kernel) rfl) (ws_mem 39 (by decide +kernel) rfl) cw_X4_end, by decide +kernel⟩
theorem kv_X4_162 : KV RX4 162 yX4_let RX4 cX4_let 6 (some .boolean) 2 := ⟨all5 (ws_mem 867 (by decide +kernel) rfl) (ws_mem 869 (by decide +kernel) rfl) (ws_mem 15 (by decide +kernel) rfl) (ws_mem 39 (by decide +kernel) rfl) cw_X4_let, by decide +kernel⟩
theorem kv_X4_165 : KV RX4 165 yX4_volumeNow RX4 cX4_volumeNow 3 (some .int) 0 := ⟨all5 (ws_mem 918 (by decide +kernel) rfl) (ws_mem 920 (by decide +kernel) rfl) (ws_mem 23 (by decide +kernel) rfl) (ws_mem 39 (by decide +kernel) rfl) cw_X4_volumeNow, by decide +kernel⟩
theorem kv_X4_169 : KV RX4 169 yX4_enter RX4 cX4_enter 3 none 1 := ⟨all5 (ws_mem 906 (by decide +kernel) rfl) (ws_mem 908 (by decide +kernel) rfl) (ws_mem 20 (by decide +kernel) rfl) (ws_mem 39 (by decide +kernel) rfl) cw_X4_enter, by decide +kernel⟩
theorem kv_X4_173 : KV RX4 173 yX4_look RX4 cX4_look 3 none 0 := ⟨all5 (ws_mem 914 (by decide +kernel) rfl) (ws_mem 916 (by decide +kernel) rfl) (ws_mem 22 (by decide +kernel) rfl) (ws_mem 39 (by decide +kernel) rfl) cw_X4_look, by decide +kernel⟩
theorem kv_X4_176 : KV RX4 176 yX4_advance RX4 cX4_advance 2 (some .boolean) 1 := ⟨all5 (ws_mem 926 (by decide +kernel) rfl) (ws_mem 928 (by decide +kernel) rfl) (ws_mem 25 (by decide +kernel) rfl) (ws_mem 39 (by decide +kernel) rfl) cw_X4_advance, by decide +kernel⟩
theorem kv_X4_180 : KV RX4 180 yX4_stand RX4 cX4_stand 6 none 5 := ⟨all5 (ws_mem 930 (by decide +kernel) rfl) (ws_mem 932 (by decide +kernel) rfl) (ws_mem 26 (by decide +kernel) rfl) (ws_mem 39 (by decide +kernel) rfl) cw_X4_stand, by decide +kernel⟩
theorem kv_X4_184 : KV RX4 184 yX4_isPlan RX4 cX4_isPlan 3 (some .boolean) 0 := ⟨all5 (ws_mem 934 (by decide +kernel) rfl) (ws_mem 936 (by decide +kernel) rfl) (ws_mem 27 (by decide +kernel) rfl) (ws_mem 39 (by decide +kernel) rfl) cw_X4_isPlan, by decide +kernel⟩
theorem ko_X4_188 : KO RX4 188 yX4_not cX4_not 3 (some .boolean) 3 := ⟨all4 (ws_mem 856 (by decide +kernel) rfl) (ws_mem 857 (by decide +kernel) rfl) (ws_mem 39 (by decide +kernel) rfl) cw_X4_not, by decide +kernel⟩
theorem kv_X4_192 : KV RX4 192 yX4_noPiece RX4 cX4_noPiece 2 (some .boolean) 1 := ⟨all5 (ws_mem 863 (by decide +kernel) rfl) (ws_mem 865 (by decide +kernel) rfl) (ws_mem 14 (by decide +kernel) rfl) (ws_mem 39 (by decide +kernel) rfl) cw_X4_noPiece, by decide +kernel⟩
theorem kv_X4_195 : KV RX4 195 yX4_findOrder RX4 cX4_findOrder 3 none 0 := ⟨all5 (ws_mem 890 (by decide +kernel) rfl) (ws_mem 892 (by decide +kernel) rfl) (ws_mem 18 (by decide +kernel) rfl) (ws_mem 39 (by decide +kernel) rfl) cw_X4_findOrder, by decide +kernel⟩
theorem kv_X4_198 : KV RX4 198 yX4_search RX4 cX4_search 4 (some .boolean) 1 := ⟨all5 (ws_mem 902 (by decide +kernel) rfl) (ws_mem 904 (by decide +kernel) rfl) (ws_mem 19 (by decide +kernel) rfl) (ws_mem 39 (by decide +kernel) rfl) cw_X4_search, by decide +kernel⟩
theorem kv_X4_201 : KV RX4 201 yX4_goesIn RX4 cX4_goesIn 3 (some .boolean) 1 := ⟨all5 (ws_mem 969 (by decide +kernel) rfl) (ws_mem 971 (by decide +kernel) rfl) (ws_mem 32 (by decide +kernel) rfl) (ws_mem 39 (by decide +kernel) rfl) cw_X4_goesIn, by decide +kernel⟩
theorem kn_X0_33 : KN RX0 33 yX3_isIn "PackingSearch" cX3_isIn 2 (some .boolean) 2 := ⟨all3 (ws_mem 241 (by decide +kernel) rfl) (ws_mem 34 (by decide +kernel) rfl) cw_X3_isIn, by decide +kernel, by decide +kernel⟩
theorem kn_X1_117 : KN RX1 117 yX3_isIn "PackingSearch" cX3_isIn 2 (some .boolean) 2 := ⟨all3 (ws_mem 241 (by decide +kernel) rfl) (ws_mem 34 (by decide +kernel) rfl) cw_X3_isIn, by decide +kernel, by decide +kernel⟩
theorem hm_max : Cond.static Lib.Math.max.name ∈ WS ∧ Cond.initialized "java/lang/Math" ∈ WS ∧ Cond.code Lib.Math.max.name Lib.Math.max.code 2 (some .int) ∈ WS := ⟨(ws_mem 66 (by decide +kernel) rfl), (ws_mem 35 (by decide +kernel) rfl), (ws_mem 67 (by decide +kernel) rfl)⟩
theorem hk_X3_215 : Cond.methodLink RX3 215 Lib.Math.max.name ∈ WS := (ws_mem 65 (by decide +kernel) rfl)
theorem hk_X1_54 : Cond.methodLink RX1 54 Lib.Math.max.name ∈ WS := (ws_mem 303 (by decide +kernel) rfl)
theorem hk_X2_71 : Cond.methodLink RX2 71 Lib.Math.max.name ∈ WS := (ws_mem 580 (by decide +kernel) rfl)
theorem hm_min : Cond.static Lib.Math.min.name ∈ WS ∧ Cond.initialized "java/lang/Math" ∈ WS ∧ Cond.code Lib.Math.min.name Lib.Math.min.code 2 (some .int) ∈ WS := ⟨(ws_mem 63 (by decide +kernel) rfl), (ws_mem 35 (by decide +kernel) rfl), (ws_mem 64 (by decide +kernel) rfl)⟩
theorem hk_X3_128 : Cond.methodLink RX3 128 Lib.Math.min.name ∈ WS := (ws_mem 62 (by decide +kernel) rfl)
theorem hk_X2_65 : Cond.methodLink RX2 65 Lib.Math.min.name ∈ WS := (ws_mem 579 (by decide +kernel) rfl)
theorem hc_J6_265 : Cond.constant RJ6 265 (1431655765) ∈ WS := (ws_mem 462 (by decide +kernel) rfl)
theorem hc_J6_266 : Cond.constant RJ6 266 (858993459) ∈ WS := (ws_mem 463 (by decide +kernel) rfl)
theorem hc_J6_267 : Cond.constant RJ6 267 (252645135) ∈ WS := (ws_mem 464 (by decide +kernel) rfl)
end
section
theorem dX0_init_0 : decode cX0_init 0 = .ok (.aload_n 0, 1) := by decide +kernel
theorem dX0_init_1 : decode cX0_init 1 = .ok (.invokespecial 3, 3) := by decide +kernel
theorem dX0_init_4 : decode cX0_init 4 = .ok (.aload_n 0, 1) := by decide +kernel
theorem dX0_init_5 : decode cX0_init 5 = .ok (.iconst 1, 1) := by decide +kernel
theorem dX0_init_6 : decode cX0_init 6 = .ok (.putfield 9, 3) := by decide +kernel
theorem dX0_init_9 : decode cX0_init 9 = .ok (.aload_n 0, 1) := by decide +kernel
theorem dX0_init_10 : decode cX0_init 10 = .ok (.iconst (-1), 1) := by decide +kernel
theorem dX0_init_11 : decode cX0_init 11 = .ok (.putfield 15, 3) := by decide +kernel
theorem dX0_init_14 : decode cX0_init 14 = .ok (.aload_n 0, 1) := by decide +kernel
theorem dX0_init_15 : decode cX0_init 15 = .ok (.iconst (-1), 1) := by decide +kernel
theorem dX0_init_16 : decode cX0_init 16 = .ok (.putfield 18, 3) := by decide +kernel
theorem dX0_init_19 : decode cX0_init 19 = .ok (.return_, 1) := by decide +kernel
theorem dX0_become_0 : decode cX0_become 0 = .ok (.aload_n 0, 1) := by decide +kernel
theorem dX0_become_1 : decode cX0_become 1 = .ok (.iload_n 1, 1) := by decide +kernel
theorem dX0_become_2 : decode cX0_become 2 = .ok (.putfield 21, 3) := by decide +kernel
theorem dX0_become_5 : decode cX0_become 5 = .ok (.aload_n 0, 1) := by decide +kernel
theorem dX0_become_6 : decode cX0_become 6 = .ok (.iload_n 2, 1) := by decide +kernel
theorem dX0_become_7 : decode cX0_become 7 = .ok (.putfield 24, 3) := by decide +kernel
theorem dX0_become_10 : decode cX0_become 10 = .ok (.aload_n 0, 1) := by decide +kernel
theorem dX0_become_11 : decode cX0_become 11 = .ok (.iload_n 3, 1) := by decide +kernel
theorem dX0_become_12 : decode cX0_become 12 = .ok (.putfield 27, 3) := by decide +kernel
theorem dX0_become_15 : decode cX0_become 15 = .ok (.aload_n 0, 1) := by decide +kernel
theorem dX0_become_16 : decode cX0_become 16 = .ok (.iload 4, 2) := by decide +kernel
theorem dX0_become_18 : decode cX0_become 18 = .ok (.putfield 30, 3) := by decide +kernel
theorem dX0_become_21 : decode cX0_become 21 = .ok (.return_, 1) := by decide +kernel
theorem dX0_isPacked_0 : decode cX0_isPacked 0 = .ok (.aload_n 0, 1) := by decide +kernel
theorem dX0_isPacked_1 : decode cX0_isPacked 1 = .ok (.getfield 18, 3) := by decide +kernel
theorem dX0_isPacked_4 : decode cX0_isPacked 4 = .ok (.iconst (-1), 1) := by decide +kernel
theorem dX0_isPacked_5 : decode cX0_isPacked 5 = .ok (.if_icmp .eq 7, 3) := by decide +kernel
theorem dX0_isPacked_8 : decode cX0_isPacked 8 = .ok (.iconst 1, 1) := by decide +kernel
theorem dX0_isPacked_9 : decode cX0_isPacked 9 = .ok (.goto 4, 3) := by decide +kernel
theorem dX0_isPacked_12 : decode cX0_isPacked 12 = .ok (.iconst 0, 1) := by decide +kernel
theorem dX0_isPacked_13 : decode cX0_isPacked 13 = .ok (.ireturn, 1) := by decide +kernel
theorem dX0_volume_0 : decode cX0_volume 0 = .ok (.aload_n 0, 1) := by decide +kernel
theorem dX0_volume_1 : decode cX0_volume 1 = .ok (.getfield 21, 3) := by decide +kernel
theorem dX0_volume_4 : decode cX0_volume 4 = .ok (.aload_n 0, 1) := by decide +kernel
theorem dX0_volume_5 : decode cX0_volume 5 = .ok (.getfield 24, 3) := by decide +kernel
theorem dX0_volume_8 : decode cX0_volume 8 = .ok (.imul, 1) := by decide +kernel
theorem dX0_volume_9 : decode cX0_volume 9 = .ok (.aload_n 0, 1) := by decide +kernel
theorem dX0_volume_10 : decode cX0_volume 10 = .ok (.getfield 27, 3) := by decide +kernel
theorem dX0_volume_13 : decode cX0_volume 13 = .ok (.imul, 1) := by decide +kernel
theorem dX0_volume_14 : decode cX0_volume 14 = .ok (.ireturn, 1) := by decide +kernel
theorem dX0_lets_0 : decode cX0_lets 0 = .ok (.aload_n 0, 1) := by decide +kernel
theorem dX0_lets_1 : decode cX0_lets 1 = .ok (.getfield 9, 3) := by decide +kernel
theorem dX0_lets_4 : decode cX0_lets 4 = .ok (.iload_n 1, 1) := by decide +kernel
theorem dX0_lets_5 : decode cX0_lets 5 = .ok (.invokestatic 33, 3) := by decide +kernel
theorem dX0_lets_8 : decode cX0_lets 8 = .ok (.ireturn, 1) := by decide +kernel
theorem dX0_wayCount_0 : decode cX0_wayCount 0 = .ok (.aload_n 0, 1) := by decide +kernel
theorem dX0_wayCount_1 : decode cX0_wayCount 1 = .ok (.getfield 9, 3) := by decide +kernel
theorem dX0_wayCount_4 : decode cX0_wayCount 4 = .ok (.invokestatic 37, 3) := by decide +kernel
theorem dX0_wayCount_7 : decode cX0_wayCount 7 = .ok (.ireturn, 1) := by decide +kernel
theorem dX0_mark_0 : decode cX0_mark 0 = .ok (.aload_n 0, 1) := by decide +kernel
theorem dX0_mark_1 : decode cX0_mark 1 = .ok (.iconst 0, 1) := by decide +kernel
theorem dX0_mark_2 : decode cX0_mark 2 = .ok (.putfield 9, 3) := by decide +kernel
theorem dX0_mark_5 : decode cX0_mark 5 = .ok (.iconst 0, 1) := by decide +kernel
theorem dX0_mark_6 : decode cX0_mark 6 = .ok (.istore_n 2, 1) := by decide +kernel
theorem dX0_mark_7 : decode cX0_mark 7 = .ok (.iload_n 2, 1) := by decide +kernel
theorem dX0_mark_8 : decode cX0_mark 8 = .ok (.bipush 6, 2) := by decide +kernel
theorem dX0_mark_10 : decode cX0_mark 10 = .ok (.if_icmp .ge 41, 3) := by decide +kernel
theorem dX0_mark_13 : decode cX0_mark 13 = .ok (.iload_n 2, 1) := by decide +kernel
theorem dX0_mark_14 : decode cX0_mark 14 = .ok (.invokestatic 43, 3) := by decide +kernel
theorem dX0_mark_17 : decode cX0_mark 17 = .ok (.istore_n 3, 1) := by decide +kernel
theorem dX0_mark_18 : decode cX0_mark 18 = .ok (.iload_n 1, 1) := by decide +kernel
theorem dX0_mark_19 : decode cX0_mark 19 = .ok (.iload_n 3, 1) := by decide +kernel
theorem dX0_mark_20 : decode cX0_mark 20 = .ok (.iand, 1) := by decide +kernel
theorem dX0_mark_21 : decode cX0_mark 21 = .ok (.iload_n 3, 1) := by decide +kernel
theorem dX0_mark_22 : decode cX0_mark 22 = .ok (.if_icmp .ne 23, 3) := by decide +kernel
theorem dX0_mark_25 : decode cX0_mark 25 = .ok (.aload_n 0, 1) := by decide +kernel
theorem dX0_mark_26 : decode cX0_mark 26 = .ok (.iload_n 2, 1) := by decide +kernel
theorem dX0_mark_27 : decode cX0_mark 27 = .ok (.invokevirtual 46, 3) := by decide +kernel
theorem dX0_mark_30 : decode cX0_mark 30 = .ok (.ifCond .ne 15, 3) := by decide +kernel
theorem dX0_mark_33 : decode cX0_mark 33 = .ok (.aload_n 0, 1) := by decide +kernel
theorem dX0_mark_34 : decode cX0_mark 34 = .ok (.dup, 1) := by decide +kernel
theorem dX0_mark_35 : decode cX0_mark 35 = .ok (.getfield 9, 3) := by decide +kernel
theorem dX0_mark_38 : decode cX0_mark 38 = .ok (.iconst 1, 1) := by decide +kernel
theorem dX0_mark_39 : decode cX0_mark 39 = .ok (.iload_n 2, 1) := by decide +kernel
theorem dX0_mark_40 : decode cX0_mark 40 = .ok (.ishl, 1) := by decide +kernel
theorem dX0_mark_41 : decode cX0_mark 41 = .ok (.ior, 1) := by decide +kernel
theorem dX0_mark_42 : decode cX0_mark 42 = .ok (.putfield 9, 3) := by decide +kernel
theorem dX0_mark_45 : decode cX0_mark 45 = .ok (.iinc 2 1, 3) := by decide +kernel
theorem dX0_mark_48 : decode cX0_mark 48 = .ok (.goto (-41), 3) := by decide +kernel
theorem dX0_mark_51 : decode cX0_mark 51 = .ok (.return_, 1) := by decide +kernel
theorem dX0_isLikeOneLet_0 : decode cX0_isLikeOneLet 0 = .ok (.iconst 0, 1) := by decide +kernel
theorem dX0_isLikeOneLet_1 : decode cX0_isLikeOneLet 1 = .ok (.istore_n 2, 1) := by decide +kernel
theorem dX0_isLikeOneLet_2 : decode cX0_isLikeOneLet 2 = .ok (.iload_n 2, 1) := by decide +kernel
theorem dX0_isLikeOneLet_3 : decode cX0_isLikeOneLet 3 = .ok (.iload_n 1, 1) := by decide +kernel
theorem dX0_isLikeOneLet_4 : decode cX0_isLikeOneLet 4 = .ok (.if_icmp .ge 58, 3) := by decide +kernel
theorem dX0_isLikeOneLet_7 : decode cX0_isLikeOneLet 7 = .ok (.aload_n 0, 1) := by decide +kernel
theorem dX0_isLikeOneLet_8 : decode cX0_isLikeOneLet 8 = .ok (.iload_n 2, 1) := by decide +kernel
theorem dX0_isLikeOneLet_9 : decode cX0_isLikeOneLet 9 = .ok (.invokevirtual 50, 3) := by decide +kernel
theorem dX0_isLikeOneLet_12 : decode cX0_isLikeOneLet 12 = .ok (.ifCond .eq 44, 3) := by decide +kernel
theorem dX0_isLikeOneLet_15 : decode cX0_isLikeOneLet 15 = .ok (.aload_n 0, 1) := by decide +kernel
theorem dX0_isLikeOneLet_16 : decode cX0_isLikeOneLet 16 = .ok (.iload_n 2, 1) := by decide +kernel
theorem dX0_isLikeOneLet_17 : decode cX0_isLikeOneLet 17 = .ok (.invokevirtual 53, 3) := by decide +kernel
theorem dX0_isLikeOneLet_20 : decode cX0_isLikeOneLet 20 = .ok (.aload_n 0, 1) := by decide +kernel
theorem dX0_isLikeOneLet_21 : decode cX0_isLikeOneLet 21 = .ok (.iload_n 1, 1) := by decide +kernel
theorem dX0_isLikeOneLet_22 : decode cX0_isLikeOneLet 22 = .ok (.invokevirtual 53, 3) := by decide +kernel
theorem dX0_isLikeOneLet_25 : decode cX0_isLikeOneLet 25 = .ok (.if_icmp .ne 31, 3) := by decide +kernel
theorem dX0_isLikeOneLet_28 : decode cX0_isLikeOneLet 28 = .ok (.aload_n 0, 1) := by decide +kernel
theorem dX0_isLikeOneLet_29 : decode cX0_isLikeOneLet 29 = .ok (.iload_n 2, 1) := by decide +kernel
theorem dX0_isLikeOneLet_30 : decode cX0_isLikeOneLet 30 = .ok (.invokevirtual 56, 3) := by decide +kernel
theorem dX0_isLikeOneLet_33 : decode cX0_isLikeOneLet 33 = .ok (.aload_n 0, 1) := by decide +kernel
theorem dX0_isLikeOneLet_34 : decode cX0_isLikeOneLet 34 = .ok (.iload_n 1, 1) := by decide +kernel
theorem dX0_isLikeOneLet_35 : decode cX0_isLikeOneLet 35 = .ok (.invokevirtual 56, 3) := by decide +kernel
theorem dX0_isLikeOneLet_38 : decode cX0_isLikeOneLet 38 = .ok (.if_icmp .ne 18, 3) := by decide +kernel
theorem dX0_isLikeOneLet_41 : decode cX0_isLikeOneLet 41 = .ok (.aload_n 0, 1) := by decide +kernel
theorem dX0_isLikeOneLet_42 : decode cX0_isLikeOneLet 42 = .ok (.iload_n 2, 1) := by decide +kernel
theorem dX0_isLikeOneLet_43 : decode cX0_isLikeOneLet 43 = .ok (.invokevirtual 59, 3) := by decide +kernel
theorem dX0_isLikeOneLet_46 : decode cX0_isLikeOneLet 46 = .ok (.aload_n 0, 1) := by decide +kernel
theorem dX0_isLikeOneLet_47 : decode cX0_isLikeOneLet 47 = .ok (.iload_n 1, 1) := by decide +kernel
theorem dX0_isLikeOneLet_48 : decode cX0_isLikeOneLet 48 = .ok (.invokevirtual 59, 3) := by decide +kernel
theorem dX0_isLikeOneLet_51 : decode cX0_isLikeOneLet 51 = .ok (.if_icmp .ne 5, 3) := by decide +kernel
theorem dX0_isLikeOneLet_54 : decode cX0_isLikeOneLet 54 = .ok (.iconst 1, 1) := by decide +kernel
theorem dX0_isLikeOneLet_55 : decode cX0_isLikeOneLet 55 = .ok (.ireturn, 1) := by decide +kernel
theorem dX0_isLikeOneLet_56 : decode cX0_isLikeOneLet 56 = .ok (.iinc 2 1, 3) := by decide +kernel
theorem dX0_isLikeOneLet_59 : decode cX0_isLikeOneLet 59 = .ok (.goto (-57), 3) := by decide +kernel
theorem dX0_isLikeOneLet_62 : decode cX0_isLikeOneLet 62 = .ok (.iconst 0, 1) := by decide +kernel
theorem dX0_isLikeOneLet_63 : decode cX0_isLikeOneLet 63 = .ok (.ireturn, 1) := by decide +kernel
theorem dX0_marksFor_0 : decode cX0_marksFor 0 = .ok (.iload_n 0, 1) := by decide +kernel
theorem dX0_marksFor_1 : decode cX0_marksFor 1 = .ok (.tableswitch 41 0 4 #[35, 37, 39, 41, 39], 35) := by decide +kernel
theorem dX0_marksFor_36 : decode cX0_marksFor 36 = .ok (.iconst 0, 1) := by decide +kernel
theorem dX0_marksFor_37 : decode cX0_marksFor 37 = .ok (.ireturn, 1) := by decide +kernel
theorem dX0_marksFor_38 : decode cX0_marksFor 38 = .ok (.iconst 1, 1) := by decide +kernel
theorem dX0_marksFor_39 : decode cX0_marksFor 39 = .ok (.ireturn, 1) := by decide +kernel
theorem dX0_marksFor_40 : decode cX0_marksFor 40 = .ok (.iconst 2, 1) := by decide +kernel
theorem dX0_marksFor_41 : decode cX0_marksFor 41 = .ok (.ireturn, 1) := by decide +kernel
theorem dX0_marksFor_42 : decode cX0_marksFor 42 = .ok (.iconst 3, 1) := by decide +kernel
theorem dX0_marksFor_43 : decode cX0_marksFor 43 = .ok (.ireturn, 1) := by decide +kernel
theorem dX0_widthIn_0 : decode cX0_widthIn 0 = .ok (.iload_n 1, 1) := by decide +kernel
theorem dX0_widthIn_1 : decode cX0_widthIn 1 = .ok (.tableswitch 45 0 4 #[35, 40, 35, 45, 40], 35) := by decide +kernel
theorem dX0_widthIn_36 : decode cX0_widthIn 36 = .ok (.aload_n 0, 1) := by decide +kernel
theorem dX0_widthIn_37 : decode cX0_widthIn 37 = .ok (.getfield 21, 3) := by decide +kernel
theorem dX0_widthIn_40 : decode cX0_widthIn 40 = .ok (.ireturn, 1) := by decide +kernel
theorem dX0_widthIn_41 : decode cX0_widthIn 41 = .ok (.aload_n 0, 1) := by decide +kernel
theorem dX0_widthIn_42 : decode cX0_widthIn 42 = .ok (.getfield 24, 3) := by decide +kernel
theorem dX0_widthIn_45 : decode cX0_widthIn 45 = .ok (.ireturn, 1) := by decide +kernel
theorem dX0_widthIn_46 : decode cX0_widthIn 46 = .ok (.aload_n 0, 1) := by decide +kernel
theorem dX0_widthIn_47 : decode cX0_widthIn 47 = .ok (.getfield 27, 3) := by decide +kernel
theorem dX0_widthIn_50 : decode cX0_widthIn 50 = .ok (.ireturn, 1) := by decide +kernel
theorem dX0_depthIn_0 : decode cX0_depthIn 0 = .ok (.iload_n 1, 1) := by decide +kernel
theorem dX0_depthIn_1 : decode cX0_depthIn 1 = .ok (.tableswitch 49 0 5 #[44, 39, 49, 39, 49, 44], 39) := by decide +kernel
theorem dX0_depthIn_40 : decode cX0_depthIn 40 = .ok (.aload_n 0, 1) := by decide +kernel
theorem dX0_depthIn_41 : decode cX0_depthIn 41 = .ok (.getfield 21, 3) := by decide +kernel
theorem dX0_depthIn_44 : decode cX0_depthIn 44 = .ok (.ireturn, 1) := by decide +kernel
theorem dX0_depthIn_45 : decode cX0_depthIn 45 = .ok (.aload_n 0, 1) := by decide +kernel
theorem dX0_depthIn_46 : decode cX0_depthIn 46 = .ok (.getfield 24, 3) := by decide +kernel
theorem dX0_depthIn_49 : decode cX0_depthIn 49 = .ok (.ireturn, 1) := by decide +kernel
theorem dX0_depthIn_50 : decode cX0_depthIn 50 = .ok (.aload_n 0, 1) := by decide +kernel
theorem dX0_depthIn_51 : decode cX0_depthIn 51 = .ok (.getfield 27, 3) := by decide +kernel
theorem dX0_depthIn_54 : decode cX0_depthIn 54 = .ok (.ireturn, 1) := by decide +kernel
theorem dX0_heightIn_0 : decode cX0_heightIn 0 = .ok (.iload_n 1, 1) := by decide +kernel
theorem dX0_heightIn_1 : decode cX0_heightIn 1 = .ok (.tableswitch 41 2 5 #[36, 36, 31, 31], 31) := by decide +kernel
theorem dX0_heightIn_32 : decode cX0_heightIn 32 = .ok (.aload_n 0, 1) := by decide +kernel
theorem dX0_heightIn_33 : decode cX0_heightIn 33 = .ok (.getfield 21, 3) := by decide +kernel
theorem dX0_heightIn_36 : decode cX0_heightIn 36 = .ok (.ireturn, 1) := by decide +kernel
theorem dX0_heightIn_37 : decode cX0_heightIn 37 = .ok (.aload_n 0, 1) := by decide +kernel
theorem dX0_heightIn_38 : decode cX0_heightIn 38 = .ok (.getfield 24, 3) := by decide +kernel
theorem dX0_heightIn_41 : decode cX0_heightIn 41 = .ok (.ireturn, 1) := by decide +kernel
theorem dX0_heightIn_42 : decode cX0_heightIn 42 = .ok (.aload_n 0, 1) := by decide +kernel
theorem dX0_heightIn_43 : decode cX0_heightIn 43 = .ok (.getfield 27, 3) := by decide +kernel
theorem dX0_heightIn_46 : decode cX0_heightIn 46 = .ok (.ireturn, 1) := by decide +kernel
theorem dX2_init_0 : decode cX2_init 0 = .ok (.aload_n 0, 1) := by decide +kernel
theorem dX2_init_1 : decode cX2_init 1 = .ok (.invokespecial 3, 3) := by decide +kernel
theorem dX2_init_4 : decode cX2_init 4 = .ok (.return_, 1) := by decide +kernel
theorem dX2_stand_0 : decode cX2_stand 0 = .ok (.aload_n 0, 1) := by decide +kernel
theorem dX2_stand_1 : decode cX2_stand 1 = .ok (.iconst 1, 1) := by decide +kernel
theorem dX2_stand_2 : decode cX2_stand 2 = .ok (.putfield 9, 3) := by decide +kernel
theorem dX2_stand_5 : decode cX2_stand 5 = .ok (.aload_n 0, 1) := by decide +kernel
theorem dX2_stand_6 : decode cX2_stand 6 = .ok (.iload_n 3, 1) := by decide +kernel
theorem dX2_stand_7 : decode cX2_stand 7 = .ok (.putfield 15, 3) := by decide +kernel
theorem dX2_stand_10 : decode cX2_stand 10 = .ok (.aload_n 0, 1) := by decide +kernel
theorem dX2_stand_11 : decode cX2_stand 11 = .ok (.iload 4, 2) := by decide +kernel
theorem dX2_stand_13 : decode cX2_stand 13 = .ok (.putfield 19, 3) := by decide +kernel
theorem dX2_stand_16 : decode cX2_stand 16 = .ok (.aload_n 0, 1) := by decide +kernel
theorem dX2_stand_17 : decode cX2_stand 17 = .ok (.iload 5, 2) := by decide +kernel
theorem dX2_stand_19 : decode cX2_stand 19 = .ok (.putfield 22, 3) := by decide +kernel
theorem dX2_stand_22 : decode cX2_stand 22 = .ok (.aload_n 0, 1) := by decide +kernel
theorem dX2_stand_23 : decode cX2_stand 23 = .ok (.aload_n 1, 1) := by decide +kernel
theorem dX2_stand_24 : decode cX2_stand 24 = .ok (.iload_n 2, 1) := by decide +kernel
theorem dX2_stand_25 : decode cX2_stand 25 = .ok (.invokevirtual 25, 3) := by decide +kernel
theorem dX2_stand_28 : decode cX2_stand 28 = .ok (.putfield 31, 3) := by decide +kernel
theorem dX2_stand_31 : decode cX2_stand 31 = .ok (.aload_n 0, 1) := by decide +kernel
theorem dX2_stand_32 : decode cX2_stand 32 = .ok (.aload_n 1, 1) := by decide +kernel
theorem dX2_stand_33 : decode cX2_stand 33 = .ok (.iload_n 2, 1) := by decide +kernel
theorem dX2_stand_34 : decode cX2_stand 34 = .ok (.invokevirtual 34, 3) := by decide +kernel
theorem dX2_stand_37 : decode cX2_stand 37 = .ok (.putfield 37, 3) := by decide +kernel
theorem dX2_stand_40 : decode cX2_stand 40 = .ok (.aload_n 0, 1) := by decide +kernel
theorem dX2_stand_41 : decode cX2_stand 41 = .ok (.aload_n 1, 1) := by decide +kernel
theorem dX2_stand_42 : decode cX2_stand 42 = .ok (.iload_n 2, 1) := by decide +kernel
theorem dX2_stand_43 : decode cX2_stand 43 = .ok (.invokevirtual 40, 3) := by decide +kernel
theorem dX2_stand_46 : decode cX2_stand 46 = .ok (.putfield 43, 3) := by decide +kernel
theorem dX2_stand_49 : decode cX2_stand 49 = .ok (.aload_n 0, 1) := by decide +kernel
theorem dX2_stand_50 : decode cX2_stand 50 = .ok (.iload_n 2, 1) := by decide +kernel
theorem dX2_stand_51 : decode cX2_stand 51 = .ok (.putfield 46, 3) := by decide +kernel
theorem dX2_stand_54 : decode cX2_stand 54 = .ok (.aload_n 0, 1) := by decide +kernel
theorem dX2_stand_55 : decode cX2_stand 55 = .ok (.aload_n 1, 1) := by decide +kernel
theorem dX2_stand_56 : decode cX2_stand 56 = .ok (.getfield 49, 3) := by decide +kernel
theorem dX2_stand_59 : decode cX2_stand 59 = .ok (.putfield 52, 3) := by decide +kernel
theorem dX2_stand_62 : decode cX2_stand 62 = .ok (.aload_n 0, 1) := by decide +kernel
theorem dX2_stand_63 : decode cX2_stand 63 = .ok (.aload_n 1, 1) := by decide +kernel
theorem dX2_stand_64 : decode cX2_stand 64 = .ok (.getfield 53, 3) := by decide +kernel
theorem dX2_stand_67 : decode cX2_stand 67 = .ok (.putfield 56, 3) := by decide +kernel
theorem dX2_stand_70 : decode cX2_stand 70 = .ok (.return_, 1) := by decide +kernel
theorem dX2_leave_0 : decode cX2_leave 0 = .ok (.aload_n 0, 1) := by decide +kernel
theorem dX2_leave_1 : decode cX2_leave 1 = .ok (.iconst 0, 1) := by decide +kernel
theorem dX2_leave_2 : decode cX2_leave 2 = .ok (.putfield 9, 3) := by decide +kernel
theorem dX2_leave_5 : decode cX2_leave 5 = .ok (.return_, 1) := by decide +kernel
theorem dX2_copyFrom_0 : decode cX2_copyFrom 0 = .ok (.aload_n 0, 1) := by decide +kernel
theorem dX2_copyFrom_1 : decode cX2_copyFrom 1 = .ok (.aload_n 1, 1) := by decide +kernel
theorem dX2_copyFrom_2 : decode cX2_copyFrom 2 = .ok (.getfield 9, 3) := by decide +kernel
theorem dX2_copyFrom_5 : decode cX2_copyFrom 5 = .ok (.putfield 9, 3) := by decide +kernel
theorem dX2_copyFrom_8 : decode cX2_copyFrom 8 = .ok (.aload_n 0, 1) := by decide +kernel
theorem dX2_copyFrom_9 : decode cX2_copyFrom 9 = .ok (.aload_n 1, 1) := by decide +kernel
theorem dX2_copyFrom_10 : decode cX2_copyFrom 10 = .ok (.getfield 15, 3) := by decide +kernel
theorem dX2_copyFrom_13 : decode cX2_copyFrom 13 = .ok (.putfield 15, 3) := by decide +kernel
theorem dX2_copyFrom_16 : decode cX2_copyFrom 16 = .ok (.aload_n 0, 1) := by decide +kernel
theorem dX2_copyFrom_17 : decode cX2_copyFrom 17 = .ok (.aload_n 1, 1) := by decide +kernel
theorem dX2_copyFrom_18 : decode cX2_copyFrom 18 = .ok (.getfield 19, 3) := by decide +kernel
theorem dX2_copyFrom_21 : decode cX2_copyFrom 21 = .ok (.putfield 19, 3) := by decide +kernel
theorem dX2_copyFrom_24 : decode cX2_copyFrom 24 = .ok (.aload_n 0, 1) := by decide +kernel
theorem dX2_copyFrom_25 : decode cX2_copyFrom 25 = .ok (.aload_n 1, 1) := by decide +kernel
theorem dX2_copyFrom_26 : decode cX2_copyFrom 26 = .ok (.getfield 22, 3) := by decide +kernel
theorem dX2_copyFrom_29 : decode cX2_copyFrom 29 = .ok (.putfield 22, 3) := by decide +kernel
theorem dX2_copyFrom_32 : decode cX2_copyFrom 32 = .ok (.aload_n 0, 1) := by decide +kernel
theorem dX2_copyFrom_33 : decode cX2_copyFrom 33 = .ok (.aload_n 1, 1) := by decide +kernel
theorem dX2_copyFrom_34 : decode cX2_copyFrom 34 = .ok (.getfield 31, 3) := by decide +kernel
theorem dX2_copyFrom_37 : decode cX2_copyFrom 37 = .ok (.putfield 31, 3) := by decide +kernel
theorem dX2_copyFrom_40 : decode cX2_copyFrom 40 = .ok (.aload_n 0, 1) := by decide +kernel
theorem dX2_copyFrom_41 : decode cX2_copyFrom 41 = .ok (.aload_n 1, 1) := by decide +kernel
theorem dX2_copyFrom_42 : decode cX2_copyFrom 42 = .ok (.getfield 37, 3) := by decide +kernel
theorem dX2_copyFrom_45 : decode cX2_copyFrom 45 = .ok (.putfield 37, 3) := by decide +kernel
theorem dX2_copyFrom_48 : decode cX2_copyFrom 48 = .ok (.aload_n 0, 1) := by decide +kernel
theorem dX2_copyFrom_49 : decode cX2_copyFrom 49 = .ok (.aload_n 1, 1) := by decide +kernel
theorem dX2_copyFrom_50 : decode cX2_copyFrom 50 = .ok (.getfield 43, 3) := by decide +kernel
theorem dX2_copyFrom_53 : decode cX2_copyFrom 53 = .ok (.putfield 43, 3) := by decide +kernel
theorem dX2_copyFrom_56 : decode cX2_copyFrom 56 = .ok (.aload_n 0, 1) := by decide +kernel
theorem dX2_copyFrom_57 : decode cX2_copyFrom 57 = .ok (.aload_n 1, 1) := by decide +kernel
theorem dX2_copyFrom_58 : decode cX2_copyFrom 58 = .ok (.getfield 46, 3) := by decide +kernel
theorem dX2_copyFrom_61 : decode cX2_copyFrom 61 = .ok (.putfield 46, 3) := by decide +kernel
theorem dX2_copyFrom_64 : decode cX2_copyFrom 64 = .ok (.aload_n 0, 1) := by decide +kernel
theorem dX2_copyFrom_65 : decode cX2_copyFrom 65 = .ok (.aload_n 1, 1) := by decide +kernel
theorem dX2_copyFrom_66 : decode cX2_copyFrom 66 = .ok (.getfield 52, 3) := by decide +kernel
theorem dX2_copyFrom_69 : decode cX2_copyFrom 69 = .ok (.putfield 52, 3) := by decide +kernel
theorem dX2_copyFrom_72 : decode cX2_copyFrom 72 = .ok (.aload_n 0, 1) := by decide +kernel
theorem dX2_copyFrom_73 : decode cX2_copyFrom 73 = .ok (.aload_n 1, 1) := by decide +kernel
theorem dX2_copyFrom_74 : decode cX2_copyFrom 74 = .ok (.getfield 56, 3) := by decide +kernel
theorem dX2_copyFrom_77 : decode cX2_copyFrom 77 = .ok (.putfield 56, 3) := by decide +kernel
theorem dX2_copyFrom_80 : decode cX2_copyFrom 80 = .ok (.return_, 1) := by decide +kernel
theorem dX2_detail_0 : decode cX2_detail 0 = .ok (.iload_n 1, 1) := by decide +kernel
theorem dX2_detail_1 : decode cX2_detail 1 = .ok (.tableswitch 69 0 5 #[39, 44, 49, 54, 59, 64], 39) := by decide +kernel
theorem dX2_detail_40 : decode cX2_detail 40 = .ok (.aload_n 0, 1) := by decide +kernel
theorem dX2_detail_41 : decode cX2_detail 41 = .ok (.getfield 15, 3) := by decide +kernel
theorem dX2_detail_44 : decode cX2_detail 44 = .ok (.ireturn, 1) := by decide +kernel
theorem dX2_detail_45 : decode cX2_detail 45 = .ok (.aload_n 0, 1) := by decide +kernel
theorem dX2_detail_46 : decode cX2_detail 46 = .ok (.getfield 19, 3) := by decide +kernel
theorem dX2_detail_49 : decode cX2_detail 49 = .ok (.ireturn, 1) := by decide +kernel
theorem dX2_detail_50 : decode cX2_detail 50 = .ok (.aload_n 0, 1) := by decide +kernel
theorem dX2_detail_51 : decode cX2_detail 51 = .ok (.getfield 22, 3) := by decide +kernel
theorem dX2_detail_54 : decode cX2_detail 54 = .ok (.ireturn, 1) := by decide +kernel
theorem dX2_detail_55 : decode cX2_detail 55 = .ok (.aload_n 0, 1) := by decide +kernel
theorem dX2_detail_56 : decode cX2_detail 56 = .ok (.getfield 31, 3) := by decide +kernel
theorem dX2_detail_59 : decode cX2_detail 59 = .ok (.ireturn, 1) := by decide +kernel
theorem dX2_detail_60 : decode cX2_detail 60 = .ok (.aload_n 0, 1) := by decide +kernel
theorem dX2_detail_61 : decode cX2_detail 61 = .ok (.getfield 37, 3) := by decide +kernel
theorem dX2_detail_64 : decode cX2_detail 64 = .ok (.ireturn, 1) := by decide +kernel
theorem dX2_detail_65 : decode cX2_detail 65 = .ok (.aload_n 0, 1) := by decide +kernel
theorem dX2_detail_66 : decode cX2_detail 66 = .ok (.getfield 43, 3) := by decide +kernel
theorem dX2_detail_69 : decode cX2_detail 69 = .ok (.ireturn, 1) := by decide +kernel
theorem dX2_detail_70 : decode cX2_detail 70 = .ok (.aload_n 0, 1) := by decide +kernel
theorem dX2_detail_71 : decode cX2_detail 71 = .ok (.getfield 46, 3) := by decide +kernel
theorem dX2_detail_74 : decode cX2_detail 74 = .ok (.ireturn, 1) := by decide +kernel
theorem dX2_endAlong_0 : decode cX2_endAlong 0 = .ok (.iload_n 1, 1) := by decide +kernel
theorem dX2_endAlong_1 : decode cX2_endAlong 1 = .ok (.lookupswitch 47 #[(0, 27), (1, 37)], 27) := by decide +kernel
theorem dX2_endAlong_28 : decode cX2_endAlong 28 = .ok (.aload_n 0, 1) := by decide +kernel
theorem dX2_endAlong_29 : decode cX2_endAlong 29 = .ok (.getfield 15, 3) := by decide +kernel
theorem dX2_endAlong_32 : decode cX2_endAlong 32 = .ok (.aload_n 0, 1) := by decide +kernel
theorem dX2_endAlong_33 : decode cX2_endAlong 33 = .ok (.getfield 31, 3) := by decide +kernel
theorem dX2_endAlong_36 : decode cX2_endAlong 36 = .ok (.iadd, 1) := by decide +kernel
theorem dX2_endAlong_37 : decode cX2_endAlong 37 = .ok (.ireturn, 1) := by decide +kernel
theorem dX2_endAlong_38 : decode cX2_endAlong 38 = .ok (.aload_n 0, 1) := by decide +kernel
theorem dX2_endAlong_39 : decode cX2_endAlong 39 = .ok (.getfield 19, 3) := by decide +kernel
theorem dX2_endAlong_42 : decode cX2_endAlong 42 = .ok (.aload_n 0, 1) := by decide +kernel
theorem dX2_endAlong_43 : decode cX2_endAlong 43 = .ok (.getfield 37, 3) := by decide +kernel
theorem dX2_endAlong_46 : decode cX2_endAlong 46 = .ok (.iadd, 1) := by decide +kernel
theorem dX2_endAlong_47 : decode cX2_endAlong 47 = .ok (.ireturn, 1) := by decide +kernel
theorem dX2_endAlong_48 : decode cX2_endAlong 48 = .ok (.aload_n 0, 1) := by decide +kernel
theorem dX2_endAlong_49 : decode cX2_endAlong 49 = .ok (.getfield 22, 3) := by decide +kernel
theorem dX2_endAlong_52 : decode cX2_endAlong 52 = .ok (.aload_n 0, 1) := by decide +kernel
theorem dX2_endAlong_53 : decode cX2_endAlong 53 = .ok (.getfield 43, 3) := by decide +kernel
theorem dX2_endAlong_56 : decode cX2_endAlong 56 = .ok (.iadd, 1) := by decide +kernel
theorem dX2_endAlong_57 : decode cX2_endAlong 57 = .ok (.ireturn, 1) := by decide +kernel
theorem dX2_area_0 : decode cX2_area 0 = .ok (.aload_n 0, 1) := by decide +kernel
theorem dX2_area_1 : decode cX2_area 1 = .ok (.getfield 9, 3) := by decide +kernel
theorem dX2_area_4 : decode cX2_area 4 = .ok (.ifCond .eq 15, 3) := by decide +kernel
theorem dX2_area_7 : decode cX2_area 7 = .ok (.aload_n 0, 1) := by decide +kernel
theorem dX2_area_8 : decode cX2_area 8 = .ok (.getfield 31, 3) := by decide +kernel
theorem dX2_area_11 : decode cX2_area 11 = .ok (.aload_n 0, 1) := by decide +kernel
theorem dX2_area_12 : decode cX2_area 12 = .ok (.getfield 37, 3) := by decide +kernel
theorem dX2_area_15 : decode cX2_area 15 = .ok (.imul, 1) := by decide +kernel
theorem dX2_area_16 : decode cX2_area 16 = .ok (.goto 4, 3) := by decide +kernel
theorem dX2_area_19 : decode cX2_area 19 = .ok (.iconst 0, 1) := by decide +kernel
theorem dX2_area_20 : decode cX2_area 20 = .ok (.ireturn, 1) := by decide +kernel
theorem dX2_volume_0 : decode cX2_volume 0 = .ok (.aload_n 0, 1) := by decide +kernel
theorem dX2_volume_1 : decode cX2_volume 1 = .ok (.invokevirtual 57, 3) := by decide +kernel
theorem dX2_volume_4 : decode cX2_volume 4 = .ok (.aload_n 0, 1) := by decide +kernel
theorem dX2_volume_5 : decode cX2_volume 5 = .ok (.getfield 43, 3) := by decide +kernel
theorem dX2_volume_8 : decode cX2_volume 8 = .ok (.imul, 1) := by decide +kernel
theorem dX2_volume_9 : decode cX2_volume 9 = .ok (.ireturn, 1) := by decide +kernel
theorem dX2_covers_0 : decode cX2_covers 0 = .ok (.aload_n 0, 1) := by decide +kernel
theorem dX2_covers_1 : decode cX2_covers 1 = .ok (.getfield 15, 3) := by decide +kernel
theorem dX2_covers_4 : decode cX2_covers 4 = .ok (.iload_n 1, 1) := by decide +kernel
theorem dX2_covers_5 : decode cX2_covers 5 = .ok (.if_icmp .gt 62, 3) := by decide +kernel
theorem dX2_covers_8 : decode cX2_covers 8 = .ok (.iload_n 1, 1) := by decide +kernel
theorem dX2_covers_9 : decode cX2_covers 9 = .ok (.aload_n 0, 1) := by decide +kernel
theorem dX2_covers_10 : decode cX2_covers 10 = .ok (.getfield 15, 3) := by decide +kernel
theorem dX2_covers_13 : decode cX2_covers 13 = .ok (.aload_n 0, 1) := by decide +kernel
theorem dX2_covers_14 : decode cX2_covers 14 = .ok (.getfield 31, 3) := by decide +kernel
theorem dX2_covers_17 : decode cX2_covers 17 = .ok (.iadd, 1) := by decide +kernel
theorem dX2_covers_18 : decode cX2_covers 18 = .ok (.if_icmp .ge 49, 3) := by decide +kernel
theorem dX2_covers_21 : decode cX2_covers 21 = .ok (.aload_n 0, 1) := by decide +kernel
theorem dX2_covers_22 : decode cX2_covers 22 = .ok (.getfield 19, 3) := by decide +kernel
theorem dX2_covers_25 : decode cX2_covers 25 = .ok (.iload_n 2, 1) := by decide +kernel
theorem dX2_covers_26 : decode cX2_covers 26 = .ok (.if_icmp .gt 41, 3) := by decide +kernel
theorem dX2_covers_29 : decode cX2_covers 29 = .ok (.iload_n 2, 1) := by decide +kernel
theorem dX2_covers_30 : decode cX2_covers 30 = .ok (.aload_n 0, 1) := by decide +kernel
theorem dX2_covers_31 : decode cX2_covers 31 = .ok (.getfield 19, 3) := by decide +kernel
theorem dX2_covers_34 : decode cX2_covers 34 = .ok (.aload_n 0, 1) := by decide +kernel
theorem dX2_covers_35 : decode cX2_covers 35 = .ok (.getfield 37, 3) := by decide +kernel
theorem dX2_covers_38 : decode cX2_covers 38 = .ok (.iadd, 1) := by decide +kernel
theorem dX2_covers_39 : decode cX2_covers 39 = .ok (.if_icmp .ge 28, 3) := by decide +kernel
theorem dX2_covers_42 : decode cX2_covers 42 = .ok (.aload_n 0, 1) := by decide +kernel
theorem dX2_covers_43 : decode cX2_covers 43 = .ok (.getfield 22, 3) := by decide +kernel
theorem dX2_covers_46 : decode cX2_covers 46 = .ok (.iload_n 3, 1) := by decide +kernel
theorem dX2_covers_47 : decode cX2_covers 47 = .ok (.if_icmp .gt 20, 3) := by decide +kernel
theorem dX2_covers_50 : decode cX2_covers 50 = .ok (.iload_n 3, 1) := by decide +kernel
theorem dX2_covers_51 : decode cX2_covers 51 = .ok (.aload_n 0, 1) := by decide +kernel
theorem dX2_covers_52 : decode cX2_covers 52 = .ok (.getfield 22, 3) := by decide +kernel
theorem dX2_covers_55 : decode cX2_covers 55 = .ok (.aload_n 0, 1) := by decide +kernel
theorem dX2_covers_56 : decode cX2_covers 56 = .ok (.getfield 43, 3) := by decide +kernel
theorem dX2_covers_59 : decode cX2_covers 59 = .ok (.iadd, 1) := by decide +kernel
theorem dX2_covers_60 : decode cX2_covers 60 = .ok (.if_icmp .ge 7, 3) := by decide +kernel
theorem dX2_covers_63 : decode cX2_covers 63 = .ok (.iconst 1, 1) := by decide +kernel
theorem dX2_covers_64 : decode cX2_covers 64 = .ok (.goto 4, 3) := by decide +kernel
theorem dX2_covers_67 : decode cX2_covers 67 = .ok (.iconst 0, 1) := by decide +kernel
theorem dX2_covers_68 : decode cX2_covers 68 = .ok (.ireturn, 1) := by decide +kernel
theorem dX2_meetsFromAbove_0 : decode cX2_meetsFromAbove 0 = .ok (.aload_n 0, 1) := by decide +kernel
theorem dX2_meetsFromAbove_1 : decode cX2_meetsFromAbove 1 = .ok (.getfield 15, 3) := by decide +kernel
theorem dX2_meetsFromAbove_4 : decode cX2_meetsFromAbove 4 = .ok (.aload_n 1, 1) := by decide +kernel
theorem dX2_meetsFromAbove_5 : decode cX2_meetsFromAbove 5 = .ok (.getfield 15, 3) := by decide +kernel
theorem dX2_meetsFromAbove_8 : decode cX2_meetsFromAbove 8 = .ok (.aload_n 1, 1) := by decide +kernel
theorem dX2_meetsFromAbove_9 : decode cX2_meetsFromAbove 9 = .ok (.getfield 31, 3) := by decide +kernel
theorem dX2_meetsFromAbove_12 : decode cX2_meetsFromAbove 12 = .ok (.iadd, 1) := by decide +kernel
theorem dX2_meetsFromAbove_13 : decode cX2_meetsFromAbove 13 = .ok (.if_icmp .ge 55, 3) := by decide +kernel
theorem dX2_meetsFromAbove_16 : decode cX2_meetsFromAbove 16 = .ok (.aload_n 1, 1) := by decide +kernel
theorem dX2_meetsFromAbove_17 : decode cX2_meetsFromAbove 17 = .ok (.getfield 15, 3) := by decide +kernel
theorem dX2_meetsFromAbove_20 : decode cX2_meetsFromAbove 20 = .ok (.aload_n 0, 1) := by decide +kernel
theorem dX2_meetsFromAbove_21 : decode cX2_meetsFromAbove 21 = .ok (.getfield 15, 3) := by decide +kernel
theorem dX2_meetsFromAbove_24 : decode cX2_meetsFromAbove 24 = .ok (.aload_n 0, 1) := by decide +kernel
theorem dX2_meetsFromAbove_25 : decode cX2_meetsFromAbove 25 = .ok (.getfield 31, 3) := by decide +kernel
theorem dX2_meetsFromAbove_28 : decode cX2_meetsFromAbove 28 = .ok (.iadd, 1) := by decide +kernel
theorem dX2_meetsFromAbove_29 : decode cX2_meetsFromAbove 29 = .ok (.if_icmp .ge 39, 3) := by decide +kernel
theorem dX2_meetsFromAbove_32 : decode cX2_meetsFromAbove 32 = .ok (.aload_n 0, 1) := by decide +kernel
theorem dX2_meetsFromAbove_33 : decode cX2_meetsFromAbove 33 = .ok (.getfield 19, 3) := by decide +kernel
theorem dX2_meetsFromAbove_36 : decode cX2_meetsFromAbove 36 = .ok (.aload_n 1, 1) := by decide +kernel
theorem dX2_meetsFromAbove_37 : decode cX2_meetsFromAbove 37 = .ok (.getfield 19, 3) := by decide +kernel
theorem dX2_meetsFromAbove_40 : decode cX2_meetsFromAbove 40 = .ok (.aload_n 1, 1) := by decide +kernel
theorem dX2_meetsFromAbove_41 : decode cX2_meetsFromAbove 41 = .ok (.getfield 37, 3) := by decide +kernel
theorem dX2_meetsFromAbove_44 : decode cX2_meetsFromAbove 44 = .ok (.iadd, 1) := by decide +kernel
theorem dX2_meetsFromAbove_45 : decode cX2_meetsFromAbove 45 = .ok (.if_icmp .ge 23, 3) := by decide +kernel
theorem dX2_meetsFromAbove_48 : decode cX2_meetsFromAbove 48 = .ok (.aload_n 1, 1) := by decide +kernel
theorem dX2_meetsFromAbove_49 : decode cX2_meetsFromAbove 49 = .ok (.getfield 19, 3) := by decide +kernel
theorem dX2_meetsFromAbove_52 : decode cX2_meetsFromAbove 52 = .ok (.aload_n 0, 1) := by decide +kernel
theorem dX2_meetsFromAbove_53 : decode cX2_meetsFromAbove 53 = .ok (.getfield 19, 3) := by decide +kernel
theorem dX2_meetsFromAbove_56 : decode cX2_meetsFromAbove 56 = .ok (.aload_n 0, 1) := by decide +kernel
theorem dX2_meetsFromAbove_57 : decode cX2_meetsFromAbove 57 = .ok (.getfield 37, 3) := by decide +kernel
theorem dX2_meetsFromAbove_60 : decode cX2_meetsFromAbove 60 = .ok (.iadd, 1) := by decide +kernel
theorem dX2_meetsFromAbove_61 : decode cX2_meetsFromAbove 61 = .ok (.if_icmp .ge 7, 3) := by decide +kernel
theorem dX2_meetsFromAbove_64 : decode cX2_meetsFromAbove 64 = .ok (.iconst 1, 1) := by decide +kernel
theorem dX2_meetsFromAbove_65 : decode cX2_meetsFromAbove 65 = .ok (.goto 4, 3) := by decide +kernel
theorem dX2_meetsFromAbove_68 : decode cX2_meetsFromAbove 68 = .ok (.iconst 0, 1) := by decide +kernel
theorem dX2_meetsFromAbove_69 : decode cX2_meetsFromAbove 69 = .ok (.ireturn, 1) := by decide +kernel
theorem dX2_meets_0 : decode cX2_meets 0 = .ok (.aload_n 0, 1) := by decide +kernel
theorem dX2_meets_1 : decode cX2_meets 1 = .ok (.aload_n 1, 1) := by decide +kernel
theorem dX2_meets_2 : decode cX2_meets 2 = .ok (.invokevirtual 61, 3) := by decide +kernel
theorem dX2_meets_5 : decode cX2_meets 5 = .ok (.ifCond .eq 39, 3) := by decide +kernel
theorem dX2_meets_8 : decode cX2_meets 8 = .ok (.aload_n 0, 1) := by decide +kernel
theorem dX2_meets_9 : decode cX2_meets 9 = .ok (.getfield 22, 3) := by decide +kernel
theorem dX2_meets_12 : decode cX2_meets 12 = .ok (.aload_n 1, 1) := by decide +kernel
theorem dX2_meets_13 : decode cX2_meets 13 = .ok (.getfield 22, 3) := by decide +kernel
theorem dX2_meets_16 : decode cX2_meets 16 = .ok (.aload_n 1, 1) := by decide +kernel
theorem dX2_meets_17 : decode cX2_meets 17 = .ok (.getfield 43, 3) := by decide +kernel
theorem dX2_meets_20 : decode cX2_meets 20 = .ok (.iadd, 1) := by decide +kernel
theorem dX2_meets_21 : decode cX2_meets 21 = .ok (.if_icmp .ge 23, 3) := by decide +kernel
theorem dX2_meets_24 : decode cX2_meets 24 = .ok (.aload_n 1, 1) := by decide +kernel
theorem dX2_meets_25 : decode cX2_meets 25 = .ok (.getfield 22, 3) := by decide +kernel
theorem dX2_meets_28 : decode cX2_meets 28 = .ok (.aload_n 0, 1) := by decide +kernel
theorem dX2_meets_29 : decode cX2_meets 29 = .ok (.getfield 22, 3) := by decide +kernel
theorem dX2_meets_32 : decode cX2_meets 32 = .ok (.aload_n 0, 1) := by decide +kernel
theorem dX2_meets_33 : decode cX2_meets 33 = .ok (.getfield 43, 3) := by decide +kernel
theorem dX2_meets_36 : decode cX2_meets 36 = .ok (.iadd, 1) := by decide +kernel
theorem dX2_meets_37 : decode cX2_meets 37 = .ok (.if_icmp .ge 7, 3) := by decide +kernel
theorem dX2_meets_40 : decode cX2_meets 40 = .ok (.iconst 1, 1) := by decide +kernel
theorem dX2_meets_41 : decode cX2_meets 41 = .ok (.goto 4, 3) := by decide +kernel
theorem dX2_meets_44 : decode cX2_meets 44 = .ok (.iconst 0, 1) := by decide +kernel
theorem dX2_meets_45 : decode cX2_meets 45 = .ok (.ireturn, 1) := by decide +kernel
theorem dX2_standsOn_0 : decode cX2_standsOn 0 = .ok (.aload_n 0, 1) := by decide +kernel
theorem dX2_standsOn_1 : decode cX2_standsOn 1 = .ok (.getfield 22, 3) := by decide +kernel
theorem dX2_standsOn_4 : decode cX2_standsOn 4 = .ok (.aload_n 1, 1) := by decide +kernel
theorem dX2_standsOn_5 : decode cX2_standsOn 5 = .ok (.getfield 22, 3) := by decide +kernel
theorem dX2_standsOn_8 : decode cX2_standsOn 8 = .ok (.aload_n 1, 1) := by decide +kernel
theorem dX2_standsOn_9 : decode cX2_standsOn 9 = .ok (.getfield 43, 3) := by decide +kernel
theorem dX2_standsOn_12 : decode cX2_standsOn 12 = .ok (.iadd, 1) := by decide +kernel
theorem dX2_standsOn_13 : decode cX2_standsOn 13 = .ok (.if_icmp .ne 15, 3) := by decide +kernel
theorem dX2_standsOn_16 : decode cX2_standsOn 16 = .ok (.aload_n 0, 1) := by decide +kernel
theorem dX2_standsOn_17 : decode cX2_standsOn 17 = .ok (.aload_n 1, 1) := by decide +kernel
theorem dX2_standsOn_18 : decode cX2_standsOn 18 = .ok (.invokevirtual 61, 3) := by decide +kernel
theorem dX2_standsOn_21 : decode cX2_standsOn 21 = .ok (.ifCond .eq 7, 3) := by decide +kernel
theorem dX2_standsOn_24 : decode cX2_standsOn 24 = .ok (.iconst 1, 1) := by decide +kernel
theorem dX2_standsOn_25 : decode cX2_standsOn 25 = .ok (.goto 4, 3) := by decide +kernel
theorem dX2_standsOn_28 : decode cX2_standsOn 28 = .ok (.iconst 0, 1) := by decide +kernel
theorem dX2_standsOn_29 : decode cX2_standsOn 29 = .ok (.ireturn, 1) := by decide +kernel
theorem dX2_commonArea_0 : decode cX2_commonArea 0 = .ok (.aload_n 0, 1) := by decide +kernel
theorem dX2_commonArea_1 : decode cX2_commonArea 1 = .ok (.getfield 15, 3) := by decide +kernel
theorem dX2_commonArea_4 : decode cX2_commonArea 4 = .ok (.aload_n 0, 1) := by decide +kernel
theorem dX2_commonArea_5 : decode cX2_commonArea 5 = .ok (.getfield 31, 3) := by decide +kernel
theorem dX2_commonArea_8 : decode cX2_commonArea 8 = .ok (.iadd, 1) := by decide +kernel
theorem dX2_commonArea_9 : decode cX2_commonArea 9 = .ok (.aload_n 1, 1) := by decide +kernel
theorem dX2_commonArea_10 : decode cX2_commonArea 10 = .ok (.getfield 15, 3) := by decide +kernel
theorem dX2_commonArea_13 : decode cX2_commonArea 13 = .ok (.aload_n 1, 1) := by decide +kernel
theorem dX2_commonArea_14 : decode cX2_commonArea 14 = .ok (.getfield 31, 3) := by decide +kernel
theorem dX2_commonArea_17 : decode cX2_commonArea 17 = .ok (.iadd, 1) := by decide +kernel
theorem dX2_commonArea_18 : decode cX2_commonArea 18 = .ok (.invokestatic 65, 3) := by decide +kernel
theorem dX2_commonArea_21 : decode cX2_commonArea 21 = .ok (.aload_n 0, 1) := by decide +kernel
theorem dX2_commonArea_22 : decode cX2_commonArea 22 = .ok (.getfield 15, 3) := by decide +kernel
theorem dX2_commonArea_25 : decode cX2_commonArea 25 = .ok (.aload_n 1, 1) := by decide +kernel
theorem dX2_commonArea_26 : decode cX2_commonArea 26 = .ok (.getfield 15, 3) := by decide +kernel
theorem dX2_commonArea_29 : decode cX2_commonArea 29 = .ok (.invokestatic 71, 3) := by decide +kernel
theorem dX2_commonArea_32 : decode cX2_commonArea 32 = .ok (.isub, 1) := by decide +kernel
theorem dX2_commonArea_33 : decode cX2_commonArea 33 = .ok (.istore_n 2, 1) := by decide +kernel
theorem dX2_commonArea_34 : decode cX2_commonArea 34 = .ok (.aload_n 0, 1) := by decide +kernel
theorem dX2_commonArea_35 : decode cX2_commonArea 35 = .ok (.getfield 19, 3) := by decide +kernel
theorem dX2_commonArea_38 : decode cX2_commonArea 38 = .ok (.aload_n 0, 1) := by decide +kernel
theorem dX2_commonArea_39 : decode cX2_commonArea 39 = .ok (.getfield 37, 3) := by decide +kernel
theorem dX2_commonArea_42 : decode cX2_commonArea 42 = .ok (.iadd, 1) := by decide +kernel
theorem dX2_commonArea_43 : decode cX2_commonArea 43 = .ok (.aload_n 1, 1) := by decide +kernel
theorem dX2_commonArea_44 : decode cX2_commonArea 44 = .ok (.getfield 19, 3) := by decide +kernel
theorem dX2_commonArea_47 : decode cX2_commonArea 47 = .ok (.aload_n 1, 1) := by decide +kernel
theorem dX2_commonArea_48 : decode cX2_commonArea 48 = .ok (.getfield 37, 3) := by decide +kernel
theorem dX2_commonArea_51 : decode cX2_commonArea 51 = .ok (.iadd, 1) := by decide +kernel
theorem dX2_commonArea_52 : decode cX2_commonArea 52 = .ok (.invokestatic 65, 3) := by decide +kernel
theorem dX2_commonArea_55 : decode cX2_commonArea 55 = .ok (.aload_n 0, 1) := by decide +kernel
theorem dX2_commonArea_56 : decode cX2_commonArea 56 = .ok (.getfield 19, 3) := by decide +kernel
theorem dX2_commonArea_59 : decode cX2_commonArea 59 = .ok (.aload_n 1, 1) := by decide +kernel
theorem dX2_commonArea_60 : decode cX2_commonArea 60 = .ok (.getfield 19, 3) := by decide +kernel
theorem dX2_commonArea_63 : decode cX2_commonArea 63 = .ok (.invokestatic 71, 3) := by decide +kernel
theorem dX2_commonArea_66 : decode cX2_commonArea 66 = .ok (.isub, 1) := by decide +kernel
theorem dX2_commonArea_67 : decode cX2_commonArea 67 = .ok (.istore_n 3, 1) := by decide +kernel
theorem dX2_commonArea_68 : decode cX2_commonArea 68 = .ok (.iload_n 2, 1) := by decide +kernel
theorem dX2_commonArea_69 : decode cX2_commonArea 69 = .ok (.iload_n 3, 1) := by decide +kernel
theorem dX2_commonArea_70 : decode cX2_commonArea 70 = .ok (.imul, 1) := by decide +kernel
theorem dX2_commonArea_71 : decode cX2_commonArea 71 = .ok (.ireturn, 1) := by decide +kernel
end
section
theorem dX1_init_0 : decode cX1_init 0 = .ok (.aload_n 0, 1) := by decide +kernel
theorem dX1_init_1 : decode cX1_init 1 = .ok (.invokespecial 3, 3) := by decide +kernel
theorem dX1_init_4 : decode cX1_init 4 = .ok (.aload_n 0, 1) := by decide +kernel
theorem dX1_init_5 : decode cX1_init 5 = .ok (.iload_n 1, 1) := by decide +kernel
theorem dX1_init_6 : decode cX1_init 6 = .ok (.putfield 9, 3) := by decide +kernel
theorem dX1_init_9 : decode cX1_init 9 = .ok (.aload_n 0, 1) := by decide +kernel
theorem dX1_init_10 : decode cX1_init 10 = .ok (.iload_n 2, 1) := by decide +kernel
theorem dX1_init_11 : decode cX1_init 11 = .ok (.putfield 15, 3) := by decide +kernel
theorem dX1_init_14 : decode cX1_init 14 = .ok (.aload_n 0, 1) := by decide +kernel
theorem dX1_init_15 : decode cX1_init 15 = .ok (.iload_n 3, 1) := by decide +kernel
theorem dX1_init_16 : decode cX1_init 16 = .ok (.putfield 18, 3) := by decide +kernel
theorem dX1_init_19 : decode cX1_init 19 = .ok (.aload_n 0, 1) := by decide +kernel
theorem dX1_init_20 : decode cX1_init 20 = .ok (.bipush 6, 2) := by decide +kernel
theorem dX1_init_22 : decode cX1_init 22 = .ok (.anewarray 21, 3) := by decide +kernel
theorem dX1_init_25 : decode cX1_init 25 = .ok (.putfield 23, 3) := by decide +kernel
theorem dX1_init_28 : decode cX1_init 28 = .ok (.iconst 0, 1) := by decide +kernel
theorem dX1_init_29 : decode cX1_init 29 = .ok (.istore 4, 2) := by decide +kernel
theorem dX1_init_31 : decode cX1_init 31 = .ok (.iload 4, 2) := by decide +kernel
theorem dX1_init_33 : decode cX1_init 33 = .ok (.aload_n 0, 1) := by decide +kernel
theorem dX1_init_34 : decode cX1_init 34 = .ok (.getfield 23, 3) := by decide +kernel
theorem dX1_init_37 : decode cX1_init 37 = .ok (.arraylength, 1) := by decide +kernel
theorem dX1_init_38 : decode cX1_init 38 = .ok (.if_icmp .ge 23, 3) := by decide +kernel
theorem dX1_init_41 : decode cX1_init 41 = .ok (.aload_n 0, 1) := by decide +kernel
theorem dX1_init_42 : decode cX1_init 42 = .ok (.getfield 23, 3) := by decide +kernel
theorem dX1_init_45 : decode cX1_init 45 = .ok (.iload 4, 2) := by decide +kernel
theorem dX1_init_47 : decode cX1_init 47 = .ok (.new 21, 3) := by decide +kernel
theorem dX1_init_50 : decode cX1_init 50 = .ok (.dup, 1) := by decide +kernel
theorem dX1_init_51 : decode cX1_init 51 = .ok (.invokespecial 27, 3) := by decide +kernel
theorem dX1_init_54 : decode cX1_init 54 = .ok (.aastore, 1) := by decide +kernel
theorem dX1_init_55 : decode cX1_init 55 = .ok (.iinc 4 1, 3) := by decide +kernel
theorem dX1_init_58 : decode cX1_init 58 = .ok (.goto (-27), 3) := by decide +kernel
theorem dX1_init_61 : decode cX1_init 61 = .ok (.return_, 1) := by decide +kernel
theorem dX1_clear_0 : decode cX1_clear 0 = .ok (.iconst 0, 1) := by decide +kernel
theorem dX1_clear_1 : decode cX1_clear 1 = .ok (.istore_n 1, 1) := by decide +kernel
theorem dX1_clear_2 : decode cX1_clear 2 = .ok (.iload_n 1, 1) := by decide +kernel
theorem dX1_clear_3 : decode cX1_clear 3 = .ok (.aload_n 0, 1) := by decide +kernel
theorem dX1_clear_4 : decode cX1_clear 4 = .ok (.getfield 23, 3) := by decide +kernel
theorem dX1_clear_7 : decode cX1_clear 7 = .ok (.arraylength, 1) := by decide +kernel
theorem dX1_clear_8 : decode cX1_clear 8 = .ok (.if_icmp .ge 18, 3) := by decide +kernel
theorem dX1_clear_11 : decode cX1_clear 11 = .ok (.aload_n 0, 1) := by decide +kernel
theorem dX1_clear_12 : decode cX1_clear 12 = .ok (.getfield 23, 3) := by decide +kernel
theorem dX1_clear_15 : decode cX1_clear 15 = .ok (.iload_n 1, 1) := by decide +kernel
theorem dX1_clear_16 : decode cX1_clear 16 = .ok (.aaload, 1) := by decide +kernel
theorem dX1_clear_17 : decode cX1_clear 17 = .ok (.invokevirtual 28, 3) := by decide +kernel
theorem dX1_clear_20 : decode cX1_clear 20 = .ok (.iinc 1 1, 3) := by decide +kernel
theorem dX1_clear_23 : decode cX1_clear 23 = .ok (.goto (-21), 3) := by decide +kernel
theorem dX1_clear_26 : decode cX1_clear 26 = .ok (.return_, 1) := by decide +kernel
theorem dX1_copyFrom_0 : decode cX1_copyFrom 0 = .ok (.iconst 0, 1) := by decide +kernel
theorem dX1_copyFrom_1 : decode cX1_copyFrom 1 = .ok (.istore_n 2, 1) := by decide +kernel
theorem dX1_copyFrom_2 : decode cX1_copyFrom 2 = .ok (.iload_n 2, 1) := by decide +kernel
theorem dX1_copyFrom_3 : decode cX1_copyFrom 3 = .ok (.aload_n 0, 1) := by decide +kernel
theorem dX1_copyFrom_4 : decode cX1_copyFrom 4 = .ok (.getfield 23, 3) := by decide +kernel
theorem dX1_copyFrom_7 : decode cX1_copyFrom 7 = .ok (.arraylength, 1) := by decide +kernel
theorem dX1_copyFrom_8 : decode cX1_copyFrom 8 = .ok (.if_icmp .ge 33, 3) := by decide +kernel
theorem dX1_copyFrom_11 : decode cX1_copyFrom 11 = .ok (.iload_n 2, 1) := by decide +kernel
theorem dX1_copyFrom_12 : decode cX1_copyFrom 12 = .ok (.aload_n 1, 1) := by decide +kernel
theorem dX1_copyFrom_13 : decode cX1_copyFrom 13 = .ok (.getfield 23, 3) := by decide +kernel
theorem dX1_copyFrom_16 : decode cX1_copyFrom 16 = .ok (.arraylength, 1) := by decide +kernel
theorem dX1_copyFrom_17 : decode cX1_copyFrom 17 = .ok (.if_icmp .ge 24, 3) := by decide +kernel
theorem dX1_copyFrom_20 : decode cX1_copyFrom 20 = .ok (.aload_n 0, 1) := by decide +kernel
theorem dX1_copyFrom_21 : decode cX1_copyFrom 21 = .ok (.getfield 23, 3) := by decide +kernel
theorem dX1_copyFrom_24 : decode cX1_copyFrom 24 = .ok (.iload_n 2, 1) := by decide +kernel
theorem dX1_copyFrom_25 : decode cX1_copyFrom 25 = .ok (.aaload, 1) := by decide +kernel
theorem dX1_copyFrom_26 : decode cX1_copyFrom 26 = .ok (.aload_n 1, 1) := by decide +kernel
theorem dX1_copyFrom_27 : decode cX1_copyFrom 27 = .ok (.getfield 23, 3) := by decide +kernel
theorem dX1_copyFrom_30 : decode cX1_copyFrom 30 = .ok (.iload_n 2, 1) := by decide +kernel
theorem dX1_copyFrom_31 : decode cX1_copyFrom 31 = .ok (.aaload, 1) := by decide +kernel
theorem dX1_copyFrom_32 : decode cX1_copyFrom 32 = .ok (.invokevirtual 31, 3) := by decide +kernel
theorem dX1_copyFrom_35 : decode cX1_copyFrom 35 = .ok (.iinc 2 1, 3) := by decide +kernel
theorem dX1_copyFrom_38 : decode cX1_copyFrom 38 = .ok (.goto (-36), 3) := by decide +kernel
theorem dX1_copyFrom_41 : decode cX1_copyFrom 41 = .ok (.return_, 1) := by decide +kernel
theorem dX1_boxVolume_0 : decode cX1_boxVolume 0 = .ok (.aload_n 0, 1) := by decide +kernel
theorem dX1_boxVolume_1 : decode cX1_boxVolume 1 = .ok (.getfield 9, 3) := by decide +kernel
theorem dX1_boxVolume_4 : decode cX1_boxVolume 4 = .ok (.aload_n 0, 1) := by decide +kernel
theorem dX1_boxVolume_5 : decode cX1_boxVolume 5 = .ok (.getfield 15, 3) := by decide +kernel
theorem dX1_boxVolume_8 : decode cX1_boxVolume 8 = .ok (.imul, 1) := by decide +kernel
theorem dX1_boxVolume_9 : decode cX1_boxVolume 9 = .ok (.aload_n 0, 1) := by decide +kernel
theorem dX1_boxVolume_10 : decode cX1_boxVolume 10 = .ok (.getfield 18, 3) := by decide +kernel
theorem dX1_boxVolume_13 : decode cX1_boxVolume 13 = .ok (.imul, 1) := by decide +kernel
theorem dX1_boxVolume_14 : decode cX1_boxVolume 14 = .ok (.ireturn, 1) := by decide +kernel
theorem dX1_takes_0 : decode cX1_takes 0 = .ok (.iload_n 1, 1) := by decide +kernel
theorem dX1_takes_1 : decode cX1_takes 1 = .ok (.aload_n 0, 1) := by decide +kernel
theorem dX1_takes_2 : decode cX1_takes 2 = .ok (.getfield 9, 3) := by decide +kernel
theorem dX1_takes_5 : decode cX1_takes 5 = .ok (.if_icmp .gt 23, 3) := by decide +kernel
theorem dX1_takes_8 : decode cX1_takes 8 = .ok (.iload_n 2, 1) := by decide +kernel
theorem dX1_takes_9 : decode cX1_takes 9 = .ok (.aload_n 0, 1) := by decide +kernel
theorem dX1_takes_10 : decode cX1_takes 10 = .ok (.getfield 15, 3) := by decide +kernel
theorem dX1_takes_13 : decode cX1_takes 13 = .ok (.if_icmp .gt 15, 3) := by decide +kernel
theorem dX1_takes_16 : decode cX1_takes 16 = .ok (.iload_n 3, 1) := by decide +kernel
theorem dX1_takes_17 : decode cX1_takes 17 = .ok (.aload_n 0, 1) := by decide +kernel
theorem dX1_takes_18 : decode cX1_takes 18 = .ok (.getfield 18, 3) := by decide +kernel
theorem dX1_takes_21 : decode cX1_takes 21 = .ok (.if_icmp .gt 7, 3) := by decide +kernel
theorem dX1_takes_24 : decode cX1_takes 24 = .ok (.iconst 1, 1) := by decide +kernel
theorem dX1_takes_25 : decode cX1_takes 25 = .ok (.goto 4, 3) := by decide +kernel
theorem dX1_takes_28 : decode cX1_takes 28 = .ok (.iconst 0, 1) := by decide +kernel
theorem dX1_takes_29 : decode cX1_takes 29 = .ok (.ireturn, 1) := by decide +kernel
theorem dX1_hasCell_0 : decode cX1_hasCell 0 = .ok (.iload_n 1, 1) := by decide +kernel
theorem dX1_hasCell_1 : decode cX1_hasCell 1 = .ok (.ifCond .lt 39, 3) := by decide +kernel
theorem dX1_hasCell_4 : decode cX1_hasCell 4 = .ok (.iload_n 1, 1) := by decide +kernel
theorem dX1_hasCell_5 : decode cX1_hasCell 5 = .ok (.aload_n 0, 1) := by decide +kernel
theorem dX1_hasCell_6 : decode cX1_hasCell 6 = .ok (.getfield 9, 3) := by decide +kernel
theorem dX1_hasCell_9 : decode cX1_hasCell 9 = .ok (.if_icmp .ge 31, 3) := by decide +kernel
theorem dX1_hasCell_12 : decode cX1_hasCell 12 = .ok (.iload_n 2, 1) := by decide +kernel
theorem dX1_hasCell_13 : decode cX1_hasCell 13 = .ok (.ifCond .lt 27, 3) := by decide +kernel
theorem dX1_hasCell_16 : decode cX1_hasCell 16 = .ok (.iload_n 2, 1) := by decide +kernel
theorem dX1_hasCell_17 : decode cX1_hasCell 17 = .ok (.aload_n 0, 1) := by decide +kernel
theorem dX1_hasCell_18 : decode cX1_hasCell 18 = .ok (.getfield 15, 3) := by decide +kernel
theorem dX1_hasCell_21 : decode cX1_hasCell 21 = .ok (.if_icmp .ge 19, 3) := by decide +kernel
theorem dX1_hasCell_24 : decode cX1_hasCell 24 = .ok (.iload_n 3, 1) := by decide +kernel
theorem dX1_hasCell_25 : decode cX1_hasCell 25 = .ok (.ifCond .lt 15, 3) := by decide +kernel
theorem dX1_hasCell_28 : decode cX1_hasCell 28 = .ok (.iload_n 3, 1) := by decide +kernel
theorem dX1_hasCell_29 : decode cX1_hasCell 29 = .ok (.aload_n 0, 1) := by decide +kernel
theorem dX1_hasCell_30 : decode cX1_hasCell 30 = .ok (.getfield 18, 3) := by decide +kernel
theorem dX1_hasCell_33 : decode cX1_hasCell 33 = .ok (.if_icmp .ge 7, 3) := by decide +kernel
theorem dX1_hasCell_36 : decode cX1_hasCell 36 = .ok (.iconst 1, 1) := by decide +kernel
theorem dX1_hasCell_37 : decode cX1_hasCell 37 = .ok (.goto 4, 3) := by decide +kernel
theorem dX1_hasCell_40 : decode cX1_hasCell 40 = .ok (.iconst 0, 1) := by decide +kernel
theorem dX1_hasCell_41 : decode cX1_hasCell 41 = .ok (.ireturn, 1) := by decide +kernel
theorem dX1_pieceIn_0 : decode cX1_pieceIn 0 = .ok (.iconst 0, 1) := by decide +kernel
theorem dX1_pieceIn_1 : decode cX1_pieceIn 1 = .ok (.istore 4, 2) := by decide +kernel
theorem dX1_pieceIn_3 : decode cX1_pieceIn 3 = .ok (.iload 4, 2) := by decide +kernel
theorem dX1_pieceIn_5 : decode cX1_pieceIn 5 = .ok (.aload_n 0, 1) := by decide +kernel
theorem dX1_pieceIn_6 : decode cX1_pieceIn 6 = .ok (.getfield 23, 3) := by decide +kernel
theorem dX1_pieceIn_9 : decode cX1_pieceIn 9 = .ok (.arraylength, 1) := by decide +kernel
theorem dX1_pieceIn_10 : decode cX1_pieceIn 10 = .ok (.if_icmp .ge 41, 3) := by decide +kernel
theorem dX1_pieceIn_13 : decode cX1_pieceIn 13 = .ok (.aload_n 0, 1) := by decide +kernel
theorem dX1_pieceIn_14 : decode cX1_pieceIn 14 = .ok (.getfield 23, 3) := by decide +kernel
theorem dX1_pieceIn_17 : decode cX1_pieceIn 17 = .ok (.iload 4, 2) := by decide +kernel
theorem dX1_pieceIn_19 : decode cX1_pieceIn 19 = .ok (.aaload, 1) := by decide +kernel
theorem dX1_pieceIn_20 : decode cX1_pieceIn 20 = .ok (.getfield 35, 3) := by decide +kernel
theorem dX1_pieceIn_23 : decode cX1_pieceIn 23 = .ok (.ifCond .eq 22, 3) := by decide +kernel
theorem dX1_pieceIn_26 : decode cX1_pieceIn 26 = .ok (.aload_n 0, 1) := by decide +kernel
theorem dX1_pieceIn_27 : decode cX1_pieceIn 27 = .ok (.getfield 23, 3) := by decide +kernel
theorem dX1_pieceIn_30 : decode cX1_pieceIn 30 = .ok (.iload 4, 2) := by decide +kernel
theorem dX1_pieceIn_32 : decode cX1_pieceIn 32 = .ok (.aaload, 1) := by decide +kernel
theorem dX1_pieceIn_33 : decode cX1_pieceIn 33 = .ok (.iload_n 1, 1) := by decide +kernel
theorem dX1_pieceIn_34 : decode cX1_pieceIn 34 = .ok (.iload_n 2, 1) := by decide +kernel
theorem dX1_pieceIn_35 : decode cX1_pieceIn 35 = .ok (.iload_n 3, 1) := by decide +kernel
theorem dX1_pieceIn_36 : decode cX1_pieceIn 36 = .ok (.invokevirtual 39, 3) := by decide +kernel
theorem dX1_pieceIn_39 : decode cX1_pieceIn 39 = .ok (.ifCond .eq 6, 3) := by decide +kernel
theorem dX1_pieceIn_42 : decode cX1_pieceIn 42 = .ok (.iload 4, 2) := by decide +kernel
theorem dX1_pieceIn_44 : decode cX1_pieceIn 44 = .ok (.ireturn, 1) := by decide +kernel
theorem dX1_pieceIn_45 : decode cX1_pieceIn 45 = .ok (.iinc 4 1, 3) := by decide +kernel
theorem dX1_pieceIn_48 : decode cX1_pieceIn 48 = .ok (.goto (-45), 3) := by decide +kernel
theorem dX1_pieceIn_51 : decode cX1_pieceIn 51 = .ok (.iconst (-1), 1) := by decide +kernel
theorem dX1_pieceIn_52 : decode cX1_pieceIn 52 = .ok (.ireturn, 1) := by decide +kernel
theorem dX1_size_0 : decode cX1_size 0 = .ok (.iconst 0, 1) := by decide +kernel
theorem dX1_size_1 : decode cX1_size 1 = .ok (.istore_n 1, 1) := by decide +kernel
theorem dX1_size_2 : decode cX1_size 2 = .ok (.iconst 0, 1) := by decide +kernel
theorem dX1_size_3 : decode cX1_size 3 = .ok (.istore_n 2, 1) := by decide +kernel
theorem dX1_size_4 : decode cX1_size 4 = .ok (.iload_n 2, 1) := by decide +kernel
theorem dX1_size_5 : decode cX1_size 5 = .ok (.aload_n 0, 1) := by decide +kernel
theorem dX1_size_6 : decode cX1_size 6 = .ok (.getfield 23, 3) := by decide +kernel
theorem dX1_size_9 : decode cX1_size 9 = .ok (.arraylength, 1) := by decide +kernel
theorem dX1_size_10 : decode cX1_size 10 = .ok (.if_icmp .ge 24, 3) := by decide +kernel
theorem dX1_size_13 : decode cX1_size 13 = .ok (.aload_n 0, 1) := by decide +kernel
theorem dX1_size_14 : decode cX1_size 14 = .ok (.getfield 23, 3) := by decide +kernel
theorem dX1_size_17 : decode cX1_size 17 = .ok (.iload_n 2, 1) := by decide +kernel
theorem dX1_size_18 : decode cX1_size 18 = .ok (.aaload, 1) := by decide +kernel
theorem dX1_size_19 : decode cX1_size 19 = .ok (.getfield 35, 3) := by decide +kernel
theorem dX1_size_22 : decode cX1_size 22 = .ok (.ifCond .eq 6, 3) := by decide +kernel
theorem dX1_size_25 : decode cX1_size 25 = .ok (.iinc 1 1, 3) := by decide +kernel
theorem dX1_size_28 : decode cX1_size 28 = .ok (.iinc 2 1, 3) := by decide +kernel
theorem dX1_size_31 : decode cX1_size 31 = .ok (.goto (-27), 3) := by decide +kernel
theorem dX1_size_34 : decode cX1_size 34 = .ok (.iload_n 1, 1) := by decide +kernel
theorem dX1_size_35 : decode cX1_size 35 = .ok (.ireturn, 1) := by decide +kernel
theorem dX1_volume_0 : decode cX1_volume 0 = .ok (.iconst 0, 1) := by decide +kernel
theorem dX1_volume_1 : decode cX1_volume 1 = .ok (.istore_n 1, 1) := by decide +kernel
theorem dX1_volume_2 : decode cX1_volume 2 = .ok (.iconst 0, 1) := by decide +kernel
theorem dX1_volume_3 : decode cX1_volume 3 = .ok (.istore_n 2, 1) := by decide +kernel
theorem dX1_volume_4 : decode cX1_volume 4 = .ok (.iload_n 2, 1) := by decide +kernel
theorem dX1_volume_5 : decode cX1_volume 5 = .ok (.aload_n 0, 1) := by decide +kernel
theorem dX1_volume_6 : decode cX1_volume 6 = .ok (.getfield 23, 3) := by decide +kernel
theorem dX1_volume_9 : decode cX1_volume 9 = .ok (.arraylength, 1) := by decide +kernel
theorem dX1_volume_10 : decode cX1_volume 10 = .ok (.if_icmp .ge 21, 3) := by decide +kernel
theorem dX1_volume_13 : decode cX1_volume 13 = .ok (.iload_n 1, 1) := by decide +kernel
theorem dX1_volume_14 : decode cX1_volume 14 = .ok (.aload_n 0, 1) := by decide +kernel
theorem dX1_volume_15 : decode cX1_volume 15 = .ok (.getfield 23, 3) := by decide +kernel
theorem dX1_volume_18 : decode cX1_volume 18 = .ok (.iload_n 2, 1) := by decide +kernel
theorem dX1_volume_19 : decode cX1_volume 19 = .ok (.aaload, 1) := by decide +kernel
theorem dX1_volume_20 : decode cX1_volume 20 = .ok (.invokevirtual 43, 3) := by decide +kernel
theorem dX1_volume_23 : decode cX1_volume 23 = .ok (.iadd, 1) := by decide +kernel
theorem dX1_volume_24 : decode cX1_volume 24 = .ok (.istore_n 1, 1) := by decide +kernel
theorem dX1_volume_25 : decode cX1_volume 25 = .ok (.iinc 2 1, 3) := by decide +kernel
theorem dX1_volume_28 : decode cX1_volume 28 = .ok (.goto (-24), 3) := by decide +kernel
theorem dX1_volume_31 : decode cX1_volume 31 = .ok (.iload_n 1, 1) := by decide +kernel
theorem dX1_volume_32 : decode cX1_volume 32 = .ok (.ireturn, 1) := by decide +kernel
theorem dX1_weight_0 : decode cX1_weight 0 = .ok (.iconst 0, 1) := by decide +kernel
theorem dX1_weight_1 : decode cX1_weight 1 = .ok (.istore_n 1, 1) := by decide +kernel
theorem dX1_weight_2 : decode cX1_weight 2 = .ok (.iconst 0, 1) := by decide +kernel
theorem dX1_weight_3 : decode cX1_weight 3 = .ok (.istore_n 2, 1) := by decide +kernel
theorem dX1_weight_4 : decode cX1_weight 4 = .ok (.iload_n 2, 1) := by decide +kernel
theorem dX1_weight_5 : decode cX1_weight 5 = .ok (.aload_n 0, 1) := by decide +kernel
theorem dX1_weight_6 : decode cX1_weight 6 = .ok (.getfield 23, 3) := by decide +kernel
theorem dX1_weight_9 : decode cX1_weight 9 = .ok (.arraylength, 1) := by decide +kernel
theorem dX1_weight_10 : decode cX1_weight 10 = .ok (.if_icmp .ge 33, 3) := by decide +kernel
theorem dX1_weight_13 : decode cX1_weight 13 = .ok (.aload_n 0, 1) := by decide +kernel
theorem dX1_weight_14 : decode cX1_weight 14 = .ok (.getfield 23, 3) := by decide +kernel
theorem dX1_weight_17 : decode cX1_weight 17 = .ok (.iload_n 2, 1) := by decide +kernel
theorem dX1_weight_18 : decode cX1_weight 18 = .ok (.aaload, 1) := by decide +kernel
theorem dX1_weight_19 : decode cX1_weight 19 = .ok (.getfield 35, 3) := by decide +kernel
theorem dX1_weight_22 : decode cX1_weight 22 = .ok (.ifCond .eq 15, 3) := by decide +kernel
theorem dX1_weight_25 : decode cX1_weight 25 = .ok (.iload_n 1, 1) := by decide +kernel
theorem dX1_weight_26 : decode cX1_weight 26 = .ok (.aload_n 0, 1) := by decide +kernel
theorem dX1_weight_27 : decode cX1_weight 27 = .ok (.getfield 23, 3) := by decide +kernel
theorem dX1_weight_30 : decode cX1_weight 30 = .ok (.iload_n 2, 1) := by decide +kernel
theorem dX1_weight_31 : decode cX1_weight 31 = .ok (.aaload, 1) := by decide +kernel
theorem dX1_weight_32 : decode cX1_weight 32 = .ok (.getfield 47, 3) := by decide +kernel
theorem dX1_weight_35 : decode cX1_weight 35 = .ok (.iadd, 1) := by decide +kernel
theorem dX1_weight_36 : decode cX1_weight 36 = .ok (.istore_n 1, 1) := by decide +kernel
theorem dX1_weight_37 : decode cX1_weight 37 = .ok (.iinc 2 1, 3) := by decide +kernel
theorem dX1_weight_40 : decode cX1_weight 40 = .ok (.goto (-36), 3) := by decide +kernel
theorem dX1_weight_43 : decode cX1_weight 43 = .ok (.iload_n 1, 1) := by decide +kernel
theorem dX1_weight_44 : decode cX1_weight 44 = .ok (.ireturn, 1) := by decide +kernel
theorem dX1_top_0 : decode cX1_top 0 = .ok (.iconst 0, 1) := by decide +kernel
theorem dX1_top_1 : decode cX1_top 1 = .ok (.istore_n 1, 1) := by decide +kernel
theorem dX1_top_2 : decode cX1_top 2 = .ok (.iconst 0, 1) := by decide +kernel
theorem dX1_top_3 : decode cX1_top 3 = .ok (.istore_n 2, 1) := by decide +kernel
theorem dX1_top_4 : decode cX1_top 4 = .ok (.iload_n 2, 1) := by decide +kernel
theorem dX1_top_5 : decode cX1_top 5 = .ok (.aload_n 0, 1) := by decide +kernel
theorem dX1_top_6 : decode cX1_top 6 = .ok (.getfield 23, 3) := by decide +kernel
theorem dX1_top_9 : decode cX1_top 9 = .ok (.arraylength, 1) := by decide +kernel
theorem dX1_top_10 : decode cX1_top 10 = .ok (.if_icmp .ge 36, 3) := by decide +kernel
theorem dX1_top_13 : decode cX1_top 13 = .ok (.aload_n 0, 1) := by decide +kernel
theorem dX1_top_14 : decode cX1_top 14 = .ok (.getfield 23, 3) := by decide +kernel
theorem dX1_top_17 : decode cX1_top 17 = .ok (.iload_n 2, 1) := by decide +kernel
theorem dX1_top_18 : decode cX1_top 18 = .ok (.aaload, 1) := by decide +kernel
theorem dX1_top_19 : decode cX1_top 19 = .ok (.getfield 35, 3) := by decide +kernel
theorem dX1_top_22 : decode cX1_top 22 = .ok (.ifCond .eq 18, 3) := by decide +kernel
theorem dX1_top_25 : decode cX1_top 25 = .ok (.iload_n 1, 1) := by decide +kernel
theorem dX1_top_26 : decode cX1_top 26 = .ok (.aload_n 0, 1) := by decide +kernel
theorem dX1_top_27 : decode cX1_top 27 = .ok (.getfield 23, 3) := by decide +kernel
theorem dX1_top_30 : decode cX1_top 30 = .ok (.iload_n 2, 1) := by decide +kernel
theorem dX1_top_31 : decode cX1_top 31 = .ok (.aaload, 1) := by decide +kernel
theorem dX1_top_32 : decode cX1_top 32 = .ok (.iconst 2, 1) := by decide +kernel
theorem dX1_top_33 : decode cX1_top 33 = .ok (.invokevirtual 50, 3) := by decide +kernel
theorem dX1_top_36 : decode cX1_top 36 = .ok (.invokestatic 54, 3) := by decide +kernel
theorem dX1_top_39 : decode cX1_top 39 = .ok (.istore_n 1, 1) := by decide +kernel
theorem dX1_top_40 : decode cX1_top 40 = .ok (.iinc 2 1, 3) := by decide +kernel
theorem dX1_top_43 : decode cX1_top 43 = .ok (.goto (-39), 3) := by decide +kernel
theorem dX1_top_46 : decode cX1_top 46 = .ok (.iload_n 1, 1) := by decide +kernel
theorem dX1_top_47 : decode cX1_top 47 = .ok (.ireturn, 1) := by decide +kernel
theorem dX1_ends_0 : decode cX1_ends 0 = .ok (.iconst 1, 1) := by decide +kernel
theorem dX1_ends_1 : decode cX1_ends 1 = .ok (.istore_n 2, 1) := by decide +kernel
theorem dX1_ends_2 : decode cX1_ends 2 = .ok (.iconst 0, 1) := by decide +kernel
theorem dX1_ends_3 : decode cX1_ends 3 = .ok (.istore_n 3, 1) := by decide +kernel
theorem dX1_ends_4 : decode cX1_ends 4 = .ok (.iload_n 3, 1) := by decide +kernel
theorem dX1_ends_5 : decode cX1_ends 5 = .ok (.aload_n 0, 1) := by decide +kernel
theorem dX1_ends_6 : decode cX1_ends 6 = .ok (.getfield 23, 3) := by decide +kernel
theorem dX1_ends_9 : decode cX1_ends 9 = .ok (.arraylength, 1) := by decide +kernel
theorem dX1_ends_10 : decode cX1_ends 10 = .ok (.if_icmp .ge 36, 3) := by decide +kernel
theorem dX1_ends_13 : decode cX1_ends 13 = .ok (.aload_n 0, 1) := by decide +kernel
theorem dX1_ends_14 : decode cX1_ends 14 = .ok (.getfield 23, 3) := by decide +kernel
theorem dX1_ends_17 : decode cX1_ends 17 = .ok (.iload_n 3, 1) := by decide +kernel
theorem dX1_ends_18 : decode cX1_ends 18 = .ok (.aaload, 1) := by decide +kernel
theorem dX1_ends_19 : decode cX1_ends 19 = .ok (.getfield 35, 3) := by decide +kernel
theorem dX1_ends_22 : decode cX1_ends 22 = .ok (.ifCond .eq 18, 3) := by decide +kernel
theorem dX1_ends_25 : decode cX1_ends 25 = .ok (.iload_n 2, 1) := by decide +kernel
theorem dX1_ends_26 : decode cX1_ends 26 = .ok (.iconst 1, 1) := by decide +kernel
theorem dX1_ends_27 : decode cX1_ends 27 = .ok (.aload_n 0, 1) := by decide +kernel
theorem dX1_ends_28 : decode cX1_ends 28 = .ok (.getfield 23, 3) := by decide +kernel
theorem dX1_ends_31 : decode cX1_ends 31 = .ok (.iload_n 3, 1) := by decide +kernel
theorem dX1_ends_32 : decode cX1_ends 32 = .ok (.aaload, 1) := by decide +kernel
theorem dX1_ends_33 : decode cX1_ends 33 = .ok (.iload_n 1, 1) := by decide +kernel
theorem dX1_ends_34 : decode cX1_ends 34 = .ok (.invokevirtual 50, 3) := by decide +kernel
theorem dX1_ends_37 : decode cX1_ends 37 = .ok (.ishl, 1) := by decide +kernel
theorem dX1_ends_38 : decode cX1_ends 38 = .ok (.ior, 1) := by decide +kernel
theorem dX1_ends_39 : decode cX1_ends 39 = .ok (.istore_n 2, 1) := by decide +kernel
theorem dX1_ends_40 : decode cX1_ends 40 = .ok (.iinc 3 1, 3) := by decide +kernel
theorem dX1_ends_43 : decode cX1_ends 43 = .ok (.goto (-39), 3) := by decide +kernel
theorem dX1_ends_46 : decode cX1_ends 46 = .ok (.iload_n 2, 1) := by decide +kernel
theorem dX1_ends_47 : decode cX1_ends 47 = .ok (.ireturn, 1) := by decide +kernel
theorem dX1_isPlanWith_0 : decode cX1_isPlanWith 0 = .ok (.aload_n 0, 1) := by decide +kernel
theorem dX1_isPlanWith_1 : decode cX1_isPlanWith 1 = .ok (.aload_n 1, 1) := by decide +kernel
theorem dX1_isPlanWith_2 : decode cX1_isPlanWith 2 = .ok (.getfield 60, 3) := by decide +kernel
theorem dX1_isPlanWith_5 : decode cX1_isPlanWith 5 = .ok (.aload_n 1, 1) := by decide +kernel
theorem dX1_isPlanWith_6 : decode cX1_isPlanWith 6 = .ok (.getfield 63, 3) := by decide +kernel
theorem dX1_isPlanWith_9 : decode cX1_isPlanWith 9 = .ok (.iadd, 1) := by decide +kernel
theorem dX1_isPlanWith_10 : decode cX1_isPlanWith 10 = .ok (.aload_n 1, 1) := by decide +kernel
theorem dX1_isPlanWith_11 : decode cX1_isPlanWith 11 = .ok (.getfield 66, 3) := by decide +kernel
theorem dX1_isPlanWith_14 : decode cX1_isPlanWith 14 = .ok (.aload_n 1, 1) := by decide +kernel
theorem dX1_isPlanWith_15 : decode cX1_isPlanWith 15 = .ok (.getfield 69, 3) := by decide +kernel
theorem dX1_isPlanWith_18 : decode cX1_isPlanWith 18 = .ok (.iadd, 1) := by decide +kernel
theorem dX1_isPlanWith_19 : decode cX1_isPlanWith 19 = .ok (.aload_n 1, 1) := by decide +kernel
theorem dX1_isPlanWith_20 : decode cX1_isPlanWith 20 = .ok (.getfield 72, 3) := by decide +kernel
theorem dX1_isPlanWith_23 : decode cX1_isPlanWith 23 = .ok (.aload_n 1, 1) := by decide +kernel
theorem dX1_isPlanWith_24 : decode cX1_isPlanWith 24 = .ok (.getfield 75, 3) := by decide +kernel
theorem dX1_isPlanWith_27 : decode cX1_isPlanWith 27 = .ok (.iadd, 1) := by decide +kernel
theorem dX1_isPlanWith_28 : decode cX1_isPlanWith 28 = .ok (.invokevirtual 78, 3) := by decide +kernel
theorem dX1_isPlanWith_31 : decode cX1_isPlanWith 31 = .ok (.ifCond .eq 39, 3) := by decide +kernel
theorem dX1_isPlanWith_34 : decode cX1_isPlanWith 34 = .ok (.aload_n 0, 1) := by decide +kernel
theorem dX1_isPlanWith_35 : decode cX1_isPlanWith 35 = .ok (.aload_n 1, 1) := by decide +kernel
theorem dX1_isPlanWith_36 : decode cX1_isPlanWith 36 = .ok (.invokevirtual 81, 3) := by decide +kernel
theorem dX1_isPlanWith_39 : decode cX1_isPlanWith 39 = .ok (.ifCond .eq 31, 3) := by decide +kernel
theorem dX1_isPlanWith_42 : decode cX1_isPlanWith 42 = .ok (.bipush 100, 2) := by decide +kernel
theorem dX1_isPlanWith_44 : decode cX1_isPlanWith 44 = .ok (.aload_n 0, 1) := by decide +kernel
theorem dX1_isPlanWith_45 : decode cX1_isPlanWith 45 = .ok (.aload_n 1, 1) := by decide +kernel
theorem dX1_isPlanWith_46 : decode cX1_isPlanWith 46 = .ok (.invokevirtual 85, 3) := by decide +kernel
theorem dX1_isPlanWith_49 : decode cX1_isPlanWith 49 = .ok (.imul, 1) := by decide +kernel
theorem dX1_isPlanWith_50 : decode cX1_isPlanWith 50 = .ok (.iload_n 2, 1) := by decide +kernel
theorem dX1_isPlanWith_51 : decode cX1_isPlanWith 51 = .ok (.aload_n 1, 1) := by decide +kernel
theorem dX1_isPlanWith_52 : decode cX1_isPlanWith 52 = .ok (.invokevirtual 89, 3) := by decide +kernel
theorem dX1_isPlanWith_55 : decode cX1_isPlanWith 55 = .ok (.imul, 1) := by decide +kernel
theorem dX1_isPlanWith_56 : decode cX1_isPlanWith 56 = .ok (.if_icmp .lt 14, 3) := by decide +kernel
theorem dX1_isPlanWith_59 : decode cX1_isPlanWith 59 = .ok (.aload_n 0, 1) := by decide +kernel
theorem dX1_isPlanWith_60 : decode cX1_isPlanWith 60 = .ok (.invokevirtual 92, 3) := by decide +kernel
theorem dX1_isPlanWith_63 : decode cX1_isPlanWith 63 = .ok (.ifCond .eq 7, 3) := by decide +kernel
theorem dX1_isPlanWith_66 : decode cX1_isPlanWith 66 = .ok (.iconst 1, 1) := by decide +kernel
theorem dX1_isPlanWith_67 : decode cX1_isPlanWith 67 = .ok (.goto 4, 3) := by decide +kernel
theorem dX1_isPlanWith_70 : decode cX1_isPlanWith 70 = .ok (.iconst 0, 1) := by decide +kernel
theorem dX1_isPlanWith_71 : decode cX1_isPlanWith 71 = .ok (.ireturn, 1) := by decide +kernel
theorem dX1_hasRoomFor_0 : decode cX1_hasRoomFor 0 = .ok (.iconst 0, 1) := by decide +kernel
theorem dX1_hasRoomFor_1 : decode cX1_hasRoomFor 1 = .ok (.istore_n 2, 1) := by decide +kernel
theorem dX1_hasRoomFor_2 : decode cX1_hasRoomFor 2 = .ok (.iload_n 2, 1) := by decide +kernel
theorem dX1_hasRoomFor_3 : decode cX1_hasRoomFor 3 = .ok (.aload_n 0, 1) := by decide +kernel
theorem dX1_hasRoomFor_4 : decode cX1_hasRoomFor 4 = .ok (.getfield 23, 3) := by decide +kernel
theorem dX1_hasRoomFor_7 : decode cX1_hasRoomFor 7 = .ok (.arraylength, 1) := by decide +kernel
theorem dX1_hasRoomFor_8 : decode cX1_hasRoomFor 8 = .ok (.if_icmp .ge 46, 3) := by decide +kernel
theorem dX1_hasRoomFor_11 : decode cX1_hasRoomFor 11 = .ok (.aload_n 0, 1) := by decide +kernel
theorem dX1_hasRoomFor_12 : decode cX1_hasRoomFor 12 = .ok (.getfield 23, 3) := by decide +kernel
theorem dX1_hasRoomFor_15 : decode cX1_hasRoomFor 15 = .ok (.iload_n 2, 1) := by decide +kernel
theorem dX1_hasRoomFor_16 : decode cX1_hasRoomFor 16 = .ok (.aaload, 1) := by decide +kernel
theorem dX1_hasRoomFor_17 : decode cX1_hasRoomFor 17 = .ok (.getfield 35, 3) := by decide +kernel
theorem dX1_hasRoomFor_20 : decode cX1_hasRoomFor 20 = .ok (.ifCond .eq 28, 3) := by decide +kernel
theorem dX1_hasRoomFor_23 : decode cX1_hasRoomFor 23 = .ok (.aload_n 0, 1) := by decide +kernel
theorem dX1_hasRoomFor_24 : decode cX1_hasRoomFor 24 = .ok (.getfield 23, 3) := by decide +kernel
theorem dX1_hasRoomFor_27 : decode cX1_hasRoomFor 27 = .ok (.iload_n 2, 1) := by decide +kernel
theorem dX1_hasRoomFor_28 : decode cX1_hasRoomFor 28 = .ok (.aaload, 1) := by decide +kernel
theorem dX1_hasRoomFor_29 : decode cX1_hasRoomFor 29 = .ok (.aload_n 1, 1) := by decide +kernel
theorem dX1_hasRoomFor_30 : decode cX1_hasRoomFor 30 = .ok (.if_acmp .eq 18, 3) := by decide +kernel
theorem dX1_hasRoomFor_33 : decode cX1_hasRoomFor 33 = .ok (.aload_n 0, 1) := by decide +kernel
theorem dX1_hasRoomFor_34 : decode cX1_hasRoomFor 34 = .ok (.getfield 23, 3) := by decide +kernel
theorem dX1_hasRoomFor_37 : decode cX1_hasRoomFor 37 = .ok (.iload_n 2, 1) := by decide +kernel
theorem dX1_hasRoomFor_38 : decode cX1_hasRoomFor 38 = .ok (.aaload, 1) := by decide +kernel
theorem dX1_hasRoomFor_39 : decode cX1_hasRoomFor 39 = .ok (.aload_n 1, 1) := by decide +kernel
theorem dX1_hasRoomFor_40 : decode cX1_hasRoomFor 40 = .ok (.invokevirtual 96, 3) := by decide +kernel
theorem dX1_hasRoomFor_43 : decode cX1_hasRoomFor 43 = .ok (.ifCond .eq 5, 3) := by decide +kernel
theorem dX1_hasRoomFor_46 : decode cX1_hasRoomFor 46 = .ok (.iconst 0, 1) := by decide +kernel
theorem dX1_hasRoomFor_47 : decode cX1_hasRoomFor 47 = .ok (.ireturn, 1) := by decide +kernel
theorem dX1_hasRoomFor_48 : decode cX1_hasRoomFor 48 = .ok (.iinc 2 1, 3) := by decide +kernel
theorem dX1_hasRoomFor_51 : decode cX1_hasRoomFor 51 = .ok (.goto (-49), 3) := by decide +kernel
theorem dX1_hasRoomFor_54 : decode cX1_hasRoomFor 54 = .ok (.iconst 1, 1) := by decide +kernel
theorem dX1_hasRoomFor_55 : decode cX1_hasRoomFor 55 = .ok (.ireturn, 1) := by decide +kernel
theorem dX1_supportOf_0 : decode cX1_supportOf 0 = .ok (.aload_n 1, 1) := by decide +kernel
theorem dX1_supportOf_1 : decode cX1_supportOf 1 = .ok (.getfield 72, 3) := by decide +kernel
theorem dX1_supportOf_4 : decode cX1_supportOf 4 = .ok (.ifCond .ne 8, 3) := by decide +kernel
theorem dX1_supportOf_7 : decode cX1_supportOf 7 = .ok (.aload_n 1, 1) := by decide +kernel
theorem dX1_supportOf_8 : decode cX1_supportOf 8 = .ok (.invokevirtual 89, 3) := by decide +kernel
theorem dX1_supportOf_11 : decode cX1_supportOf 11 = .ok (.ireturn, 1) := by decide +kernel
theorem dX1_supportOf_12 : decode cX1_supportOf 12 = .ok (.iconst 0, 1) := by decide +kernel
theorem dX1_supportOf_13 : decode cX1_supportOf 13 = .ok (.istore_n 2, 1) := by decide +kernel
theorem dX1_supportOf_14 : decode cX1_supportOf 14 = .ok (.iconst 0, 1) := by decide +kernel
theorem dX1_supportOf_15 : decode cX1_supportOf 15 = .ok (.istore_n 3, 1) := by decide +kernel
theorem dX1_supportOf_16 : decode cX1_supportOf 16 = .ok (.iload_n 3, 1) := by decide +kernel
theorem dX1_supportOf_17 : decode cX1_supportOf 17 = .ok (.aload_n 0, 1) := by decide +kernel
theorem dX1_supportOf_18 : decode cX1_supportOf 18 = .ok (.getfield 23, 3) := by decide +kernel
theorem dX1_supportOf_21 : decode cX1_supportOf 21 = .ok (.arraylength, 1) := by decide +kernel
theorem dX1_supportOf_22 : decode cX1_supportOf 22 = .ok (.if_icmp .ge 47, 3) := by decide +kernel
theorem dX1_supportOf_25 : decode cX1_supportOf 25 = .ok (.aload_n 0, 1) := by decide +kernel
theorem dX1_supportOf_26 : decode cX1_supportOf 26 = .ok (.getfield 23, 3) := by decide +kernel
theorem dX1_supportOf_29 : decode cX1_supportOf 29 = .ok (.iload_n 3, 1) := by decide +kernel
theorem dX1_supportOf_30 : decode cX1_supportOf 30 = .ok (.aaload, 1) := by decide +kernel
theorem dX1_supportOf_31 : decode cX1_supportOf 31 = .ok (.getfield 35, 3) := by decide +kernel
theorem dX1_supportOf_34 : decode cX1_supportOf 34 = .ok (.ifCond .eq 29, 3) := by decide +kernel
theorem dX1_supportOf_37 : decode cX1_supportOf 37 = .ok (.aload_n 1, 1) := by decide +kernel
theorem dX1_supportOf_38 : decode cX1_supportOf 38 = .ok (.aload_n 0, 1) := by decide +kernel
theorem dX1_supportOf_39 : decode cX1_supportOf 39 = .ok (.getfield 23, 3) := by decide +kernel
theorem dX1_supportOf_42 : decode cX1_supportOf 42 = .ok (.iload_n 3, 1) := by decide +kernel
theorem dX1_supportOf_43 : decode cX1_supportOf 43 = .ok (.aaload, 1) := by decide +kernel
theorem dX1_supportOf_44 : decode cX1_supportOf 44 = .ok (.invokevirtual 99, 3) := by decide +kernel
theorem dX1_supportOf_47 : decode cX1_supportOf 47 = .ok (.ifCond .eq 16, 3) := by decide +kernel
theorem dX1_supportOf_50 : decode cX1_supportOf 50 = .ok (.iload_n 2, 1) := by decide +kernel
theorem dX1_supportOf_51 : decode cX1_supportOf 51 = .ok (.aload_n 1, 1) := by decide +kernel
theorem dX1_supportOf_52 : decode cX1_supportOf 52 = .ok (.aload_n 0, 1) := by decide +kernel
theorem dX1_supportOf_53 : decode cX1_supportOf 53 = .ok (.getfield 23, 3) := by decide +kernel
theorem dX1_supportOf_56 : decode cX1_supportOf 56 = .ok (.iload_n 3, 1) := by decide +kernel
theorem dX1_supportOf_57 : decode cX1_supportOf 57 = .ok (.aaload, 1) := by decide +kernel
theorem dX1_supportOf_58 : decode cX1_supportOf 58 = .ok (.invokevirtual 102, 3) := by decide +kernel
theorem dX1_supportOf_61 : decode cX1_supportOf 61 = .ok (.iadd, 1) := by decide +kernel
theorem dX1_supportOf_62 : decode cX1_supportOf 62 = .ok (.istore_n 2, 1) := by decide +kernel
theorem dX1_supportOf_63 : decode cX1_supportOf 63 = .ok (.iinc 3 1, 3) := by decide +kernel
theorem dX1_supportOf_66 : decode cX1_supportOf 66 = .ok (.goto (-50), 3) := by decide +kernel
theorem dX1_supportOf_69 : decode cX1_supportOf 69 = .ok (.iload_n 2, 1) := by decide +kernel
theorem dX1_supportOf_70 : decode cX1_supportOf 70 = .ok (.ireturn, 1) := by decide +kernel
theorem dX1_weightsAreBorne_0 : decode cX1_weightsAreBorne 0 = .ok (.aload_n 0, 1) := by decide +kernel
theorem dX1_weightsAreBorne_1 : decode cX1_weightsAreBorne 1 = .ok (.invokevirtual 105, 3) := by decide +kernel
theorem dX1_weightsAreBorne_4 : decode cX1_weightsAreBorne 4 = .ok (.iconst 0, 1) := by decide +kernel
theorem dX1_weightsAreBorne_5 : decode cX1_weightsAreBorne 5 = .ok (.istore_n 1, 1) := by decide +kernel
theorem dX1_weightsAreBorne_6 : decode cX1_weightsAreBorne 6 = .ok (.iload_n 1, 1) := by decide +kernel
theorem dX1_weightsAreBorne_7 : decode cX1_weightsAreBorne 7 = .ok (.aload_n 0, 1) := by decide +kernel
theorem dX1_weightsAreBorne_8 : decode cX1_weightsAreBorne 8 = .ok (.getfield 23, 3) := by decide +kernel
theorem dX1_weightsAreBorne_11 : decode cX1_weightsAreBorne 11 = .ok (.arraylength, 1) := by decide +kernel
theorem dX1_weightsAreBorne_12 : decode cX1_weightsAreBorne 12 = .ok (.if_icmp .ge 58, 3) := by decide +kernel
theorem dX1_weightsAreBorne_15 : decode cX1_weightsAreBorne 15 = .ok (.aload_n 0, 1) := by decide +kernel
theorem dX1_weightsAreBorne_16 : decode cX1_weightsAreBorne 16 = .ok (.getfield 23, 3) := by decide +kernel
theorem dX1_weightsAreBorne_19 : decode cX1_weightsAreBorne 19 = .ok (.iload_n 1, 1) := by decide +kernel
theorem dX1_weightsAreBorne_20 : decode cX1_weightsAreBorne 20 = .ok (.aaload, 1) := by decide +kernel
theorem dX1_weightsAreBorne_21 : decode cX1_weightsAreBorne 21 = .ok (.getfield 35, 3) := by decide +kernel
theorem dX1_weightsAreBorne_24 : decode cX1_weightsAreBorne 24 = .ok (.ifCond .eq 40, 3) := by decide +kernel
theorem dX1_weightsAreBorne_27 : decode cX1_weightsAreBorne 27 = .ok (.aload_n 0, 1) := by decide +kernel
theorem dX1_weightsAreBorne_28 : decode cX1_weightsAreBorne 28 = .ok (.getfield 23, 3) := by decide +kernel
theorem dX1_weightsAreBorne_31 : decode cX1_weightsAreBorne 31 = .ok (.iload_n 1, 1) := by decide +kernel
theorem dX1_weightsAreBorne_32 : decode cX1_weightsAreBorne 32 = .ok (.aaload, 1) := by decide +kernel
theorem dX1_weightsAreBorne_33 : decode cX1_weightsAreBorne 33 = .ok (.getfield 108, 3) := by decide +kernel
theorem dX1_weightsAreBorne_36 : decode cX1_weightsAreBorne 36 = .ok (.iconst (-1), 1) := by decide +kernel
theorem dX1_weightsAreBorne_37 : decode cX1_weightsAreBorne 37 = .ok (.if_icmp .eq 27, 3) := by decide +kernel
theorem dX1_weightsAreBorne_40 : decode cX1_weightsAreBorne 40 = .ok (.aload_n 0, 1) := by decide +kernel
theorem dX1_weightsAreBorne_41 : decode cX1_weightsAreBorne 41 = .ok (.aload_n 0, 1) := by decide +kernel
theorem dX1_weightsAreBorne_42 : decode cX1_weightsAreBorne 42 = .ok (.getfield 23, 3) := by decide +kernel
theorem dX1_weightsAreBorne_45 : decode cX1_weightsAreBorne 45 = .ok (.iload_n 1, 1) := by decide +kernel
theorem dX1_weightsAreBorne_46 : decode cX1_weightsAreBorne 46 = .ok (.aaload, 1) := by decide +kernel
theorem dX1_weightsAreBorne_47 : decode cX1_weightsAreBorne 47 = .ok (.invokevirtual 111, 3) := by decide +kernel
theorem dX1_weightsAreBorne_50 : decode cX1_weightsAreBorne 50 = .ok (.aload_n 0, 1) := by decide +kernel
theorem dX1_weightsAreBorne_51 : decode cX1_weightsAreBorne 51 = .ok (.getfield 23, 3) := by decide +kernel
theorem dX1_weightsAreBorne_54 : decode cX1_weightsAreBorne 54 = .ok (.iload_n 1, 1) := by decide +kernel
theorem dX1_weightsAreBorne_55 : decode cX1_weightsAreBorne 55 = .ok (.aaload, 1) := by decide +kernel
theorem dX1_weightsAreBorne_56 : decode cX1_weightsAreBorne 56 = .ok (.getfield 108, 3) := by decide +kernel
theorem dX1_weightsAreBorne_59 : decode cX1_weightsAreBorne 59 = .ok (.if_icmp .le 5, 3) := by decide +kernel
theorem dX1_weightsAreBorne_62 : decode cX1_weightsAreBorne 62 = .ok (.iconst 0, 1) := by decide +kernel
theorem dX1_weightsAreBorne_63 : decode cX1_weightsAreBorne 63 = .ok (.ireturn, 1) := by decide +kernel
theorem dX1_weightsAreBorne_64 : decode cX1_weightsAreBorne 64 = .ok (.iinc 1 1, 3) := by decide +kernel
theorem dX1_weightsAreBorne_67 : decode cX1_weightsAreBorne 67 = .ok (.goto (-61), 3) := by decide +kernel
theorem dX1_weightsAreBorne_70 : decode cX1_weightsAreBorne 70 = .ok (.iconst 1, 1) := by decide +kernel
theorem dX1_weightsAreBorne_71 : decode cX1_weightsAreBorne 71 = .ok (.ireturn, 1) := by decide +kernel
theorem dX1_noteStanders_0 : decode cX1_noteStanders 0 = .ok (.iconst 0, 1) := by decide +kernel
theorem dX1_noteStanders_1 : decode cX1_noteStanders 1 = .ok (.istore_n 1, 1) := by decide +kernel
theorem dX1_noteStanders_2 : decode cX1_noteStanders 2 = .ok (.iload_n 1, 1) := by decide +kernel
theorem dX1_noteStanders_3 : decode cX1_noteStanders 3 = .ok (.aload_n 0, 1) := by decide +kernel
theorem dX1_noteStanders_4 : decode cX1_noteStanders 4 = .ok (.getfield 23, 3) := by decide +kernel
theorem dX1_noteStanders_7 : decode cX1_noteStanders 7 = .ok (.arraylength, 1) := by decide +kernel
theorem dX1_noteStanders_8 : decode cX1_noteStanders 8 = .ok (.if_icmp .ge 95, 3) := by decide +kernel
theorem dX1_noteStanders_11 : decode cX1_noteStanders 11 = .ok (.aload_n 0, 1) := by decide +kernel
theorem dX1_noteStanders_12 : decode cX1_noteStanders 12 = .ok (.getfield 23, 3) := by decide +kernel
theorem dX1_noteStanders_15 : decode cX1_noteStanders 15 = .ok (.iload_n 1, 1) := by decide +kernel
theorem dX1_noteStanders_16 : decode cX1_noteStanders 16 = .ok (.aaload, 1) := by decide +kernel
theorem dX1_noteStanders_17 : decode cX1_noteStanders 17 = .ok (.iconst 0, 1) := by decide +kernel
theorem dX1_noteStanders_18 : decode cX1_noteStanders 18 = .ok (.putfield 114, 3) := by decide +kernel
theorem dX1_noteStanders_21 : decode cX1_noteStanders 21 = .ok (.iconst 0, 1) := by decide +kernel
theorem dX1_noteStanders_22 : decode cX1_noteStanders 22 = .ok (.istore_n 2, 1) := by decide +kernel
theorem dX1_noteStanders_23 : decode cX1_noteStanders 23 = .ok (.iload_n 2, 1) := by decide +kernel
theorem dX1_noteStanders_24 : decode cX1_noteStanders 24 = .ok (.aload_n 0, 1) := by decide +kernel
theorem dX1_noteStanders_25 : decode cX1_noteStanders 25 = .ok (.getfield 23, 3) := by decide +kernel
theorem dX1_noteStanders_28 : decode cX1_noteStanders 28 = .ok (.arraylength, 1) := by decide +kernel
theorem dX1_noteStanders_29 : decode cX1_noteStanders 29 = .ok (.if_icmp .ge 68, 3) := by decide +kernel
theorem dX1_noteStanders_32 : decode cX1_noteStanders 32 = .ok (.aload_n 0, 1) := by decide +kernel
theorem dX1_noteStanders_33 : decode cX1_noteStanders 33 = .ok (.getfield 23, 3) := by decide +kernel
theorem dX1_noteStanders_36 : decode cX1_noteStanders 36 = .ok (.iload_n 1, 1) := by decide +kernel
theorem dX1_noteStanders_37 : decode cX1_noteStanders 37 = .ok (.aaload, 1) := by decide +kernel
theorem dX1_noteStanders_38 : decode cX1_noteStanders 38 = .ok (.getfield 35, 3) := by decide +kernel
theorem dX1_noteStanders_41 : decode cX1_noteStanders 41 = .ok (.ifCond .eq 56, 3) := by decide +kernel
theorem dX1_noteStanders_44 : decode cX1_noteStanders 44 = .ok (.aload_n 0, 1) := by decide +kernel
theorem dX1_noteStanders_45 : decode cX1_noteStanders 45 = .ok (.getfield 23, 3) := by decide +kernel
theorem dX1_noteStanders_48 : decode cX1_noteStanders 48 = .ok (.iload_n 2, 1) := by decide +kernel
theorem dX1_noteStanders_49 : decode cX1_noteStanders 49 = .ok (.aaload, 1) := by decide +kernel
theorem dX1_noteStanders_50 : decode cX1_noteStanders 50 = .ok (.getfield 35, 3) := by decide +kernel
theorem dX1_noteStanders_53 : decode cX1_noteStanders 53 = .ok (.ifCond .eq 38, 3) := by decide +kernel
theorem dX1_noteStanders_56 : decode cX1_noteStanders 56 = .ok (.aload_n 0, 1) := by decide +kernel
theorem dX1_noteStanders_57 : decode cX1_noteStanders 57 = .ok (.getfield 23, 3) := by decide +kernel
theorem dX1_noteStanders_60 : decode cX1_noteStanders 60 = .ok (.iload_n 2, 1) := by decide +kernel
theorem dX1_noteStanders_61 : decode cX1_noteStanders 61 = .ok (.aaload, 1) := by decide +kernel
theorem dX1_noteStanders_62 : decode cX1_noteStanders 62 = .ok (.aload_n 0, 1) := by decide +kernel
theorem dX1_noteStanders_63 : decode cX1_noteStanders 63 = .ok (.getfield 23, 3) := by decide +kernel
theorem dX1_noteStanders_66 : decode cX1_noteStanders 66 = .ok (.iload_n 1, 1) := by decide +kernel
theorem dX1_noteStanders_67 : decode cX1_noteStanders 67 = .ok (.aaload, 1) := by decide +kernel
theorem dX1_noteStanders_68 : decode cX1_noteStanders 68 = .ok (.invokevirtual 99, 3) := by decide +kernel
theorem dX1_noteStanders_71 : decode cX1_noteStanders 71 = .ok (.ifCond .eq 20, 3) := by decide +kernel
theorem dX1_noteStanders_74 : decode cX1_noteStanders 74 = .ok (.aload_n 0, 1) := by decide +kernel
theorem dX1_noteStanders_75 : decode cX1_noteStanders 75 = .ok (.getfield 23, 3) := by decide +kernel
theorem dX1_noteStanders_78 : decode cX1_noteStanders 78 = .ok (.iload_n 1, 1) := by decide +kernel
theorem dX1_noteStanders_79 : decode cX1_noteStanders 79 = .ok (.aaload, 1) := by decide +kernel
theorem dX1_noteStanders_80 : decode cX1_noteStanders 80 = .ok (.dup, 1) := by decide +kernel
theorem dX1_noteStanders_81 : decode cX1_noteStanders 81 = .ok (.getfield 114, 3) := by decide +kernel
theorem dX1_noteStanders_84 : decode cX1_noteStanders 84 = .ok (.iconst 1, 1) := by decide +kernel
theorem dX1_noteStanders_85 : decode cX1_noteStanders 85 = .ok (.iload_n 2, 1) := by decide +kernel
theorem dX1_noteStanders_86 : decode cX1_noteStanders 86 = .ok (.ishl, 1) := by decide +kernel
theorem dX1_noteStanders_87 : decode cX1_noteStanders 87 = .ok (.ior, 1) := by decide +kernel
theorem dX1_noteStanders_88 : decode cX1_noteStanders 88 = .ok (.putfield 114, 3) := by decide +kernel
theorem dX1_noteStanders_91 : decode cX1_noteStanders 91 = .ok (.iinc 2 1, 3) := by decide +kernel
theorem dX1_noteStanders_94 : decode cX1_noteStanders 94 = .ok (.goto (-71), 3) := by decide +kernel
theorem dX1_noteStanders_97 : decode cX1_noteStanders 97 = .ok (.iinc 1 1, 3) := by decide +kernel
theorem dX1_noteStanders_100 : decode cX1_noteStanders 100 = .ok (.goto (-98), 3) := by decide +kernel
theorem dX1_noteStanders_103 : decode cX1_noteStanders 103 = .ok (.return_, 1) := by decide +kernel
theorem dX1_weightOn_0 : decode cX1_weightOn 0 = .ok (.aload_n 1, 1) := by decide +kernel
theorem dX1_weightOn_1 : decode cX1_weightOn 1 = .ok (.getfield 114, 3) := by decide +kernel
theorem dX1_weightOn_4 : decode cX1_weightOn 4 = .ok (.istore_n 2, 1) := by decide +kernel
theorem dX1_weightOn_5 : decode cX1_weightOn 5 = .ok (.iconst 0, 1) := by decide +kernel
theorem dX1_weightOn_6 : decode cX1_weightOn 6 = .ok (.istore_n 3, 1) := by decide +kernel
theorem dX1_weightOn_7 : decode cX1_weightOn 7 = .ok (.iconst 0, 1) := by decide +kernel
theorem dX1_weightOn_8 : decode cX1_weightOn 8 = .ok (.istore 4, 2) := by decide +kernel
theorem dX1_weightOn_10 : decode cX1_weightOn 10 = .ok (.iload 4, 2) := by decide +kernel
theorem dX1_weightOn_12 : decode cX1_weightOn 12 = .ok (.aload_n 0, 1) := by decide +kernel
theorem dX1_weightOn_13 : decode cX1_weightOn 13 = .ok (.getfield 23, 3) := by decide +kernel
theorem dX1_weightOn_16 : decode cX1_weightOn 16 = .ok (.arraylength, 1) := by decide +kernel
theorem dX1_weightOn_17 : decode cX1_weightOn 17 = .ok (.if_icmp .ge 57, 3) := by decide +kernel
theorem dX1_weightOn_20 : decode cX1_weightOn 20 = .ok (.iload_n 3, 1) := by decide +kernel
theorem dX1_weightOn_21 : decode cX1_weightOn 21 = .ok (.iload_n 2, 1) := by decide +kernel
theorem dX1_weightOn_22 : decode cX1_weightOn 22 = .ok (.if_icmp .eq 52, 3) := by decide +kernel
theorem dX1_weightOn_25 : decode cX1_weightOn 25 = .ok (.iload_n 2, 1) := by decide +kernel
theorem dX1_weightOn_26 : decode cX1_weightOn 26 = .ok (.istore_n 3, 1) := by decide +kernel
theorem dX1_weightOn_27 : decode cX1_weightOn 27 = .ok (.iconst 0, 1) := by decide +kernel
theorem dX1_weightOn_28 : decode cX1_weightOn 28 = .ok (.istore 5, 2) := by decide +kernel
theorem dX1_weightOn_30 : decode cX1_weightOn 30 = .ok (.iload 5, 2) := by decide +kernel
theorem dX1_weightOn_32 : decode cX1_weightOn 32 = .ok (.aload_n 0, 1) := by decide +kernel
theorem dX1_weightOn_33 : decode cX1_weightOn 33 = .ok (.getfield 23, 3) := by decide +kernel
theorem dX1_weightOn_36 : decode cX1_weightOn 36 = .ok (.arraylength, 1) := by decide +kernel
theorem dX1_weightOn_37 : decode cX1_weightOn 37 = .ok (.if_icmp .ge 31, 3) := by decide +kernel
theorem dX1_weightOn_40 : decode cX1_weightOn 40 = .ok (.iload_n 2, 1) := by decide +kernel
theorem dX1_weightOn_41 : decode cX1_weightOn 41 = .ok (.iload 5, 2) := by decide +kernel
theorem dX1_weightOn_43 : decode cX1_weightOn 43 = .ok (.invokestatic 117, 3) := by decide +kernel
theorem dX1_weightOn_46 : decode cX1_weightOn 46 = .ok (.ifCond .eq 16, 3) := by decide +kernel
theorem dX1_weightOn_49 : decode cX1_weightOn 49 = .ok (.iload_n 2, 1) := by decide +kernel
theorem dX1_weightOn_50 : decode cX1_weightOn 50 = .ok (.aload_n 0, 1) := by decide +kernel
theorem dX1_weightOn_51 : decode cX1_weightOn 51 = .ok (.getfield 23, 3) := by decide +kernel
theorem dX1_weightOn_54 : decode cX1_weightOn 54 = .ok (.iload 5, 2) := by decide +kernel
theorem dX1_weightOn_56 : decode cX1_weightOn 56 = .ok (.aaload, 1) := by decide +kernel
theorem dX1_weightOn_57 : decode cX1_weightOn 57 = .ok (.getfield 114, 3) := by decide +kernel
theorem dX1_weightOn_60 : decode cX1_weightOn 60 = .ok (.ior, 1) := by decide +kernel
theorem dX1_weightOn_61 : decode cX1_weightOn 61 = .ok (.istore_n 2, 1) := by decide +kernel
theorem dX1_weightOn_62 : decode cX1_weightOn 62 = .ok (.iinc 5 1, 3) := by decide +kernel
theorem dX1_weightOn_65 : decode cX1_weightOn 65 = .ok (.goto (-35), 3) := by decide +kernel
theorem dX1_weightOn_68 : decode cX1_weightOn 68 = .ok (.iinc 4 1, 3) := by decide +kernel
theorem dX1_weightOn_71 : decode cX1_weightOn 71 = .ok (.goto (-61), 3) := by decide +kernel
theorem dX1_weightOn_74 : decode cX1_weightOn 74 = .ok (.iconst 0, 1) := by decide +kernel
theorem dX1_weightOn_75 : decode cX1_weightOn 75 = .ok (.istore 4, 2) := by decide +kernel
theorem dX1_weightOn_77 : decode cX1_weightOn 77 = .ok (.iconst 0, 1) := by decide +kernel
theorem dX1_weightOn_78 : decode cX1_weightOn 78 = .ok (.istore 5, 2) := by decide +kernel
theorem dX1_weightOn_80 : decode cX1_weightOn 80 = .ok (.iload 5, 2) := by decide +kernel
theorem dX1_weightOn_82 : decode cX1_weightOn 82 = .ok (.aload_n 0, 1) := by decide +kernel
theorem dX1_weightOn_83 : decode cX1_weightOn 83 = .ok (.getfield 23, 3) := by decide +kernel
theorem dX1_weightOn_86 : decode cX1_weightOn 86 = .ok (.arraylength, 1) := by decide +kernel
theorem dX1_weightOn_87 : decode cX1_weightOn 87 = .ok (.if_icmp .ge 33, 3) := by decide +kernel
theorem dX1_weightOn_90 : decode cX1_weightOn 90 = .ok (.iload_n 2, 1) := by decide +kernel
theorem dX1_weightOn_91 : decode cX1_weightOn 91 = .ok (.iload 5, 2) := by decide +kernel
theorem dX1_weightOn_93 : decode cX1_weightOn 93 = .ok (.invokestatic 117, 3) := by decide +kernel
theorem dX1_weightOn_96 : decode cX1_weightOn 96 = .ok (.ifCond .eq 18, 3) := by decide +kernel
theorem dX1_weightOn_99 : decode cX1_weightOn 99 = .ok (.iload 4, 2) := by decide +kernel
theorem dX1_weightOn_101 : decode cX1_weightOn 101 = .ok (.aload_n 0, 1) := by decide +kernel
theorem dX1_weightOn_102 : decode cX1_weightOn 102 = .ok (.getfield 23, 3) := by decide +kernel
theorem dX1_weightOn_105 : decode cX1_weightOn 105 = .ok (.iload 5, 2) := by decide +kernel
theorem dX1_weightOn_107 : decode cX1_weightOn 107 = .ok (.aaload, 1) := by decide +kernel
theorem dX1_weightOn_108 : decode cX1_weightOn 108 = .ok (.getfield 47, 3) := by decide +kernel
theorem dX1_weightOn_111 : decode cX1_weightOn 111 = .ok (.iadd, 1) := by decide +kernel
theorem dX1_weightOn_112 : decode cX1_weightOn 112 = .ok (.istore 4, 2) := by decide +kernel
theorem dX1_weightOn_114 : decode cX1_weightOn 114 = .ok (.iinc 5 1, 3) := by decide +kernel
theorem dX1_weightOn_117 : decode cX1_weightOn 117 = .ok (.goto (-37), 3) := by decide +kernel
theorem dX1_weightOn_120 : decode cX1_weightOn 120 = .ok (.iload 4, 2) := by decide +kernel
theorem dX1_weightOn_122 : decode cX1_weightOn 122 = .ok (.ireturn, 1) := by decide +kernel
end
section
theorem dX3_init_0 : decode cX3_init 0 = .ok (.aload_n 0, 1) := by decide +kernel
theorem dX3_init_1 : decode cX3_init 1 = .ok (.invokespecial 1, 3) := by decide +kernel
theorem dX3_init_4 : decode cX3_init 4 = .ok (.iload_n 1, 1) := by decide +kernel
theorem dX3_init_5 : decode cX3_init 5 = .ok (.invokestatic 7, 3) := by decide +kernel
theorem dX3_init_8 : decode cX3_init 8 = .ok (.istore 4, 2) := by decide +kernel
theorem dX3_init_10 : decode cX3_init 10 = .ok (.iload_n 2, 1) := by decide +kernel
theorem dX3_init_11 : decode cX3_init 11 = .ok (.invokestatic 7, 3) := by decide +kernel
theorem dX3_init_14 : decode cX3_init 14 = .ok (.istore 5, 2) := by decide +kernel
theorem dX3_init_16 : decode cX3_init 16 = .ok (.iload_n 3, 1) := by decide +kernel
theorem dX3_init_17 : decode cX3_init 17 = .ok (.invokestatic 7, 3) := by decide +kernel
theorem dX3_init_20 : decode cX3_init 20 = .ok (.istore 6, 2) := by decide +kernel
theorem dX3_init_22 : decode cX3_init 22 = .ok (.aload_n 0, 1) := by decide +kernel
theorem dX3_init_23 : decode cX3_init 23 = .ok (.bipush 6, 2) := by decide +kernel
theorem dX3_init_25 : decode cX3_init 25 = .ok (.anewarray 13, 3) := by decide +kernel
theorem dX3_init_28 : decode cX3_init 28 = .ok (.putfield 15, 3) := by decide +kernel
theorem dX3_init_31 : decode cX3_init 31 = .ok (.iconst 0, 1) := by decide +kernel
theorem dX3_init_32 : decode cX3_init 32 = .ok (.istore 7, 2) := by decide +kernel
theorem dX3_init_34 : decode cX3_init 34 = .ok (.iload 7, 2) := by decide +kernel
theorem dX3_init_36 : decode cX3_init 36 = .ok (.aload_n 0, 1) := by decide +kernel
theorem dX3_init_37 : decode cX3_init 37 = .ok (.getfield 15, 3) := by decide +kernel
theorem dX3_init_40 : decode cX3_init 40 = .ok (.arraylength, 1) := by decide +kernel
theorem dX3_init_41 : decode cX3_init 41 = .ok (.if_icmp .ge 23, 3) := by decide +kernel
theorem dX3_init_44 : decode cX3_init 44 = .ok (.aload_n 0, 1) := by decide +kernel
theorem dX3_init_45 : decode cX3_init 45 = .ok (.getfield 15, 3) := by decide +kernel
theorem dX3_init_48 : decode cX3_init 48 = .ok (.iload 7, 2) := by decide +kernel
theorem dX3_init_50 : decode cX3_init 50 = .ok (.new 13, 3) := by decide +kernel
theorem dX3_init_53 : decode cX3_init 53 = .ok (.dup, 1) := by decide +kernel
theorem dX3_init_54 : decode cX3_init 54 = .ok (.invokespecial 19, 3) := by decide +kernel
theorem dX3_init_57 : decode cX3_init 57 = .ok (.aastore, 1) := by decide +kernel
theorem dX3_init_58 : decode cX3_init 58 = .ok (.iinc 7 1, 3) := by decide +kernel
theorem dX3_init_61 : decode cX3_init 61 = .ok (.goto (-27), 3) := by decide +kernel
theorem dX3_init_64 : decode cX3_init 64 = .ok (.aload_n 0, 1) := by decide +kernel
theorem dX3_init_65 : decode cX3_init 65 = .ok (.new 20, 3) := by decide +kernel
theorem dX3_init_68 : decode cX3_init 68 = .ok (.dup, 1) := by decide +kernel
theorem dX3_init_69 : decode cX3_init 69 = .ok (.iload 4, 2) := by decide +kernel
theorem dX3_init_71 : decode cX3_init 71 = .ok (.iload 5, 2) := by decide +kernel
theorem dX3_init_73 : decode cX3_init 73 = .ok (.iload 6, 2) := by decide +kernel
theorem dX3_init_75 : decode cX3_init 75 = .ok (.invokespecial 22, 3) := by decide +kernel
theorem dX3_init_78 : decode cX3_init 78 = .ok (.putfield 25, 3) := by decide +kernel
theorem dX3_init_81 : decode cX3_init 81 = .ok (.aload_n 0, 1) := by decide +kernel
theorem dX3_init_82 : decode cX3_init 82 = .ok (.new 20, 3) := by decide +kernel
theorem dX3_init_85 : decode cX3_init 85 = .ok (.dup, 1) := by decide +kernel
theorem dX3_init_86 : decode cX3_init 86 = .ok (.iload 4, 2) := by decide +kernel
theorem dX3_init_88 : decode cX3_init 88 = .ok (.iload 5, 2) := by decide +kernel
theorem dX3_init_90 : decode cX3_init 90 = .ok (.iload 6, 2) := by decide +kernel
theorem dX3_init_92 : decode cX3_init 92 = .ok (.invokespecial 22, 3) := by decide +kernel
theorem dX3_init_95 : decode cX3_init 95 = .ok (.putfield 29, 3) := by decide +kernel
theorem dX3_init_98 : decode cX3_init 98 = .ok (.aload_n 0, 1) := by decide +kernel
theorem dX3_init_99 : decode cX3_init 99 = .ok (.bipush 6, 2) := by decide +kernel
theorem dX3_init_101 : decode cX3_init 101 = .ok (.newarray .int, 2) := by decide +kernel
theorem dX3_init_103 : decode cX3_init 103 = .ok (.putfield 32, 3) := by decide +kernel
theorem dX3_init_106 : decode cX3_init 106 = .ok (.return_, 1) := by decide +kernel
theorem dX3_piece_0 : decode cX3_piece 0 = .ok (.iload_n 1, 1) := by decide +kernel
theorem dX3_piece_1 : decode cX3_piece 1 = .ok (.invokestatic 36, 3) := by decide +kernel
theorem dX3_piece_4 : decode cX3_piece 4 = .ok (.ifCond .eq 17, 3) := by decide +kernel
theorem dX3_piece_7 : decode cX3_piece 7 = .ok (.iload_n 2, 1) := by decide +kernel
theorem dX3_piece_8 : decode cX3_piece 8 = .ok (.invokestatic 36, 3) := by decide +kernel
theorem dX3_piece_11 : decode cX3_piece 11 = .ok (.ifCond .eq 10, 3) := by decide +kernel
theorem dX3_piece_14 : decode cX3_piece 14 = .ok (.iload_n 3, 1) := by decide +kernel
theorem dX3_piece_15 : decode cX3_piece 15 = .ok (.invokestatic 36, 3) := by decide +kernel
theorem dX3_piece_18 : decode cX3_piece 18 = .ok (.ifCond .ne 13, 3) := by decide +kernel
theorem dX3_piece_21 : decode cX3_piece 21 = .ok (.new 40, 3) := by decide +kernel
theorem dX3_piece_24 : decode cX3_piece 24 = .ok (.dup, 1) := by decide +kernel
theorem dX3_piece_25 : decode cX3_piece 25 = .ok (.ldc 42, 2) := by decide +kernel
theorem dX3_piece_27 : decode cX3_piece 27 = .ok (.invokespecial 44, 3) := by decide +kernel
theorem dX3_piece_30 : decode cX3_piece 30 = .ok (.athrow, 1) := by decide +kernel
theorem dX3_piece_31 : decode cX3_piece 31 = .ok (.iload 4, 2) := by decide +kernel
theorem dX3_piece_33 : decode cX3_piece 33 = .ok (.ifCond .lt 10, 3) := by decide +kernel
theorem dX3_piece_36 : decode cX3_piece 36 = .ok (.iload 4, 2) := by decide +kernel
theorem dX3_piece_38 : decode cX3_piece 38 = .ok (.bipush 100, 2) := by decide +kernel
theorem dX3_piece_40 : decode cX3_piece 40 = .ok (.if_icmp .le 13, 3) := by decide +kernel
theorem dX3_piece_43 : decode cX3_piece 43 = .ok (.new 40, 3) := by decide +kernel
theorem dX3_piece_46 : decode cX3_piece 46 = .ok (.dup, 1) := by decide +kernel
theorem dX3_piece_47 : decode cX3_piece 47 = .ok (.ldc 47, 2) := by decide +kernel
theorem dX3_piece_49 : decode cX3_piece 49 = .ok (.invokespecial 44, 3) := by decide +kernel
theorem dX3_piece_52 : decode cX3_piece 52 = .ok (.athrow, 1) := by decide +kernel
theorem dX3_piece_53 : decode cX3_piece 53 = .ok (.aload_n 0, 1) := by decide +kernel
theorem dX3_piece_54 : decode cX3_piece 54 = .ok (.getfield 49, 3) := by decide +kernel
theorem dX3_piece_57 : decode cX3_piece 57 = .ok (.aload_n 0, 1) := by decide +kernel
theorem dX3_piece_58 : decode cX3_piece 58 = .ok (.getfield 15, 3) := by decide +kernel
theorem dX3_piece_61 : decode cX3_piece 61 = .ok (.arraylength, 1) := by decide +kernel
theorem dX3_piece_62 : decode cX3_piece 62 = .ok (.if_icmp .lt 13, 3) := by decide +kernel
theorem dX3_piece_65 : decode cX3_piece 65 = .ok (.new 53, 3) := by decide +kernel
theorem dX3_piece_68 : decode cX3_piece 68 = .ok (.dup, 1) := by decide +kernel
theorem dX3_piece_69 : decode cX3_piece 69 = .ok (.ldc 55, 2) := by decide +kernel
theorem dX3_piece_71 : decode cX3_piece 71 = .ok (.invokespecial 57, 3) := by decide +kernel
theorem dX3_piece_74 : decode cX3_piece 74 = .ok (.athrow, 1) := by decide +kernel
theorem dX3_piece_75 : decode cX3_piece 75 = .ok (.aload_n 0, 1) := by decide +kernel
theorem dX3_piece_76 : decode cX3_piece 76 = .ok (.getfield 49, 3) := by decide +kernel
theorem dX3_piece_79 : decode cX3_piece 79 = .ok (.istore 5, 2) := by decide +kernel
theorem dX3_piece_81 : decode cX3_piece 81 = .ok (.aload_n 0, 1) := by decide +kernel
theorem dX3_piece_82 : decode cX3_piece 82 = .ok (.getfield 15, 3) := by decide +kernel
theorem dX3_piece_85 : decode cX3_piece 85 = .ok (.iload 5, 2) := by decide +kernel
theorem dX3_piece_87 : decode cX3_piece 87 = .ok (.aaload, 1) := by decide +kernel
theorem dX3_piece_88 : decode cX3_piece 88 = .ok (.iload_n 1, 1) := by decide +kernel
theorem dX3_piece_89 : decode cX3_piece 89 = .ok (.iload_n 2, 1) := by decide +kernel
theorem dX3_piece_90 : decode cX3_piece 90 = .ok (.iload_n 3, 1) := by decide +kernel
theorem dX3_piece_91 : decode cX3_piece 91 = .ok (.iload 4, 2) := by decide +kernel
theorem dX3_piece_93 : decode cX3_piece 93 = .ok (.invokevirtual 58, 3) := by decide +kernel
theorem dX3_piece_96 : decode cX3_piece 96 = .ok (.aload_n 0, 1) := by decide +kernel
theorem dX3_piece_97 : decode cX3_piece 97 = .ok (.dup, 1) := by decide +kernel
theorem dX3_piece_98 : decode cX3_piece 98 = .ok (.getfield 49, 3) := by decide +kernel
theorem dX3_piece_101 : decode cX3_piece 101 = .ok (.iconst 1, 1) := by decide +kernel
theorem dX3_piece_102 : decode cX3_piece 102 = .ok (.iadd, 1) := by decide +kernel
theorem dX3_piece_103 : decode cX3_piece 103 = .ok (.putfield 49, 3) := by decide +kernel
theorem dX3_piece_106 : decode cX3_piece 106 = .ok (.iload 5, 2) := by decide +kernel
theorem dX3_piece_108 : decode cX3_piece 108 = .ok (.ireturn, 1) := by decide +kernel
theorem dX3_turn_0 : decode cX3_turn 0 = .ok (.aload_n 0, 1) := by decide +kernel
theorem dX3_turn_1 : decode cX3_turn 1 = .ok (.iload_n 1, 1) := by decide +kernel
theorem dX3_turn_2 : decode cX3_turn 2 = .ok (.invokevirtual 62, 3) := by decide +kernel
theorem dX3_turn_5 : decode cX3_turn 5 = .ok (.astore_n 3, 1) := by decide +kernel
theorem dX3_turn_6 : decode cX3_turn 6 = .ok (.iload_n 2, 1) := by decide +kernel
theorem dX3_turn_7 : decode cX3_turn 7 = .ok (.ifCond .lt 8, 3) := by decide +kernel
theorem dX3_turn_10 : decode cX3_turn 10 = .ok (.iload_n 2, 1) := by decide +kernel
theorem dX3_turn_11 : decode cX3_turn 11 = .ok (.iconst 3, 1) := by decide +kernel
theorem dX3_turn_12 : decode cX3_turn 12 = .ok (.if_icmp .le 13, 3) := by decide +kernel
theorem dX3_turn_15 : decode cX3_turn 15 = .ok (.new 40, 3) := by decide +kernel
theorem dX3_turn_18 : decode cX3_turn 18 = .ok (.dup, 1) := by decide +kernel
theorem dX3_turn_19 : decode cX3_turn 19 = .ok (.ldc 66, 2) := by decide +kernel
theorem dX3_turn_21 : decode cX3_turn 21 = .ok (.invokespecial 44, 3) := by decide +kernel
theorem dX3_turn_24 : decode cX3_turn 24 = .ok (.athrow, 1) := by decide +kernel
theorem dX3_turn_25 : decode cX3_turn 25 = .ok (.aload_n 3, 1) := by decide +kernel
theorem dX3_turn_26 : decode cX3_turn 26 = .ok (.iload_n 2, 1) := by decide +kernel
theorem dX3_turn_27 : decode cX3_turn 27 = .ok (.invokevirtual 68, 3) := by decide +kernel
theorem dX3_turn_30 : decode cX3_turn 30 = .ok (.aload_n 3, 1) := by decide +kernel
theorem dX3_turn_31 : decode cX3_turn 31 = .ok (.invokevirtual 72, 3) := by decide +kernel
theorem dX3_turn_34 : decode cX3_turn 34 = .ok (.ireturn, 1) := by decide +kernel
theorem dX3_limit_0 : decode cX3_limit 0 = .ok (.aload_n 0, 1) := by decide +kernel
theorem dX3_limit_1 : decode cX3_limit 1 = .ok (.iload_n 1, 1) := by decide +kernel
theorem dX3_limit_2 : decode cX3_limit 2 = .ok (.invokevirtual 62, 3) := by decide +kernel
theorem dX3_limit_5 : decode cX3_limit 5 = .ok (.astore_n 3, 1) := by decide +kernel
theorem dX3_limit_6 : decode cX3_limit 6 = .ok (.iload_n 2, 1) := by decide +kernel
theorem dX3_limit_7 : decode cX3_limit 7 = .ok (.iconst (-1), 1) := by decide +kernel
theorem dX3_limit_8 : decode cX3_limit 8 = .ok (.if_icmp .lt 10, 3) := by decide +kernel
theorem dX3_limit_11 : decode cX3_limit 11 = .ok (.iload_n 2, 1) := by decide +kernel
theorem dX3_limit_12 : decode cX3_limit 12 = .ok (.sipush 1000, 3) := by decide +kernel
theorem dX3_limit_15 : decode cX3_limit 15 = .ok (.if_icmp .le 13, 3) := by decide +kernel
theorem dX3_limit_18 : decode cX3_limit 18 = .ok (.new 40, 3) := by decide +kernel
theorem dX3_limit_21 : decode cX3_limit 21 = .ok (.dup, 1) := by decide +kernel
theorem dX3_limit_22 : decode cX3_limit 22 = .ok (.ldc 76, 2) := by decide +kernel
theorem dX3_limit_24 : decode cX3_limit 24 = .ok (.invokespecial 44, 3) := by decide +kernel
theorem dX3_limit_27 : decode cX3_limit 27 = .ok (.athrow, 1) := by decide +kernel
theorem dX3_limit_28 : decode cX3_limit 28 = .ok (.aload_n 3, 1) := by decide +kernel
theorem dX3_limit_29 : decode cX3_limit 29 = .ok (.iload_n 2, 1) := by decide +kernel
theorem dX3_limit_30 : decode cX3_limit 30 = .ok (.putfield 78, 3) := by decide +kernel
theorem dX3_limit_33 : decode cX3_limit 33 = .ok (.return_, 1) := by decide +kernel
theorem dX3_rank_0 : decode cX3_rank 0 = .ok (.aload_n 0, 1) := by decide +kernel
theorem dX3_rank_1 : decode cX3_rank 1 = .ok (.iload_n 1, 1) := by decide +kernel
theorem dX3_rank_2 : decode cX3_rank 2 = .ok (.invokevirtual 62, 3) := by decide +kernel
theorem dX3_rank_5 : decode cX3_rank 5 = .ok (.astore_n 3, 1) := by decide +kernel
theorem dX3_rank_6 : decode cX3_rank 6 = .ok (.iload_n 2, 1) := by decide +kernel
theorem dX3_rank_7 : decode cX3_rank 7 = .ok (.ifCond .lt 9, 3) := by decide +kernel
theorem dX3_rank_10 : decode cX3_rank 10 = .ok (.iload_n 2, 1) := by decide +kernel
theorem dX3_rank_11 : decode cX3_rank 11 = .ok (.bipush 9, 2) := by decide +kernel
theorem dX3_rank_13 : decode cX3_rank 13 = .ok (.if_icmp .le 13, 3) := by decide +kernel
theorem dX3_rank_16 : decode cX3_rank 16 = .ok (.new 40, 3) := by decide +kernel
theorem dX3_rank_19 : decode cX3_rank 19 = .ok (.dup, 1) := by decide +kernel
theorem dX3_rank_20 : decode cX3_rank 20 = .ok (.ldc 81, 2) := by decide +kernel
theorem dX3_rank_22 : decode cX3_rank 22 = .ok (.invokespecial 44, 3) := by decide +kernel
theorem dX3_rank_25 : decode cX3_rank 25 = .ok (.athrow, 1) := by decide +kernel
theorem dX3_rank_26 : decode cX3_rank 26 = .ok (.aload_n 3, 1) := by decide +kernel
theorem dX3_rank_27 : decode cX3_rank 27 = .ok (.iload_n 2, 1) := by decide +kernel
theorem dX3_rank_28 : decode cX3_rank 28 = .ok (.putfield 83, 3) := by decide +kernel
theorem dX3_rank_31 : decode cX3_rank 31 = .ok (.aload_n 3, 1) := by decide +kernel
theorem dX3_rank_32 : decode cX3_rank 32 = .ok (.invokevirtual 86, 3) := by decide +kernel
theorem dX3_rank_35 : decode cX3_rank 35 = .ok (.ifCond .eq 7, 3) := by decide +kernel
theorem dX3_rank_38 : decode cX3_rank 38 = .ok (.iconst (-1), 1) := by decide +kernel
theorem dX3_rank_39 : decode cX3_rank 39 = .ok (.goto 9, 3) := by decide +kernel
theorem dX3_rank_42 : decode cX3_rank 42 = .ok (.aload_n 0, 1) := by decide +kernel
theorem dX3_rank_43 : decode cX3_rank 43 = .ok (.aload_n 3, 1) := by decide +kernel
theorem dX3_rank_44 : decode cX3_rank 44 = .ok (.iload_n 1, 1) := by decide +kernel
theorem dX3_rank_45 : decode cX3_rank 45 = .ok (.invokevirtual 90, 3) := by decide +kernel
theorem dX3_rank_48 : decode cX3_rank 48 = .ok (.ireturn, 1) := by decide +kernel
theorem dX3_share_0 : decode cX3_share 0 = .ok (.iload_n 1, 1) := by decide +kernel
theorem dX3_share_1 : decode cX3_share 1 = .ok (.ifCond .lt 9, 3) := by decide +kernel
theorem dX3_share_4 : decode cX3_share 4 = .ok (.iload_n 1, 1) := by decide +kernel
theorem dX3_share_5 : decode cX3_share 5 = .ok (.bipush 100, 2) := by decide +kernel
theorem dX3_share_7 : decode cX3_share 7 = .ok (.if_icmp .le 13, 3) := by decide +kernel
theorem dX3_share_10 : decode cX3_share 10 = .ok (.new 40, 3) := by decide +kernel
theorem dX3_share_13 : decode cX3_share 13 = .ok (.dup, 1) := by decide +kernel
theorem dX3_share_14 : decode cX3_share 14 = .ok (.ldc 94, 2) := by decide +kernel
theorem dX3_share_16 : decode cX3_share 16 = .ok (.invokespecial 44, 3) := by decide +kernel
theorem dX3_share_19 : decode cX3_share 19 = .ok (.athrow, 1) := by decide +kernel
theorem dX3_share_20 : decode cX3_share 20 = .ok (.aload_n 0, 1) := by decide +kernel
theorem dX3_share_21 : decode cX3_share 21 = .ok (.iload_n 1, 1) := by decide +kernel
theorem dX3_share_22 : decode cX3_share 22 = .ok (.putfield 96, 3) := by decide +kernel
theorem dX3_share_25 : decode cX3_share 25 = .ok (.return_, 1) := by decide +kernel
theorem dX3_solve_0 : decode cX3_solve 0 = .ok (.iload_n 1, 1) := by decide +kernel
theorem dX3_solve_1 : decode cX3_solve 1 = .ok (.ifCond .lt 10, 3) := by decide +kernel
theorem dX3_solve_4 : decode cX3_solve 4 = .ok (.iload_n 1, 1) := by decide +kernel
theorem dX3_solve_5 : decode cX3_solve 5 = .ok (.sipush 3000, 3) := by decide +kernel
theorem dX3_solve_8 : decode cX3_solve 8 = .ok (.if_icmp .le 13, 3) := by decide +kernel
theorem dX3_solve_11 : decode cX3_solve 11 = .ok (.new 40, 3) := by decide +kernel
theorem dX3_solve_14 : decode cX3_solve 14 = .ok (.dup, 1) := by decide +kernel
theorem dX3_solve_15 : decode cX3_solve 15 = .ok (.ldc 99, 2) := by decide +kernel
theorem dX3_solve_17 : decode cX3_solve 17 = .ok (.invokespecial 44, 3) := by decide +kernel
theorem dX3_solve_20 : decode cX3_solve 20 = .ok (.athrow, 1) := by decide +kernel
theorem dX3_solve_21 : decode cX3_solve 21 = .ok (.aload_n 0, 1) := by decide +kernel
theorem dX3_solve_22 : decode cX3_solve 22 = .ok (.iload_n 1, 1) := by decide +kernel
theorem dX3_solve_23 : decode cX3_solve 23 = .ok (.invokevirtual 101, 3) := by decide +kernel
theorem dX3_solve_26 : decode cX3_solve 26 = .ok (.aload_n 0, 1) := by decide +kernel
theorem dX3_solve_27 : decode cX3_solve 27 = .ok (.iconst 0, 1) := by decide +kernel
theorem dX3_solve_28 : decode cX3_solve 28 = .ok (.invokevirtual 104, 3) := by decide +kernel
theorem dX3_solve_31 : decode cX3_solve 31 = .ok (.aload_n 0, 1) := by decide +kernel
theorem dX3_solve_32 : decode cX3_solve 32 = .ok (.aload_n 0, 1) := by decide +kernel
theorem dX3_solve_33 : decode cX3_solve 33 = .ok (.getfield 107, 3) := by decide +kernel
theorem dX3_solve_36 : decode cX3_solve 36 = .ok (.ifCond .ne 7, 3) := by decide +kernel
theorem dX3_solve_39 : decode cX3_solve 39 = .ok (.iconst 1, 1) := by decide +kernel
theorem dX3_solve_40 : decode cX3_solve 40 = .ok (.goto 4, 3) := by decide +kernel
theorem dX3_solve_43 : decode cX3_solve 43 = .ok (.iconst 0, 1) := by decide +kernel
theorem dX3_solve_44 : decode cX3_solve 44 = .ok (.putfield 111, 3) := by decide +kernel
theorem dX3_solve_47 : decode cX3_solve 47 = .ok (.aload_n 0, 1) := by decide +kernel
theorem dX3_solve_48 : decode cX3_solve 48 = .ok (.getfield 25, 3) := by decide +kernel
theorem dX3_solve_51 : decode cX3_solve 51 = .ok (.invokevirtual 114, 3) := by decide +kernel
theorem dX3_solve_54 : decode cX3_solve 54 = .ok (.ireturn, 1) := by decide +kernel
theorem dX3_exact_0 : decode cX3_exact 0 = .ok (.aload_n 0, 1) := by decide +kernel
theorem dX3_exact_1 : decode cX3_exact 1 = .ok (.getfield 111, 3) := by decide +kernel
theorem dX3_exact_4 : decode cX3_exact 4 = .ok (.ireturn, 1) := by decide +kernel
theorem dX3_steps_0 : decode cX3_steps 0 = .ok (.aload_n 0, 1) := by decide +kernel
theorem dX3_steps_1 : decode cX3_steps 1 = .ok (.getfield 117, 3) := by decide +kernel
theorem dX3_steps_4 : decode cX3_steps 4 = .ok (.ireturn, 1) := by decide +kernel
theorem dX3_bound_0 : decode cX3_bound 0 = .ok (.iconst 0, 1) := by decide +kernel
theorem dX3_bound_1 : decode cX3_bound 1 = .ok (.istore_n 1, 1) := by decide +kernel
theorem dX3_bound_2 : decode cX3_bound 2 = .ok (.iconst 0, 1) := by decide +kernel
theorem dX3_bound_3 : decode cX3_bound 3 = .ok (.istore_n 2, 1) := by decide +kernel
theorem dX3_bound_4 : decode cX3_bound 4 = .ok (.iload_n 2, 1) := by decide +kernel
theorem dX3_bound_5 : decode cX3_bound 5 = .ok (.aload_n 0, 1) := by decide +kernel
theorem dX3_bound_6 : decode cX3_bound 6 = .ok (.getfield 49, 3) := by decide +kernel
theorem dX3_bound_9 : decode cX3_bound 9 = .ok (.if_icmp .ge 46, 3) := by decide +kernel
theorem dX3_bound_12 : decode cX3_bound 12 = .ok (.aload_n 0, 1) := by decide +kernel
theorem dX3_bound_13 : decode cX3_bound 13 = .ok (.getfield 15, 3) := by decide +kernel
theorem dX3_bound_16 : decode cX3_bound 16 = .ok (.iload_n 2, 1) := by decide +kernel
theorem dX3_bound_17 : decode cX3_bound 17 = .ok (.aaload, 1) := by decide +kernel
theorem dX3_bound_18 : decode cX3_bound 18 = .ok (.invokevirtual 86, 3) := by decide +kernel
theorem dX3_bound_21 : decode cX3_bound 21 = .ok (.ifCond .ne 28, 3) := by decide +kernel
theorem dX3_bound_24 : decode cX3_bound 24 = .ok (.aload_n 0, 1) := by decide +kernel
theorem dX3_bound_25 : decode cX3_bound 25 = .ok (.aload_n 0, 1) := by decide +kernel
theorem dX3_bound_26 : decode cX3_bound 26 = .ok (.getfield 15, 3) := by decide +kernel
theorem dX3_bound_29 : decode cX3_bound 29 = .ok (.iload_n 2, 1) := by decide +kernel
theorem dX3_bound_30 : decode cX3_bound 30 = .ok (.aaload, 1) := by decide +kernel
theorem dX3_bound_31 : decode cX3_bound 31 = .ok (.invokevirtual 120, 3) := by decide +kernel
theorem dX3_bound_34 : decode cX3_bound 34 = .ok (.ifCond .eq 15, 3) := by decide +kernel
theorem dX3_bound_37 : decode cX3_bound 37 = .ok (.iload_n 1, 1) := by decide +kernel
theorem dX3_bound_38 : decode cX3_bound 38 = .ok (.aload_n 0, 1) := by decide +kernel
theorem dX3_bound_39 : decode cX3_bound 39 = .ok (.getfield 15, 3) := by decide +kernel
theorem dX3_bound_42 : decode cX3_bound 42 = .ok (.iload_n 2, 1) := by decide +kernel
theorem dX3_bound_43 : decode cX3_bound 43 = .ok (.aaload, 1) := by decide +kernel
theorem dX3_bound_44 : decode cX3_bound 44 = .ok (.invokevirtual 124, 3) := by decide +kernel
theorem dX3_bound_47 : decode cX3_bound 47 = .ok (.iadd, 1) := by decide +kernel
theorem dX3_bound_48 : decode cX3_bound 48 = .ok (.istore_n 1, 1) := by decide +kernel
theorem dX3_bound_49 : decode cX3_bound 49 = .ok (.iinc 2 1, 3) := by decide +kernel
theorem dX3_bound_52 : decode cX3_bound 52 = .ok (.goto (-48), 3) := by decide +kernel
theorem dX3_bound_55 : decode cX3_bound 55 = .ok (.aload_n 0, 1) := by decide +kernel
theorem dX3_bound_56 : decode cX3_bound 56 = .ok (.getfield 25, 3) := by decide +kernel
theorem dX3_bound_59 : decode cX3_bound 59 = .ok (.invokevirtual 125, 3) := by decide +kernel
theorem dX3_bound_62 : decode cX3_bound 62 = .ok (.iload_n 1, 1) := by decide +kernel
theorem dX3_bound_63 : decode cX3_bound 63 = .ok (.invokestatic 128, 3) := by decide +kernel
theorem dX3_bound_66 : decode cX3_bound 66 = .ok (.ireturn, 1) := by decide +kernel
theorem dX3_at_0 : decode cX3_at 0 = .ok (.aload_n 0, 1) := by decide +kernel
theorem dX3_at_1 : decode cX3_at 1 = .ok (.iload_n 1, 1) := by decide +kernel
theorem dX3_at_2 : decode cX3_at 2 = .ok (.invokevirtual 134, 3) := by decide +kernel
theorem dX3_at_5 : decode cX3_at 5 = .ok (.astore_n 3, 1) := by decide +kernel
theorem dX3_at_6 : decode cX3_at 6 = .ok (.iload_n 2, 1) := by decide +kernel
theorem dX3_at_7 : decode cX3_at 7 = .ok (.ifCond .lt 9, 3) := by decide +kernel
theorem dX3_at_10 : decode cX3_at 10 = .ok (.iload_n 2, 1) := by decide +kernel
theorem dX3_at_11 : decode cX3_at 11 = .ok (.bipush 6, 2) := by decide +kernel
theorem dX3_at_13 : decode cX3_at 13 = .ok (.if_icmp .le 13, 3) := by decide +kernel
theorem dX3_at_16 : decode cX3_at 16 = .ok (.new 40, 3) := by decide +kernel
theorem dX3_at_19 : decode cX3_at 19 = .ok (.dup, 1) := by decide +kernel
theorem dX3_at_20 : decode cX3_at 20 = .ok (.ldc 138, 2) := by decide +kernel
theorem dX3_at_22 : decode cX3_at 22 = .ok (.invokespecial 44, 3) := by decide +kernel
theorem dX3_at_25 : decode cX3_at 25 = .ok (.athrow, 1) := by decide +kernel
theorem dX3_at_26 : decode cX3_at 26 = .ok (.aload_n 3, 1) := by decide +kernel
theorem dX3_at_27 : decode cX3_at 27 = .ok (.getfield 140, 3) := by decide +kernel
theorem dX3_at_30 : decode cX3_at 30 = .ok (.ifCond .eq 11, 3) := by decide +kernel
theorem dX3_at_33 : decode cX3_at 33 = .ok (.aload_n 3, 1) := by decide +kernel
theorem dX3_at_34 : decode cX3_at 34 = .ok (.iload_n 2, 1) := by decide +kernel
theorem dX3_at_35 : decode cX3_at 35 = .ok (.invokevirtual 145, 3) := by decide +kernel
theorem dX3_at_38 : decode cX3_at 38 = .ok (.goto 4, 3) := by decide +kernel
theorem dX3_at_41 : decode cX3_at 41 = .ok (.iconst (-1), 1) := by decide +kernel
theorem dX3_at_42 : decode cX3_at 42 = .ok (.ireturn, 1) := by decide +kernel
theorem dX3_over_0 : decode cX3_over 0 = .ok (.aload_n 0, 1) := by decide +kernel
theorem dX3_over_1 : decode cX3_over 1 = .ok (.iload_n 1, 1) := by decide +kernel
theorem dX3_over_2 : decode cX3_over 2 = .ok (.invokevirtual 134, 3) := by decide +kernel
theorem dX3_over_5 : decode cX3_over 5 = .ok (.astore_n 3, 1) := by decide +kernel
theorem dX3_over_6 : decode cX3_over 6 = .ok (.aload_n 0, 1) := by decide +kernel
theorem dX3_over_7 : decode cX3_over 7 = .ok (.iload_n 2, 1) := by decide +kernel
theorem dX3_over_8 : decode cX3_over 8 = .ok (.invokevirtual 134, 3) := by decide +kernel
theorem dX3_over_11 : decode cX3_over 11 = .ok (.astore 4, 2) := by decide +kernel
theorem dX3_over_13 : decode cX3_over 13 = .ok (.iload_n 1, 1) := by decide +kernel
theorem dX3_over_14 : decode cX3_over 14 = .ok (.iload_n 2, 1) := by decide +kernel
theorem dX3_over_15 : decode cX3_over 15 = .ok (.if_icmp .eq 18, 3) := by decide +kernel
theorem dX3_over_18 : decode cX3_over 18 = .ok (.aload_n 3, 1) := by decide +kernel
theorem dX3_over_19 : decode cX3_over 19 = .ok (.getfield 140, 3) := by decide +kernel
theorem dX3_over_22 : decode cX3_over 22 = .ok (.ifCond .eq 11, 3) := by decide +kernel
theorem dX3_over_25 : decode cX3_over 25 = .ok (.aload 4, 2) := by decide +kernel
theorem dX3_over_27 : decode cX3_over 27 = .ok (.getfield 140, 3) := by decide +kernel
theorem dX3_over_30 : decode cX3_over 30 = .ok (.ifCond .ne 13, 3) := by decide +kernel
theorem dX3_over_33 : decode cX3_over 33 = .ok (.new 148, 3) := by decide +kernel
theorem dX3_over_36 : decode cX3_over 36 = .ok (.dup, 1) := by decide +kernel
theorem dX3_over_37 : decode cX3_over 37 = .ok (.ldc 150, 2) := by decide +kernel
theorem dX3_over_39 : decode cX3_over 39 = .ok (.invokespecial 152, 3) := by decide +kernel
theorem dX3_over_42 : decode cX3_over 42 = .ok (.athrow, 1) := by decide +kernel
theorem dX3_over_43 : decode cX3_over 43 = .ok (.aload_n 3, 1) := by decide +kernel
theorem dX3_over_44 : decode cX3_over 44 = .ok (.aload 4, 2) := by decide +kernel
theorem dX3_over_46 : decode cX3_over 46 = .ok (.invokevirtual 153, 3) := by decide +kernel
theorem dX3_over_49 : decode cX3_over 49 = .ok (.ireturn, 1) := by decide +kernel
theorem dX3_support_0 : decode cX3_support 0 = .ok (.aload_n 0, 1) := by decide +kernel
theorem dX3_support_1 : decode cX3_support 1 = .ok (.iload_n 1, 1) := by decide +kernel
theorem dX3_support_2 : decode cX3_support 2 = .ok (.invokevirtual 134, 3) := by decide +kernel
theorem dX3_support_5 : decode cX3_support 5 = .ok (.astore_n 2, 1) := by decide +kernel
theorem dX3_support_6 : decode cX3_support 6 = .ok (.aload_n 2, 1) := by decide +kernel
theorem dX3_support_7 : decode cX3_support 7 = .ok (.invokevirtual 157, 3) := by decide +kernel
theorem dX3_support_10 : decode cX3_support 10 = .ok (.istore_n 3, 1) := by decide +kernel
theorem dX3_support_11 : decode cX3_support 11 = .ok (.iload_n 3, 1) := by decide +kernel
theorem dX3_support_12 : decode cX3_support 12 = .ok (.ifCond .ne 13, 3) := by decide +kernel
theorem dX3_support_15 : decode cX3_support 15 = .ok (.new 160, 3) := by decide +kernel
theorem dX3_support_18 : decode cX3_support 18 = .ok (.dup, 1) := by decide +kernel
theorem dX3_support_19 : decode cX3_support 19 = .ok (.ldc 162, 2) := by decide +kernel
theorem dX3_support_21 : decode cX3_support 21 = .ok (.invokespecial 164, 3) := by decide +kernel
theorem dX3_support_24 : decode cX3_support 24 = .ok (.athrow, 1) := by decide +kernel
theorem dX3_support_25 : decode cX3_support 25 = .ok (.bipush 100, 2) := by decide +kernel
theorem dX3_support_27 : decode cX3_support 27 = .ok (.aload_n 0, 1) := by decide +kernel
theorem dX3_support_28 : decode cX3_support 28 = .ok (.getfield 25, 3) := by decide +kernel
theorem dX3_support_31 : decode cX3_support 31 = .ok (.aload_n 2, 1) := by decide +kernel
theorem dX3_support_32 : decode cX3_support 32 = .ok (.invokevirtual 165, 3) := by decide +kernel
theorem dX3_support_35 : decode cX3_support 35 = .ok (.imul, 1) := by decide +kernel
theorem dX3_support_36 : decode cX3_support 36 = .ok (.iload_n 3, 1) := by decide +kernel
theorem dX3_support_37 : decode cX3_support 37 = .ok (.idiv, 1) := by decide +kernel
theorem dX3_support_38 : decode cX3_support 38 = .ok (.ireturn, 1) := by decide +kernel
theorem dX3_bears_0 : decode cX3_bears 0 = .ok (.aload_n 0, 1) := by decide +kernel
theorem dX3_bears_1 : decode cX3_bears 1 = .ok (.iload_n 1, 1) := by decide +kernel
theorem dX3_bears_2 : decode cX3_bears 2 = .ok (.invokevirtual 134, 3) := by decide +kernel
theorem dX3_bears_5 : decode cX3_bears 5 = .ok (.astore_n 2, 1) := by decide +kernel
theorem dX3_bears_6 : decode cX3_bears 6 = .ok (.aload_n 2, 1) := by decide +kernel
theorem dX3_bears_7 : decode cX3_bears 7 = .ok (.getfield 140, 3) := by decide +kernel
theorem dX3_bears_10 : decode cX3_bears 10 = .ok (.ifCond .ne 13, 3) := by decide +kernel
theorem dX3_bears_13 : decode cX3_bears 13 = .ok (.new 148, 3) := by decide +kernel
theorem dX3_bears_16 : decode cX3_bears 16 = .ok (.dup, 1) := by decide +kernel
theorem dX3_bears_17 : decode cX3_bears 17 = .ok (.ldc 162, 2) := by decide +kernel
theorem dX3_bears_19 : decode cX3_bears 19 = .ok (.invokespecial 152, 3) := by decide +kernel
theorem dX3_bears_22 : decode cX3_bears 22 = .ok (.athrow, 1) := by decide +kernel
theorem dX3_bears_23 : decode cX3_bears 23 = .ok (.aload_n 0, 1) := by decide +kernel
theorem dX3_bears_24 : decode cX3_bears 24 = .ok (.getfield 25, 3) := by decide +kernel
theorem dX3_bears_27 : decode cX3_bears 27 = .ok (.invokevirtual 169, 3) := by decide +kernel
theorem dX3_bears_30 : decode cX3_bears 30 = .ok (.aload_n 0, 1) := by decide +kernel
theorem dX3_bears_31 : decode cX3_bears 31 = .ok (.getfield 25, 3) := by decide +kernel
theorem dX3_bears_34 : decode cX3_bears 34 = .ok (.aload_n 2, 1) := by decide +kernel
theorem dX3_bears_35 : decode cX3_bears 35 = .ok (.invokevirtual 172, 3) := by decide +kernel
theorem dX3_bears_38 : decode cX3_bears 38 = .ok (.ireturn, 1) := by decide +kernel
theorem dX3_cell_0 : decode cX3_cell 0 = .ok (.aload_n 0, 1) := by decide +kernel
theorem dX3_cell_1 : decode cX3_cell 1 = .ok (.getfield 25, 3) := by decide +kernel
theorem dX3_cell_4 : decode cX3_cell 4 = .ok (.iload_n 1, 1) := by decide +kernel
theorem dX3_cell_5 : decode cX3_cell 5 = .ok (.iload_n 2, 1) := by decide +kernel
theorem dX3_cell_6 : decode cX3_cell 6 = .ok (.iload_n 3, 1) := by decide +kernel
theorem dX3_cell_7 : decode cX3_cell 7 = .ok (.invokevirtual 175, 3) := by decide +kernel
theorem dX3_cell_10 : decode cX3_cell 10 = .ok (.ifCond .ne 13, 3) := by decide +kernel
theorem dX3_cell_13 : decode cX3_cell 13 = .ok (.new 179, 3) := by decide +kernel
theorem dX3_cell_16 : decode cX3_cell 16 = .ok (.dup, 1) := by decide +kernel
theorem dX3_cell_17 : decode cX3_cell 17 = .ok (.ldc 181, 2) := by decide +kernel
theorem dX3_cell_19 : decode cX3_cell 19 = .ok (.invokespecial 183, 3) := by decide +kernel
theorem dX3_cell_22 : decode cX3_cell 22 = .ok (.athrow, 1) := by decide +kernel
theorem dX3_cell_23 : decode cX3_cell 23 = .ok (.aload_n 0, 1) := by decide +kernel
theorem dX3_cell_24 : decode cX3_cell 24 = .ok (.getfield 25, 3) := by decide +kernel
theorem dX3_cell_27 : decode cX3_cell 27 = .ok (.iload_n 1, 1) := by decide +kernel
theorem dX3_cell_28 : decode cX3_cell 28 = .ok (.iload_n 2, 1) := by decide +kernel
theorem dX3_cell_29 : decode cX3_cell 29 = .ok (.iload_n 3, 1) := by decide +kernel
theorem dX3_cell_30 : decode cX3_cell 30 = .ok (.invokevirtual 184, 3) := by decide +kernel
theorem dX3_cell_33 : decode cX3_cell 33 = .ok (.ireturn, 1) := by decide +kernel
theorem dX3_close_0 : decode cX3_close 0 = .ok (.aload_n 0, 1) := by decide +kernel
theorem dX3_close_1 : decode cX3_close 1 = .ok (.getfield 25, 3) := by decide +kernel
theorem dX3_close_4 : decode cX3_close 4 = .ok (.invokevirtual 188, 3) := by decide +kernel
theorem dX3_close_7 : decode cX3_close 7 = .ok (.ifCond .ne 13, 3) := by decide +kernel
theorem dX3_close_10 : decode cX3_close 10 = .ok (.new 148, 3) := by decide +kernel
theorem dX3_close_13 : decode cX3_close 13 = .ok (.dup, 1) := by decide +kernel
theorem dX3_close_14 : decode cX3_close 14 = .ok (.ldc 191, 2) := by decide +kernel
theorem dX3_close_16 : decode cX3_close 16 = .ok (.invokespecial 152, 3) := by decide +kernel
theorem dX3_close_19 : decode cX3_close 19 = .ok (.athrow, 1) := by decide +kernel
theorem dX3_close_20 : decode cX3_close 20 = .ok (.aload_n 0, 1) := by decide +kernel
theorem dX3_close_21 : decode cX3_close 21 = .ok (.getfield 193, 3) := by decide +kernel
theorem dX3_close_24 : decode cX3_close 24 = .ok (.istore_n 1, 1) := by decide +kernel
theorem dX3_close_25 : decode cX3_close 25 = .ok (.iconst 0, 1) := by decide +kernel
theorem dX3_close_26 : decode cX3_close 26 = .ok (.istore_n 2, 1) := by decide +kernel
theorem dX3_close_27 : decode cX3_close 27 = .ok (.iload_n 2, 1) := by decide +kernel
theorem dX3_close_28 : decode cX3_close 28 = .ok (.aload_n 0, 1) := by decide +kernel
theorem dX3_close_29 : decode cX3_close 29 = .ok (.getfield 49, 3) := by decide +kernel
theorem dX3_close_32 : decode cX3_close 32 = .ok (.if_icmp .ge 34, 3) := by decide +kernel
theorem dX3_close_35 : decode cX3_close 35 = .ok (.aload_n 0, 1) := by decide +kernel
theorem dX3_close_36 : decode cX3_close 36 = .ok (.getfield 25, 3) := by decide +kernel
theorem dX3_close_39 : decode cX3_close 39 = .ok (.getfield 196, 3) := by decide +kernel
theorem dX3_close_42 : decode cX3_close 42 = .ok (.iload_n 2, 1) := by decide +kernel
theorem dX3_close_43 : decode cX3_close 43 = .ok (.aaload, 1) := by decide +kernel
theorem dX3_close_44 : decode cX3_close 44 = .ok (.getfield 140, 3) := by decide +kernel
theorem dX3_close_47 : decode cX3_close 47 = .ok (.ifCond .eq 13, 3) := by decide +kernel
theorem dX3_close_50 : decode cX3_close 50 = .ok (.aload_n 0, 1) := by decide +kernel
theorem dX3_close_51 : decode cX3_close 51 = .ok (.getfield 15, 3) := by decide +kernel
theorem dX3_close_54 : decode cX3_close 54 = .ok (.iload_n 2, 1) := by decide +kernel
theorem dX3_close_55 : decode cX3_close 55 = .ok (.aaload, 1) := by decide +kernel
theorem dX3_close_56 : decode cX3_close 56 = .ok (.iload_n 1, 1) := by decide +kernel
theorem dX3_close_57 : decode cX3_close 57 = .ok (.putfield 200, 3) := by decide +kernel
theorem dX3_close_60 : decode cX3_close 60 = .ok (.iinc 2 1, 3) := by decide +kernel
theorem dX3_close_63 : decode cX3_close 63 = .ok (.goto (-36), 3) := by decide +kernel
theorem dX3_close_66 : decode cX3_close 66 = .ok (.aload_n 0, 1) := by decide +kernel
theorem dX3_close_67 : decode cX3_close 67 = .ok (.getfield 25, 3) := by decide +kernel
theorem dX3_close_70 : decode cX3_close 70 = .ok (.invokevirtual 203, 3) := by decide +kernel
theorem dX3_close_73 : decode cX3_close 73 = .ok (.aload_n 0, 1) := by decide +kernel
theorem dX3_close_74 : decode cX3_close 74 = .ok (.dup, 1) := by decide +kernel
theorem dX3_close_75 : decode cX3_close 75 = .ok (.getfield 193, 3) := by decide +kernel
theorem dX3_close_78 : decode cX3_close 78 = .ok (.iconst 1, 1) := by decide +kernel
theorem dX3_close_79 : decode cX3_close 79 = .ok (.iadd, 1) := by decide +kernel
theorem dX3_close_80 : decode cX3_close 80 = .ok (.putfield 193, 3) := by decide +kernel
theorem dX3_close_83 : decode cX3_close 83 = .ok (.iload_n 1, 1) := by decide +kernel
theorem dX3_close_84 : decode cX3_close 84 = .ok (.ireturn, 1) := by decide +kernel
theorem dX3_box_0 : decode cX3_box 0 = .ok (.aload_n 0, 1) := by decide +kernel
theorem dX3_box_1 : decode cX3_box 1 = .ok (.iload_n 1, 1) := by decide +kernel
theorem dX3_box_2 : decode cX3_box 2 = .ok (.invokevirtual 62, 3) := by decide +kernel
theorem dX3_box_5 : decode cX3_box 5 = .ok (.getfield 200, 3) := by decide +kernel
theorem dX3_box_8 : decode cX3_box 8 = .ok (.ireturn, 1) := by decide +kernel
theorem dX3_count_0 : decode cX3_count 0 = .ok (.iload_n 1, 1) := by decide +kernel
theorem dX3_count_1 : decode cX3_count 1 = .ok (.tableswitch 90 0 6 #[43, 48, 56, 61, 66, 74, 82], 43) := by decide +kernel
theorem dX3_count_44 : decode cX3_count 44 = .ok (.aload_n 0, 1) := by decide +kernel
theorem dX3_count_45 : decode cX3_count 45 = .ok (.getfield 49, 3) := by decide +kernel
theorem dX3_count_48 : decode cX3_count 48 = .ok (.ireturn, 1) := by decide +kernel
theorem dX3_count_49 : decode cX3_count 49 = .ok (.aload_n 0, 1) := by decide +kernel
theorem dX3_count_50 : decode cX3_count 50 = .ok (.getfield 25, 3) := by decide +kernel
theorem dX3_count_53 : decode cX3_count 53 = .ok (.invokevirtual 188, 3) := by decide +kernel
theorem dX3_count_56 : decode cX3_count 56 = .ok (.ireturn, 1) := by decide +kernel
theorem dX3_count_57 : decode cX3_count 57 = .ok (.aload_n 0, 1) := by decide +kernel
theorem dX3_count_58 : decode cX3_count 58 = .ok (.invokevirtual 206, 3) := by decide +kernel
theorem dX3_count_61 : decode cX3_count 61 = .ok (.ireturn, 1) := by decide +kernel
theorem dX3_count_62 : decode cX3_count 62 = .ok (.aload_n 0, 1) := by decide +kernel
theorem dX3_count_63 : decode cX3_count 63 = .ok (.getfield 193, 3) := by decide +kernel
theorem dX3_count_66 : decode cX3_count 66 = .ok (.ireturn, 1) := by decide +kernel
theorem dX3_count_67 : decode cX3_count 67 = .ok (.aload_n 0, 1) := by decide +kernel
theorem dX3_count_68 : decode cX3_count 68 = .ok (.getfield 25, 3) := by decide +kernel
theorem dX3_count_71 : decode cX3_count 71 = .ok (.invokevirtual 114, 3) := by decide +kernel
theorem dX3_count_74 : decode cX3_count 74 = .ok (.ireturn, 1) := by decide +kernel
theorem dX3_count_75 : decode cX3_count 75 = .ok (.aload_n 0, 1) := by decide +kernel
theorem dX3_count_76 : decode cX3_count 76 = .ok (.getfield 25, 3) := by decide +kernel
theorem dX3_count_79 : decode cX3_count 79 = .ok (.invokevirtual 209, 3) := by decide +kernel
theorem dX3_count_82 : decode cX3_count 82 = .ok (.ireturn, 1) := by decide +kernel
theorem dX3_count_83 : decode cX3_count 83 = .ok (.aload_n 0, 1) := by decide +kernel
theorem dX3_count_84 : decode cX3_count 84 = .ok (.getfield 25, 3) := by decide +kernel
theorem dX3_count_87 : decode cX3_count 87 = .ok (.invokevirtual 212, 3) := by decide +kernel
theorem dX3_count_90 : decode cX3_count 90 = .ok (.ireturn, 1) := by decide +kernel
theorem dX3_count_91 : decode cX3_count 91 = .ok (.iconst (-1), 1) := by decide +kernel
theorem dX3_count_92 : decode cX3_count 92 = .ok (.ireturn, 1) := by decide +kernel
theorem dX3_asSide_0 : decode cX3_asSide 0 = .ok (.iconst 1, 1) := by decide +kernel
theorem dX3_asSide_1 : decode cX3_asSide 1 = .ok (.bipush 8, 2) := by decide +kernel
theorem dX3_asSide_3 : decode cX3_asSide 3 = .ok (.iload_n 0, 1) := by decide +kernel
theorem dX3_asSide_4 : decode cX3_asSide 4 = .ok (.invokestatic 128, 3) := by decide +kernel
theorem dX3_asSide_7 : decode cX3_asSide 7 = .ok (.invokestatic 215, 3) := by decide +kernel
theorem dX3_asSide_10 : decode cX3_asSide 10 = .ok (.ireturn, 1) := by decide +kernel
theorem dX3_isSide_0 : decode cX3_isSide 0 = .ok (.iload_n 0, 1) := by decide +kernel
theorem dX3_isSide_1 : decode cX3_isSide 1 = .ok (.iconst 1, 1) := by decide +kernel
theorem dX3_isSide_2 : decode cX3_isSide 2 = .ok (.if_icmp .lt 13, 3) := by decide +kernel
theorem dX3_isSide_5 : decode cX3_isSide 5 = .ok (.iload_n 0, 1) := by decide +kernel
theorem dX3_isSide_6 : decode cX3_isSide 6 = .ok (.bipush 8, 2) := by decide +kernel
theorem dX3_isSide_8 : decode cX3_isSide 8 = .ok (.if_icmp .gt 7, 3) := by decide +kernel
theorem dX3_isSide_11 : decode cX3_isSide 11 = .ok (.iconst 1, 1) := by decide +kernel
theorem dX3_isSide_12 : decode cX3_isSide 12 = .ok (.goto 4, 3) := by decide +kernel
theorem dX3_isSide_15 : decode cX3_isSide 15 = .ok (.iconst 0, 1) := by decide +kernel
theorem dX3_isSide_16 : decode cX3_isSide 16 = .ok (.ireturn, 1) := by decide +kernel
theorem dX3_isIn_0 : decode cX3_isIn 0 = .ok (.iload_n 0, 1) := by decide +kernel
theorem dX3_isIn_1 : decode cX3_isIn 1 = .ok (.iload_n 1, 1) := by decide +kernel
theorem dX3_isIn_2 : decode cX3_isIn 2 = .ok (.ishr, 1) := by decide +kernel
theorem dX3_isIn_3 : decode cX3_isIn 3 = .ok (.iconst 1, 1) := by decide +kernel
theorem dX3_isIn_4 : decode cX3_isIn 4 = .ok (.iand, 1) := by decide +kernel
theorem dX3_isIn_5 : decode cX3_isIn 5 = .ok (.iconst 1, 1) := by decide +kernel
theorem dX3_isIn_6 : decode cX3_isIn 6 = .ok (.if_icmp .ne 7, 3) := by decide +kernel
theorem dX3_isIn_9 : decode cX3_isIn 9 = .ok (.iconst 1, 1) := by decide +kernel
theorem dX3_isIn_10 : decode cX3_isIn 10 = .ok (.goto 4, 3) := by decide +kernel
theorem dX3_isIn_13 : decode cX3_isIn 13 = .ok (.iconst 0, 1) := by decide +kernel
theorem dX3_isIn_14 : decode cX3_isIn 14 = .ok (.ireturn, 1) := by decide +kernel
theorem dX3_known_0 : decode cX3_known 0 = .ok (.iload_n 1, 1) := by decide +kernel
theorem dX3_known_1 : decode cX3_known 1 = .ok (.ifCond .lt 11, 3) := by decide +kernel
theorem dX3_known_4 : decode cX3_known 4 = .ok (.iload_n 1, 1) := by decide +kernel
theorem dX3_known_5 : decode cX3_known 5 = .ok (.aload_n 0, 1) := by decide +kernel
theorem dX3_known_6 : decode cX3_known 6 = .ok (.getfield 49, 3) := by decide +kernel
theorem dX3_known_9 : decode cX3_known 9 = .ok (.if_icmp .lt 13, 3) := by decide +kernel
theorem dX3_known_12 : decode cX3_known 12 = .ok (.new 218, 3) := by decide +kernel
theorem dX3_known_15 : decode cX3_known 15 = .ok (.dup, 1) := by decide +kernel
theorem dX3_known_16 : decode cX3_known 16 = .ok (.ldc 220, 2) := by decide +kernel
theorem dX3_known_18 : decode cX3_known 18 = .ok (.invokespecial 222, 3) := by decide +kernel
theorem dX3_known_21 : decode cX3_known 21 = .ok (.athrow, 1) := by decide +kernel
theorem dX3_known_22 : decode cX3_known 22 = .ok (.aload_n 0, 1) := by decide +kernel
theorem dX3_known_23 : decode cX3_known 23 = .ok (.getfield 15, 3) := by decide +kernel
theorem dX3_known_26 : decode cX3_known 26 = .ok (.iload_n 1, 1) := by decide +kernel
theorem dX3_known_27 : decode cX3_known 27 = .ok (.aaload, 1) := by decide +kernel
theorem dX3_known_28 : decode cX3_known 28 = .ok (.areturn, 1) := by decide +kernel
theorem dX3_spotOf_0 : decode cX3_spotOf 0 = .ok (.iload_n 1, 1) := by decide +kernel
theorem dX3_spotOf_1 : decode cX3_spotOf 1 = .ok (.ifCond .lt 11, 3) := by decide +kernel
theorem dX3_spotOf_4 : decode cX3_spotOf 4 = .ok (.iload_n 1, 1) := by decide +kernel
theorem dX3_spotOf_5 : decode cX3_spotOf 5 = .ok (.aload_n 0, 1) := by decide +kernel
theorem dX3_spotOf_6 : decode cX3_spotOf 6 = .ok (.getfield 49, 3) := by decide +kernel
theorem dX3_spotOf_9 : decode cX3_spotOf 9 = .ok (.if_icmp .lt 13, 3) := by decide +kernel
theorem dX3_spotOf_12 : decode cX3_spotOf 12 = .ok (.new 218, 3) := by decide +kernel
theorem dX3_spotOf_15 : decode cX3_spotOf 15 = .ok (.dup, 1) := by decide +kernel
theorem dX3_spotOf_16 : decode cX3_spotOf 16 = .ok (.ldc 220, 2) := by decide +kernel
theorem dX3_spotOf_18 : decode cX3_spotOf 18 = .ok (.invokespecial 222, 3) := by decide +kernel
theorem dX3_spotOf_21 : decode cX3_spotOf 21 = .ok (.athrow, 1) := by decide +kernel
theorem dX3_spotOf_22 : decode cX3_spotOf 22 = .ok (.aload_n 0, 1) := by decide +kernel
theorem dX3_spotOf_23 : decode cX3_spotOf 23 = .ok (.getfield 25, 3) := by decide +kernel
theorem dX3_spotOf_26 : decode cX3_spotOf 26 = .ok (.getfield 196, 3) := by decide +kernel
theorem dX3_spotOf_29 : decode cX3_spotOf 29 = .ok (.iload_n 1, 1) := by decide +kernel
theorem dX3_spotOf_30 : decode cX3_spotOf 30 = .ok (.aaload, 1) := by decide +kernel
theorem dX3_spotOf_31 : decode cX3_spotOf 31 = .ok (.areturn, 1) := by decide +kernel
theorem dX3_unpackedCount_0 : decode cX3_unpackedCount 0 = .ok (.iconst 0, 1) := by decide +kernel
theorem dX3_unpackedCount_1 : decode cX3_unpackedCount 1 = .ok (.istore_n 1, 1) := by decide +kernel
theorem dX3_unpackedCount_2 : decode cX3_unpackedCount 2 = .ok (.iconst 0, 1) := by decide +kernel
theorem dX3_unpackedCount_3 : decode cX3_unpackedCount 3 = .ok (.istore_n 2, 1) := by decide +kernel
theorem dX3_unpackedCount_4 : decode cX3_unpackedCount 4 = .ok (.iload_n 2, 1) := by decide +kernel
theorem dX3_unpackedCount_5 : decode cX3_unpackedCount 5 = .ok (.aload_n 0, 1) := by decide +kernel
theorem dX3_unpackedCount_6 : decode cX3_unpackedCount 6 = .ok (.getfield 49, 3) := by decide +kernel
theorem dX3_unpackedCount_9 : decode cX3_unpackedCount 9 = .ok (.if_icmp .ge 24, 3) := by decide +kernel
theorem dX3_unpackedCount_12 : decode cX3_unpackedCount 12 = .ok (.aload_n 0, 1) := by decide +kernel
theorem dX3_unpackedCount_13 : decode cX3_unpackedCount 13 = .ok (.getfield 15, 3) := by decide +kernel
theorem dX3_unpackedCount_16 : decode cX3_unpackedCount 16 = .ok (.iload_n 2, 1) := by decide +kernel
theorem dX3_unpackedCount_17 : decode cX3_unpackedCount 17 = .ok (.aaload, 1) := by decide +kernel
theorem dX3_unpackedCount_18 : decode cX3_unpackedCount 18 = .ok (.invokevirtual 86, 3) := by decide +kernel
theorem dX3_unpackedCount_21 : decode cX3_unpackedCount 21 = .ok (.ifCond .ne 6, 3) := by decide +kernel
theorem dX3_unpackedCount_24 : decode cX3_unpackedCount 24 = .ok (.iinc 1 1, 3) := by decide +kernel
theorem dX3_unpackedCount_27 : decode cX3_unpackedCount 27 = .ok (.iinc 2 1, 3) := by decide +kernel
theorem dX3_unpackedCount_30 : decode cX3_unpackedCount 30 = .ok (.goto (-26), 3) := by decide +kernel
theorem dX3_unpackedCount_33 : decode cX3_unpackedCount 33 = .ok (.iload_n 1, 1) := by decide +kernel
theorem dX3_unpackedCount_34 : decode cX3_unpackedCount 34 = .ok (.ireturn, 1) := by decide +kernel
theorem dX3_positionOf_0 : decode cX3_positionOf 0 = .ok (.iconst 0, 1) := by decide +kernel
theorem dX3_positionOf_1 : decode cX3_positionOf 1 = .ok (.istore_n 3, 1) := by decide +kernel
theorem dX3_positionOf_2 : decode cX3_positionOf 2 = .ok (.iconst 0, 1) := by decide +kernel
theorem dX3_positionOf_3 : decode cX3_positionOf 3 = .ok (.istore 4, 2) := by decide +kernel
theorem dX3_positionOf_5 : decode cX3_positionOf 5 = .ok (.iload 4, 2) := by decide +kernel
theorem dX3_positionOf_7 : decode cX3_positionOf 7 = .ok (.aload_n 0, 1) := by decide +kernel
theorem dX3_positionOf_8 : decode cX3_positionOf 8 = .ok (.getfield 49, 3) := by decide +kernel
theorem dX3_positionOf_11 : decode cX3_positionOf 11 = .ok (.if_icmp .ge 77, 3) := by decide +kernel
theorem dX3_positionOf_14 : decode cX3_positionOf 14 = .ok (.aload_n 0, 1) := by decide +kernel
theorem dX3_positionOf_15 : decode cX3_positionOf 15 = .ok (.getfield 15, 3) := by decide +kernel
theorem dX3_positionOf_18 : decode cX3_positionOf 18 = .ok (.iload 4, 2) := by decide +kernel
theorem dX3_positionOf_20 : decode cX3_positionOf 20 = .ok (.aaload, 1) := by decide +kernel
theorem dX3_positionOf_21 : decode cX3_positionOf 21 = .ok (.getfield 83, 3) := by decide +kernel
theorem dX3_positionOf_24 : decode cX3_positionOf 24 = .ok (.aload_n 1, 1) := by decide +kernel
theorem dX3_positionOf_25 : decode cX3_positionOf 25 = .ok (.getfield 83, 3) := by decide +kernel
theorem dX3_positionOf_28 : decode cX3_positionOf 28 = .ok (.if_icmp .lt 26, 3) := by decide +kernel
theorem dX3_positionOf_31 : decode cX3_positionOf 31 = .ok (.aload_n 0, 1) := by decide +kernel
theorem dX3_positionOf_32 : decode cX3_positionOf 32 = .ok (.getfield 15, 3) := by decide +kernel
theorem dX3_positionOf_35 : decode cX3_positionOf 35 = .ok (.iload 4, 2) := by decide +kernel
theorem dX3_positionOf_37 : decode cX3_positionOf 37 = .ok (.aaload, 1) := by decide +kernel
theorem dX3_positionOf_38 : decode cX3_positionOf 38 = .ok (.getfield 83, 3) := by decide +kernel
theorem dX3_positionOf_41 : decode cX3_positionOf 41 = .ok (.aload_n 1, 1) := by decide +kernel
theorem dX3_positionOf_42 : decode cX3_positionOf 42 = .ok (.getfield 83, 3) := by decide +kernel
theorem dX3_positionOf_45 : decode cX3_positionOf 45 = .ok (.if_icmp .ne 13, 3) := by decide +kernel
theorem dX3_positionOf_48 : decode cX3_positionOf 48 = .ok (.iload 4, 2) := by decide +kernel
theorem dX3_positionOf_50 : decode cX3_positionOf 50 = .ok (.iload_n 2, 1) := by decide +kernel
theorem dX3_positionOf_51 : decode cX3_positionOf 51 = .ok (.if_icmp .ge 7, 3) := by decide +kernel
theorem dX3_positionOf_54 : decode cX3_positionOf 54 = .ok (.iconst 1, 1) := by decide +kernel
theorem dX3_positionOf_55 : decode cX3_positionOf 55 = .ok (.goto 4, 3) := by decide +kernel
theorem dX3_positionOf_58 : decode cX3_positionOf 58 = .ok (.iconst 0, 1) := by decide +kernel
theorem dX3_positionOf_59 : decode cX3_positionOf 59 = .ok (.istore 5, 2) := by decide +kernel
theorem dX3_positionOf_61 : decode cX3_positionOf 61 = .ok (.iload 5, 2) := by decide +kernel
theorem dX3_positionOf_63 : decode cX3_positionOf 63 = .ok (.ifCond .eq 19, 3) := by decide +kernel
theorem dX3_positionOf_66 : decode cX3_positionOf 66 = .ok (.aload_n 0, 1) := by decide +kernel
theorem dX3_positionOf_67 : decode cX3_positionOf 67 = .ok (.getfield 15, 3) := by decide +kernel
theorem dX3_positionOf_70 : decode cX3_positionOf 70 = .ok (.iload 4, 2) := by decide +kernel
theorem dX3_positionOf_72 : decode cX3_positionOf 72 = .ok (.aaload, 1) := by decide +kernel
theorem dX3_positionOf_73 : decode cX3_positionOf 73 = .ok (.invokevirtual 86, 3) := by decide +kernel
theorem dX3_positionOf_76 : decode cX3_positionOf 76 = .ok (.ifCond .ne 6, 3) := by decide +kernel
theorem dX3_positionOf_79 : decode cX3_positionOf 79 = .ok (.iinc 3 1, 3) := by decide +kernel
theorem dX3_positionOf_82 : decode cX3_positionOf 82 = .ok (.iinc 4 1, 3) := by decide +kernel
theorem dX3_positionOf_85 : decode cX3_positionOf 85 = .ok (.goto (-80), 3) := by decide +kernel
theorem dX3_positionOf_88 : decode cX3_positionOf 88 = .ok (.iload_n 3, 1) := by decide +kernel
theorem dX3_positionOf_89 : decode cX3_positionOf 89 = .ok (.ireturn, 1) := by decide +kernel
theorem dX3_fitsAlone_0 : decode cX3_fitsAlone 0 = .ok (.iconst 0, 1) := by decide +kernel
theorem dX3_fitsAlone_1 : decode cX3_fitsAlone 1 = .ok (.istore_n 2, 1) := by decide +kernel
theorem dX3_fitsAlone_2 : decode cX3_fitsAlone 2 = .ok (.iload_n 2, 1) := by decide +kernel
theorem dX3_fitsAlone_3 : decode cX3_fitsAlone 3 = .ok (.bipush 6, 2) := by decide +kernel
theorem dX3_fitsAlone_5 : decode cX3_fitsAlone 5 = .ok (.if_icmp .ge 44, 3) := by decide +kernel
theorem dX3_fitsAlone_8 : decode cX3_fitsAlone 8 = .ok (.aload_n 1, 1) := by decide +kernel
theorem dX3_fitsAlone_9 : decode cX3_fitsAlone 9 = .ok (.iload_n 2, 1) := by decide +kernel
theorem dX3_fitsAlone_10 : decode cX3_fitsAlone 10 = .ok (.invokevirtual 223, 3) := by decide +kernel
theorem dX3_fitsAlone_13 : decode cX3_fitsAlone 13 = .ok (.ifCond .eq 30, 3) := by decide +kernel
theorem dX3_fitsAlone_16 : decode cX3_fitsAlone 16 = .ok (.aload_n 0, 1) := by decide +kernel
theorem dX3_fitsAlone_17 : decode cX3_fitsAlone 17 = .ok (.getfield 25, 3) := by decide +kernel
theorem dX3_fitsAlone_20 : decode cX3_fitsAlone 20 = .ok (.aload_n 1, 1) := by decide +kernel
theorem dX3_fitsAlone_21 : decode cX3_fitsAlone 21 = .ok (.iload_n 2, 1) := by decide +kernel
theorem dX3_fitsAlone_22 : decode cX3_fitsAlone 22 = .ok (.invokevirtual 226, 3) := by decide +kernel
theorem dX3_fitsAlone_25 : decode cX3_fitsAlone 25 = .ok (.aload_n 1, 1) := by decide +kernel
theorem dX3_fitsAlone_26 : decode cX3_fitsAlone 26 = .ok (.iload_n 2, 1) := by decide +kernel
theorem dX3_fitsAlone_27 : decode cX3_fitsAlone 27 = .ok (.invokevirtual 229, 3) := by decide +kernel
theorem dX3_fitsAlone_30 : decode cX3_fitsAlone 30 = .ok (.aload_n 1, 1) := by decide +kernel
theorem dX3_fitsAlone_31 : decode cX3_fitsAlone 31 = .ok (.iload_n 2, 1) := by decide +kernel
theorem dX3_fitsAlone_32 : decode cX3_fitsAlone 32 = .ok (.invokevirtual 232, 3) := by decide +kernel
theorem dX3_fitsAlone_35 : decode cX3_fitsAlone 35 = .ok (.invokevirtual 235, 3) := by decide +kernel
theorem dX3_fitsAlone_38 : decode cX3_fitsAlone 38 = .ok (.ifCond .eq 5, 3) := by decide +kernel
theorem dX3_fitsAlone_41 : decode cX3_fitsAlone 41 = .ok (.iconst 1, 1) := by decide +kernel
theorem dX3_fitsAlone_42 : decode cX3_fitsAlone 42 = .ok (.ireturn, 1) := by decide +kernel
theorem dX3_fitsAlone_43 : decode cX3_fitsAlone 43 = .ok (.iinc 2 1, 3) := by decide +kernel
theorem dX3_fitsAlone_46 : decode cX3_fitsAlone 46 = .ok (.goto (-44), 3) := by decide +kernel
theorem dX3_fitsAlone_49 : decode cX3_fitsAlone 49 = .ok (.iconst 0, 1) := by decide +kernel
theorem dX3_fitsAlone_50 : decode cX3_fitsAlone 50 = .ok (.ireturn, 1) := by decide +kernel
theorem dX3_startSearch_0 : decode cX3_startSearch 0 = .ok (.aload_n 0, 1) := by decide +kernel
theorem dX3_startSearch_1 : decode cX3_startSearch 1 = .ok (.getfield 25, 3) := by decide +kernel
theorem dX3_startSearch_4 : decode cX3_startSearch 4 = .ok (.invokevirtual 203, 3) := by decide +kernel
theorem dX3_startSearch_7 : decode cX3_startSearch 7 = .ok (.aload_n 0, 1) := by decide +kernel
theorem dX3_startSearch_8 : decode cX3_startSearch 8 = .ok (.iload_n 1, 1) := by decide +kernel
theorem dX3_startSearch_9 : decode cX3_startSearch 9 = .ok (.putfield 238, 3) := by decide +kernel
theorem dX3_startSearch_12 : decode cX3_startSearch 12 = .ok (.aload_n 0, 1) := by decide +kernel
theorem dX3_startSearch_13 : decode cX3_startSearch 13 = .ok (.iconst 0, 1) := by decide +kernel
theorem dX3_startSearch_14 : decode cX3_startSearch 14 = .ok (.putfield 117, 3) := by decide +kernel
theorem dX3_startSearch_17 : decode cX3_startSearch 17 = .ok (.aload_n 0, 1) := by decide +kernel
theorem dX3_startSearch_18 : decode cX3_startSearch 18 = .ok (.iconst (-1), 1) := by decide +kernel
theorem dX3_startSearch_19 : decode cX3_startSearch 19 = .ok (.putfield 241, 3) := by decide +kernel
theorem dX3_startSearch_22 : decode cX3_startSearch 22 = .ok (.aload_n 0, 1) := by decide +kernel
theorem dX3_startSearch_23 : decode cX3_startSearch 23 = .ok (.iconst 0, 1) := by decide +kernel
theorem dX3_startSearch_24 : decode cX3_startSearch 24 = .ok (.putfield 107, 3) := by decide +kernel
theorem dX3_startSearch_27 : decode cX3_startSearch 27 = .ok (.aload_n 0, 1) := by decide +kernel
theorem dX3_startSearch_28 : decode cX3_startSearch 28 = .ok (.invokevirtual 244, 3) := by decide +kernel
theorem dX3_startSearch_31 : decode cX3_startSearch 31 = .ok (.return_, 1) := by decide +kernel
theorem dX3_putInOrder_0 : decode cX3_putInOrder 0 = .ok (.aload_n 0, 1) := by decide +kernel
theorem dX3_putInOrder_1 : decode cX3_putInOrder 1 = .ok (.iconst 0, 1) := by decide +kernel
theorem dX3_putInOrder_2 : decode cX3_putInOrder 2 = .ok (.putfield 247, 3) := by decide +kernel
theorem dX3_putInOrder_5 : decode cX3_putInOrder 5 = .ok (.iconst 0, 1) := by decide +kernel
theorem dX3_putInOrder_6 : decode cX3_putInOrder 6 = .ok (.istore_n 1, 1) := by decide +kernel
theorem dX3_putInOrder_7 : decode cX3_putInOrder 7 = .ok (.iload_n 1, 1) := by decide +kernel
theorem dX3_putInOrder_8 : decode cX3_putInOrder 8 = .ok (.bipush 9, 2) := by decide +kernel
theorem dX3_putInOrder_10 : decode cX3_putInOrder 10 = .ok (.if_icmp .gt 82, 3) := by decide +kernel
theorem dX3_putInOrder_13 : decode cX3_putInOrder 13 = .ok (.iconst 0, 1) := by decide +kernel
theorem dX3_putInOrder_14 : decode cX3_putInOrder 14 = .ok (.istore_n 2, 1) := by decide +kernel
theorem dX3_putInOrder_15 : decode cX3_putInOrder 15 = .ok (.iload_n 2, 1) := by decide +kernel
theorem dX3_putInOrder_16 : decode cX3_putInOrder 16 = .ok (.aload_n 0, 1) := by decide +kernel
theorem dX3_putInOrder_17 : decode cX3_putInOrder 17 = .ok (.getfield 49, 3) := by decide +kernel
theorem dX3_putInOrder_20 : decode cX3_putInOrder 20 = .ok (.if_icmp .ge 66, 3) := by decide +kernel
theorem dX3_putInOrder_23 : decode cX3_putInOrder 23 = .ok (.aload_n 0, 1) := by decide +kernel
theorem dX3_putInOrder_24 : decode cX3_putInOrder 24 = .ok (.getfield 247, 3) := by decide +kernel
theorem dX3_putInOrder_27 : decode cX3_putInOrder 27 = .ok (.aload_n 0, 1) := by decide +kernel
theorem dX3_putInOrder_28 : decode cX3_putInOrder 28 = .ok (.getfield 32, 3) := by decide +kernel
theorem dX3_putInOrder_31 : decode cX3_putInOrder 31 = .ok (.arraylength, 1) := by decide +kernel
theorem dX3_putInOrder_32 : decode cX3_putInOrder 32 = .ok (.if_icmp .ge 54, 3) := by decide +kernel
theorem dX3_putInOrder_35 : decode cX3_putInOrder 35 = .ok (.aload_n 0, 1) := by decide +kernel
theorem dX3_putInOrder_36 : decode cX3_putInOrder 36 = .ok (.getfield 15, 3) := by decide +kernel
theorem dX3_putInOrder_39 : decode cX3_putInOrder 39 = .ok (.iload_n 2, 1) := by decide +kernel
theorem dX3_putInOrder_40 : decode cX3_putInOrder 40 = .ok (.aaload, 1) := by decide +kernel
theorem dX3_putInOrder_41 : decode cX3_putInOrder 41 = .ok (.getfield 83, 3) := by decide +kernel
theorem dX3_putInOrder_44 : decode cX3_putInOrder 44 = .ok (.iload_n 1, 1) := by decide +kernel
theorem dX3_putInOrder_45 : decode cX3_putInOrder 45 = .ok (.if_icmp .ne 35, 3) := by decide +kernel
theorem dX3_putInOrder_48 : decode cX3_putInOrder 48 = .ok (.aload_n 0, 1) := by decide +kernel
theorem dX3_putInOrder_49 : decode cX3_putInOrder 49 = .ok (.getfield 15, 3) := by decide +kernel
theorem dX3_putInOrder_52 : decode cX3_putInOrder 52 = .ok (.iload_n 2, 1) := by decide +kernel
theorem dX3_putInOrder_53 : decode cX3_putInOrder 53 = .ok (.aaload, 1) := by decide +kernel
theorem dX3_putInOrder_54 : decode cX3_putInOrder 54 = .ok (.invokevirtual 86, 3) := by decide +kernel
theorem dX3_putInOrder_57 : decode cX3_putInOrder 57 = .ok (.ifCond .ne 23, 3) := by decide +kernel
theorem dX3_putInOrder_60 : decode cX3_putInOrder 60 = .ok (.aload_n 0, 1) := by decide +kernel
theorem dX3_putInOrder_61 : decode cX3_putInOrder 61 = .ok (.getfield 32, 3) := by decide +kernel
theorem dX3_putInOrder_64 : decode cX3_putInOrder 64 = .ok (.aload_n 0, 1) := by decide +kernel
theorem dX3_putInOrder_65 : decode cX3_putInOrder 65 = .ok (.getfield 247, 3) := by decide +kernel
theorem dX3_putInOrder_68 : decode cX3_putInOrder 68 = .ok (.iload_n 2, 1) := by decide +kernel
theorem dX3_putInOrder_69 : decode cX3_putInOrder 69 = .ok (.iastore, 1) := by decide +kernel
theorem dX3_putInOrder_70 : decode cX3_putInOrder 70 = .ok (.aload_n 0, 1) := by decide +kernel
theorem dX3_putInOrder_71 : decode cX3_putInOrder 71 = .ok (.dup, 1) := by decide +kernel
theorem dX3_putInOrder_72 : decode cX3_putInOrder 72 = .ok (.getfield 247, 3) := by decide +kernel
theorem dX3_putInOrder_75 : decode cX3_putInOrder 75 = .ok (.iconst 1, 1) := by decide +kernel
theorem dX3_putInOrder_76 : decode cX3_putInOrder 76 = .ok (.iadd, 1) := by decide +kernel
theorem dX3_putInOrder_77 : decode cX3_putInOrder 77 = .ok (.putfield 247, 3) := by decide +kernel
theorem dX3_putInOrder_80 : decode cX3_putInOrder 80 = .ok (.iinc 2 1, 3) := by decide +kernel
theorem dX3_putInOrder_83 : decode cX3_putInOrder 83 = .ok (.goto (-68), 3) := by decide +kernel
theorem dX3_putInOrder_86 : decode cX3_putInOrder 86 = .ok (.iinc 1 1, 3) := by decide +kernel
theorem dX3_putInOrder_89 : decode cX3_putInOrder 89 = .ok (.goto (-82), 3) := by decide +kernel
theorem dX3_putInOrder_92 : decode cX3_putInOrder 92 = .ok (.return_, 1) := by decide +kernel
theorem dX3_searchFrom_0 : decode cX3_searchFrom 0 = .ok (.iload_n 1, 1) := by decide +kernel
theorem dX3_searchFrom_1 : decode cX3_searchFrom 1 = .ok (.aload_n 0, 1) := by decide +kernel
theorem dX3_searchFrom_2 : decode cX3_searchFrom 2 = .ok (.getfield 247, 3) := by decide +kernel
theorem dX3_searchFrom_5 : decode cX3_searchFrom 5 = .ok (.if_icmp .lt 8, 3) := by decide +kernel
theorem dX3_searchFrom_8 : decode cX3_searchFrom 8 = .ok (.aload_n 0, 1) := by decide +kernel
theorem dX3_searchFrom_9 : decode cX3_searchFrom 9 = .ok (.invokevirtual 250, 3) := by decide +kernel
theorem dX3_searchFrom_12 : decode cX3_searchFrom 12 = .ok (.return_, 1) := by decide +kernel
theorem dX3_searchFrom_13 : decode cX3_searchFrom 13 = .ok (.aload_n 0, 1) := by decide +kernel
theorem dX3_searchFrom_14 : decode cX3_searchFrom 14 = .ok (.getfield 32, 3) := by decide +kernel
theorem dX3_searchFrom_17 : decode cX3_searchFrom 17 = .ok (.iload_n 1, 1) := by decide +kernel
theorem dX3_searchFrom_18 : decode cX3_searchFrom 18 = .ok (.iaload, 1) := by decide +kernel
theorem dX3_searchFrom_19 : decode cX3_searchFrom 19 = .ok (.istore_n 2, 1) := by decide +kernel
theorem dX3_searchFrom_20 : decode cX3_searchFrom 20 = .ok (.iconst 0, 1) := by decide +kernel
theorem dX3_searchFrom_21 : decode cX3_searchFrom 21 = .ok (.istore_n 3, 1) := by decide +kernel
theorem dX3_searchFrom_22 : decode cX3_searchFrom 22 = .ok (.iload_n 3, 1) := by decide +kernel
theorem dX3_searchFrom_23 : decode cX3_searchFrom 23 = .ok (.bipush 6, 2) := by decide +kernel
theorem dX3_searchFrom_25 : decode cX3_searchFrom 25 = .ok (.if_icmp .ge 50, 3) := by decide +kernel
theorem dX3_searchFrom_28 : decode cX3_searchFrom 28 = .ok (.aload_n 0, 1) := by decide +kernel
theorem dX3_searchFrom_29 : decode cX3_searchFrom 29 = .ok (.getfield 107, 3) := by decide +kernel
theorem dX3_searchFrom_32 : decode cX3_searchFrom 32 = .ok (.ifCond .ne 43, 3) := by decide +kernel
theorem dX3_searchFrom_35 : decode cX3_searchFrom 35 = .ok (.aload_n 0, 1) := by decide +kernel
theorem dX3_searchFrom_36 : decode cX3_searchFrom 36 = .ok (.getfield 15, 3) := by decide +kernel
theorem dX3_searchFrom_39 : decode cX3_searchFrom 39 = .ok (.iload_n 2, 1) := by decide +kernel
theorem dX3_searchFrom_40 : decode cX3_searchFrom 40 = .ok (.aaload, 1) := by decide +kernel
theorem dX3_searchFrom_41 : decode cX3_searchFrom 41 = .ok (.iload_n 3, 1) := by decide +kernel
theorem dX3_searchFrom_42 : decode cX3_searchFrom 42 = .ok (.invokevirtual 223, 3) := by decide +kernel
theorem dX3_searchFrom_45 : decode cX3_searchFrom 45 = .ok (.ifCond .eq 24, 3) := by decide +kernel
theorem dX3_searchFrom_48 : decode cX3_searchFrom 48 = .ok (.aload_n 0, 1) := by decide +kernel
theorem dX3_searchFrom_49 : decode cX3_searchFrom 49 = .ok (.iload_n 1, 1) := by decide +kernel
theorem dX3_searchFrom_50 : decode cX3_searchFrom 50 = .ok (.aload_n 0, 1) := by decide +kernel
theorem dX3_searchFrom_51 : decode cX3_searchFrom 51 = .ok (.getfield 15, 3) := by decide +kernel
theorem dX3_searchFrom_54 : decode cX3_searchFrom 54 = .ok (.iload_n 2, 1) := by decide +kernel
theorem dX3_searchFrom_55 : decode cX3_searchFrom 55 = .ok (.aaload, 1) := by decide +kernel
theorem dX3_searchFrom_56 : decode cX3_searchFrom 56 = .ok (.aload_n 0, 1) := by decide +kernel
theorem dX3_searchFrom_57 : decode cX3_searchFrom 57 = .ok (.getfield 29, 3) := by decide +kernel
theorem dX3_searchFrom_60 : decode cX3_searchFrom 60 = .ok (.getfield 196, 3) := by decide +kernel
theorem dX3_searchFrom_63 : decode cX3_searchFrom 63 = .ok (.iload_n 2, 1) := by decide +kernel
theorem dX3_searchFrom_64 : decode cX3_searchFrom 64 = .ok (.aaload, 1) := by decide +kernel
theorem dX3_searchFrom_65 : decode cX3_searchFrom 65 = .ok (.iload_n 3, 1) := by decide +kernel
theorem dX3_searchFrom_66 : decode cX3_searchFrom 66 = .ok (.invokevirtual 253, 3) := by decide +kernel
theorem dX3_searchFrom_69 : decode cX3_searchFrom 69 = .ok (.iinc 3 1, 3) := by decide +kernel
theorem dX3_searchFrom_72 : decode cX3_searchFrom 72 = .ok (.goto (-50), 3) := by decide +kernel
theorem dX3_searchFrom_75 : decode cX3_searchFrom 75 = .ok (.aload_n 0, 1) := by decide +kernel
theorem dX3_searchFrom_76 : decode cX3_searchFrom 76 = .ok (.getfield 107, 3) := by decide +kernel
theorem dX3_searchFrom_79 : decode cX3_searchFrom 79 = .ok (.ifCond .ne 10, 3) := by decide +kernel
theorem dX3_searchFrom_82 : decode cX3_searchFrom 82 = .ok (.aload_n 0, 1) := by decide +kernel
theorem dX3_searchFrom_83 : decode cX3_searchFrom 83 = .ok (.iload_n 1, 1) := by decide +kernel
theorem dX3_searchFrom_84 : decode cX3_searchFrom 84 = .ok (.iconst 1, 1) := by decide +kernel
theorem dX3_searchFrom_85 : decode cX3_searchFrom 85 = .ok (.iadd, 1) := by decide +kernel
theorem dX3_searchFrom_86 : decode cX3_searchFrom 86 = .ok (.invokevirtual 104, 3) := by decide +kernel
theorem dX3_searchFrom_89 : decode cX3_searchFrom 89 = .ok (.return_, 1) := by decide +kernel
theorem dX3_tryWay_0 : decode cX3_tryWay 0 = .ok (.aload_n 0, 1) := by decide +kernel
theorem dX3_tryWay_1 : decode cX3_tryWay 1 = .ok (.getfield 29, 3) := by decide +kernel
theorem dX3_tryWay_4 : decode cX3_tryWay 4 = .ok (.iconst 0, 1) := by decide +kernel
theorem dX3_tryWay_5 : decode cX3_tryWay 5 = .ok (.invokevirtual 257, 3) := by decide +kernel
theorem dX3_tryWay_8 : decode cX3_tryWay 8 = .ok (.istore 5, 2) := by decide +kernel
theorem dX3_tryWay_10 : decode cX3_tryWay 10 = .ok (.aload_n 0, 1) := by decide +kernel
theorem dX3_tryWay_11 : decode cX3_tryWay 11 = .ok (.getfield 29, 3) := by decide +kernel
theorem dX3_tryWay_14 : decode cX3_tryWay 14 = .ok (.iconst 1, 1) := by decide +kernel
theorem dX3_tryWay_15 : decode cX3_tryWay 15 = .ok (.invokevirtual 257, 3) := by decide +kernel
theorem dX3_tryWay_18 : decode cX3_tryWay 18 = .ok (.istore 6, 2) := by decide +kernel
theorem dX3_tryWay_20 : decode cX3_tryWay 20 = .ok (.aload_n 0, 1) := by decide +kernel
theorem dX3_tryWay_21 : decode cX3_tryWay 21 = .ok (.getfield 29, 3) := by decide +kernel
theorem dX3_tryWay_24 : decode cX3_tryWay 24 = .ok (.iconst 2, 1) := by decide +kernel
theorem dX3_tryWay_25 : decode cX3_tryWay 25 = .ok (.invokevirtual 257, 3) := by decide +kernel
theorem dX3_tryWay_28 : decode cX3_tryWay 28 = .ok (.istore 7, 2) := by decide +kernel
theorem dX3_tryWay_30 : decode cX3_tryWay 30 = .ok (.iconst 0, 1) := by decide +kernel
theorem dX3_tryWay_31 : decode cX3_tryWay 31 = .ok (.istore 8, 2) := by decide +kernel
theorem dX3_tryWay_33 : decode cX3_tryWay 33 = .ok (.iload 8, 2) := by decide +kernel
theorem dX3_tryWay_35 : decode cX3_tryWay 35 = .ok (.bipush 8, 2) := by decide +kernel
theorem dX3_tryWay_37 : decode cX3_tryWay 37 = .ok (.if_icmp .gt 154, 3) := by decide +kernel
theorem dX3_tryWay_40 : decode cX3_tryWay 40 = .ok (.iload 7, 2) := by decide +kernel
theorem dX3_tryWay_42 : decode cX3_tryWay 42 = .ok (.iload 8, 2) := by decide +kernel
theorem dX3_tryWay_44 : decode cX3_tryWay 44 = .ok (.invokestatic 260, 3) := by decide +kernel
theorem dX3_tryWay_47 : decode cX3_tryWay 47 = .ok (.ifCond .ne 6, 3) := by decide +kernel
theorem dX3_tryWay_50 : decode cX3_tryWay 50 = .ok (.goto 135, 3) := by decide +kernel
theorem dX3_tryWay_53 : decode cX3_tryWay 53 = .ok (.iconst 0, 1) := by decide +kernel
theorem dX3_tryWay_54 : decode cX3_tryWay 54 = .ok (.istore 9, 2) := by decide +kernel
theorem dX3_tryWay_56 : decode cX3_tryWay 56 = .ok (.iload 9, 2) := by decide +kernel
theorem dX3_tryWay_58 : decode cX3_tryWay 58 = .ok (.bipush 8, 2) := by decide +kernel
theorem dX3_tryWay_60 : decode cX3_tryWay 60 = .ok (.if_icmp .gt 125, 3) := by decide +kernel
theorem dX3_tryWay_63 : decode cX3_tryWay 63 = .ok (.iload 6, 2) := by decide +kernel
theorem dX3_tryWay_65 : decode cX3_tryWay 65 = .ok (.iload 9, 2) := by decide +kernel
theorem dX3_tryWay_67 : decode cX3_tryWay 67 = .ok (.invokestatic 260, 3) := by decide +kernel
theorem dX3_tryWay_70 : decode cX3_tryWay 70 = .ok (.ifCond .ne 6, 3) := by decide +kernel
theorem dX3_tryWay_73 : decode cX3_tryWay 73 = .ok (.goto 106, 3) := by decide +kernel
theorem dX3_tryWay_76 : decode cX3_tryWay 76 = .ok (.iconst 0, 1) := by decide +kernel
theorem dX3_tryWay_77 : decode cX3_tryWay 77 = .ok (.istore 10, 2) := by decide +kernel
theorem dX3_tryWay_79 : decode cX3_tryWay 79 = .ok (.iload 10, 2) := by decide +kernel
theorem dX3_tryWay_81 : decode cX3_tryWay 81 = .ok (.bipush 8, 2) := by decide +kernel
theorem dX3_tryWay_83 : decode cX3_tryWay 83 = .ok (.if_icmp .gt 96, 3) := by decide +kernel
theorem dX3_tryWay_86 : decode cX3_tryWay 86 = .ok (.iload 5, 2) := by decide +kernel
theorem dX3_tryWay_88 : decode cX3_tryWay 88 = .ok (.iload 10, 2) := by decide +kernel
theorem dX3_tryWay_90 : decode cX3_tryWay 90 = .ok (.invokestatic 260, 3) := by decide +kernel
theorem dX3_tryWay_93 : decode cX3_tryWay 93 = .ok (.ifCond .ne 6, 3) := by decide +kernel
theorem dX3_tryWay_96 : decode cX3_tryWay 96 = .ok (.goto 77, 3) := by decide +kernel
theorem dX3_tryWay_99 : decode cX3_tryWay 99 = .ok (.aload_n 0, 1) := by decide +kernel
theorem dX3_tryWay_100 : decode cX3_tryWay 100 = .ok (.getfield 117, 3) := by decide +kernel
theorem dX3_tryWay_103 : decode cX3_tryWay 103 = .ok (.aload_n 0, 1) := by decide +kernel
theorem dX3_tryWay_104 : decode cX3_tryWay 104 = .ok (.getfield 238, 3) := by decide +kernel
theorem dX3_tryWay_107 : decode cX3_tryWay 107 = .ok (.if_icmp .lt 9, 3) := by decide +kernel
theorem dX3_tryWay_110 : decode cX3_tryWay 110 = .ok (.aload_n 0, 1) := by decide +kernel
theorem dX3_tryWay_111 : decode cX3_tryWay 111 = .ok (.iconst 1, 1) := by decide +kernel
theorem dX3_tryWay_112 : decode cX3_tryWay 112 = .ok (.putfield 107, 3) := by decide +kernel
theorem dX3_tryWay_115 : decode cX3_tryWay 115 = .ok (.return_, 1) := by decide +kernel
theorem dX3_tryWay_116 : decode cX3_tryWay 116 = .ok (.aload_n 0, 1) := by decide +kernel
theorem dX3_tryWay_117 : decode cX3_tryWay 117 = .ok (.dup, 1) := by decide +kernel
theorem dX3_tryWay_118 : decode cX3_tryWay 118 = .ok (.getfield 117, 3) := by decide +kernel
theorem dX3_tryWay_121 : decode cX3_tryWay 121 = .ok (.iconst 1, 1) := by decide +kernel
theorem dX3_tryWay_122 : decode cX3_tryWay 122 = .ok (.iadd, 1) := by decide +kernel
theorem dX3_tryWay_123 : decode cX3_tryWay 123 = .ok (.putfield 117, 3) := by decide +kernel
theorem dX3_tryWay_126 : decode cX3_tryWay 126 = .ok (.aload_n 3, 1) := by decide +kernel
theorem dX3_tryWay_127 : decode cX3_tryWay 127 = .ok (.aload_n 2, 1) := by decide +kernel
theorem dX3_tryWay_128 : decode cX3_tryWay 128 = .ok (.iload 4, 2) := by decide +kernel
theorem dX3_tryWay_130 : decode cX3_tryWay 130 = .ok (.iload 10, 2) := by decide +kernel
theorem dX3_tryWay_132 : decode cX3_tryWay 132 = .ok (.iload 9, 2) := by decide +kernel
theorem dX3_tryWay_134 : decode cX3_tryWay 134 = .ok (.iload 8, 2) := by decide +kernel
theorem dX3_tryWay_136 : decode cX3_tryWay 136 = .ok (.invokevirtual 264, 3) := by decide +kernel
theorem dX3_tryWay_139 : decode cX3_tryWay 139 = .ok (.aload_n 0, 1) := by decide +kernel
theorem dX3_tryWay_140 : decode cX3_tryWay 140 = .ok (.getfield 29, 3) := by decide +kernel
theorem dX3_tryWay_143 : decode cX3_tryWay 143 = .ok (.aload_n 3, 1) := by decide +kernel
theorem dX3_tryWay_144 : decode cX3_tryWay 144 = .ok (.aload_n 0, 1) := by decide +kernel
theorem dX3_tryWay_145 : decode cX3_tryWay 145 = .ok (.getfield 96, 3) := by decide +kernel
theorem dX3_tryWay_148 : decode cX3_tryWay 148 = .ok (.invokevirtual 268, 3) := by decide +kernel
theorem dX3_tryWay_151 : decode cX3_tryWay 151 = .ok (.ifCond .eq 10, 3) := by decide +kernel
theorem dX3_tryWay_154 : decode cX3_tryWay 154 = .ok (.aload_n 0, 1) := by decide +kernel
theorem dX3_tryWay_155 : decode cX3_tryWay 155 = .ok (.iload_n 1, 1) := by decide +kernel
theorem dX3_tryWay_156 : decode cX3_tryWay 156 = .ok (.iconst 1, 1) := by decide +kernel
theorem dX3_tryWay_157 : decode cX3_tryWay 157 = .ok (.iadd, 1) := by decide +kernel
theorem dX3_tryWay_158 : decode cX3_tryWay 158 = .ok (.invokevirtual 104, 3) := by decide +kernel
theorem dX3_tryWay_161 : decode cX3_tryWay 161 = .ok (.aload_n 3, 1) := by decide +kernel
theorem dX3_tryWay_162 : decode cX3_tryWay 162 = .ok (.invokevirtual 272, 3) := by decide +kernel
theorem dX3_tryWay_165 : decode cX3_tryWay 165 = .ok (.aload_n 0, 1) := by decide +kernel
theorem dX3_tryWay_166 : decode cX3_tryWay 166 = .ok (.getfield 107, 3) := by decide +kernel
theorem dX3_tryWay_169 : decode cX3_tryWay 169 = .ok (.ifCond .eq 4, 3) := by decide +kernel
theorem dX3_tryWay_172 : decode cX3_tryWay 172 = .ok (.return_, 1) := by decide +kernel
theorem dX3_tryWay_173 : decode cX3_tryWay 173 = .ok (.iinc 10 1, 3) := by decide +kernel
theorem dX3_tryWay_176 : decode cX3_tryWay 176 = .ok (.goto (-97), 3) := by decide +kernel
theorem dX3_tryWay_179 : decode cX3_tryWay 179 = .ok (.iinc 9 1, 3) := by decide +kernel
theorem dX3_tryWay_182 : decode cX3_tryWay 182 = .ok (.goto (-126), 3) := by decide +kernel
theorem dX3_tryWay_185 : decode cX3_tryWay 185 = .ok (.iinc 8 1, 3) := by decide +kernel
theorem dX3_tryWay_188 : decode cX3_tryWay 188 = .ok (.goto (-155), 3) := by decide +kernel
theorem dX3_tryWay_191 : decode cX3_tryWay 191 = .ok (.return_, 1) := by decide +kernel
theorem dX3_lookAtTrial_0 : decode cX3_lookAtTrial 0 = .ok (.aload_n 0, 1) := by decide +kernel
theorem dX3_lookAtTrial_1 : decode cX3_lookAtTrial 1 = .ok (.getfield 29, 3) := by decide +kernel
theorem dX3_lookAtTrial_4 : decode cX3_lookAtTrial 4 = .ok (.invokevirtual 114, 3) := by decide +kernel
theorem dX3_lookAtTrial_7 : decode cX3_lookAtTrial 7 = .ok (.istore_n 1, 1) := by decide +kernel
theorem dX3_lookAtTrial_8 : decode cX3_lookAtTrial 8 = .ok (.iload_n 1, 1) := by decide +kernel
theorem dX3_lookAtTrial_9 : decode cX3_lookAtTrial 9 = .ok (.aload_n 0, 1) := by decide +kernel
theorem dX3_lookAtTrial_10 : decode cX3_lookAtTrial 10 = .ok (.getfield 241, 3) := by decide +kernel
theorem dX3_lookAtTrial_13 : decode cX3_lookAtTrial 13 = .ok (.if_icmp .le 19, 3) := by decide +kernel
theorem dX3_lookAtTrial_16 : decode cX3_lookAtTrial 16 = .ok (.aload_n 0, 1) := by decide +kernel
theorem dX3_lookAtTrial_17 : decode cX3_lookAtTrial 17 = .ok (.iload_n 1, 1) := by decide +kernel
theorem dX3_lookAtTrial_18 : decode cX3_lookAtTrial 18 = .ok (.putfield 241, 3) := by decide +kernel
theorem dX3_lookAtTrial_21 : decode cX3_lookAtTrial 21 = .ok (.aload_n 0, 1) := by decide +kernel
theorem dX3_lookAtTrial_22 : decode cX3_lookAtTrial 22 = .ok (.getfield 25, 3) := by decide +kernel
theorem dX3_lookAtTrial_25 : decode cX3_lookAtTrial 25 = .ok (.aload_n 0, 1) := by decide +kernel
theorem dX3_lookAtTrial_26 : decode cX3_lookAtTrial 26 = .ok (.getfield 29, 3) := by decide +kernel
theorem dX3_lookAtTrial_29 : decode cX3_lookAtTrial 29 = .ok (.invokevirtual 275, 3) := by decide +kernel
theorem dX3_lookAtTrial_32 : decode cX3_lookAtTrial 32 = .ok (.return_, 1) := by decide +kernel
end
section
theorem dX4_init_0 : decode cX4_init 0 = .ok (.aload_n 0, 1) := by decide +kernel
theorem dX4_init_1 : decode cX4_init 1 = .ok (.invokespecial 1, 3) := by decide +kernel
theorem dX4_init_4 : decode cX4_init 4 = .ok (.aload_n 0, 1) := by decide +kernel
theorem dX4_init_5 : decode cX4_init 5 = .ok (.iconst 0, 1) := by decide +kernel
theorem dX4_init_6 : decode cX4_init 6 = .ok (.putfield 7, 3) := by decide +kernel
theorem dX4_init_9 : decode cX4_init 9 = .ok (.aload_n 0, 1) := by decide +kernel
theorem dX4_init_10 : decode cX4_init 10 = .ok (.iconst 0, 1) := by decide +kernel
theorem dX4_init_11 : decode cX4_init 11 = .ok (.putfield 13, 3) := by decide +kernel
theorem dX4_init_14 : decode cX4_init 14 = .ok (.aload_n 0, 1) := by decide +kernel
theorem dX4_init_15 : decode cX4_init 15 = .ok (.bipush 18, 2) := by decide +kernel
theorem dX4_init_17 : decode cX4_init 17 = .ok (.newarray .int, 2) := by decide +kernel
theorem dX4_init_19 : decode cX4_init 19 = .ok (.putfield 16, 3) := by decide +kernel
theorem dX4_init_22 : decode cX4_init 22 = .ok (.aload_n 0, 1) := by decide +kernel
theorem dX4_init_23 : decode cX4_init 23 = .ok (.bipush 6, 2) := by decide +kernel
theorem dX4_init_25 : decode cX4_init 25 = .ok (.newarray .int, 2) := by decide +kernel
theorem dX4_init_27 : decode cX4_init 27 = .ok (.putfield 20, 3) := by decide +kernel
theorem dX4_init_30 : decode cX4_init 30 = .ok (.aload_n 0, 1) := by decide +kernel
theorem dX4_init_31 : decode cX4_init 31 = .ok (.bipush 6, 2) := by decide +kernel
theorem dX4_init_33 : decode cX4_init 33 = .ok (.newarray .int, 2) := by decide +kernel
theorem dX4_init_35 : decode cX4_init 35 = .ok (.putfield 23, 3) := by decide +kernel
theorem dX4_init_38 : decode cX4_init 38 = .ok (.aload_n 0, 1) := by decide +kernel
theorem dX4_init_39 : decode cX4_init 39 = .ok (.bipush 6, 2) := by decide +kernel
theorem dX4_init_41 : decode cX4_init 41 = .ok (.newarray .int, 2) := by decide +kernel
theorem dX4_init_43 : decode cX4_init 43 = .ok (.putfield 26, 3) := by decide +kernel
theorem dX4_init_46 : decode cX4_init 46 = .ok (.aload_n 0, 1) := by decide +kernel
theorem dX4_init_47 : decode cX4_init 47 = .ok (.bipush 6, 2) := by decide +kernel
theorem dX4_init_49 : decode cX4_init 49 = .ok (.newarray .int, 2) := by decide +kernel
theorem dX4_init_51 : decode cX4_init 51 = .ok (.putfield 29, 3) := by decide +kernel
theorem dX4_init_54 : decode cX4_init 54 = .ok (.aload_n 0, 1) := by decide +kernel
theorem dX4_init_55 : decode cX4_init 55 = .ok (.bipush 6, 2) := by decide +kernel
theorem dX4_init_57 : decode cX4_init 57 = .ok (.newarray .int, 2) := by decide +kernel
theorem dX4_init_59 : decode cX4_init 59 = .ok (.putfield 32, 3) := by decide +kernel
theorem dX4_init_62 : decode cX4_init 62 = .ok (.aload_n 0, 1) := by decide +kernel
theorem dX4_init_63 : decode cX4_init 63 = .ok (.iconst 0, 1) := by decide +kernel
theorem dX4_init_64 : decode cX4_init 64 = .ok (.putfield 35, 3) := by decide +kernel
theorem dX4_init_67 : decode cX4_init 67 = .ok (.aload_n 0, 1) := by decide +kernel
theorem dX4_init_68 : decode cX4_init 68 = .ok (.iconst 0, 1) := by decide +kernel
theorem dX4_init_69 : decode cX4_init 69 = .ok (.putfield 38, 3) := by decide +kernel
theorem dX4_init_72 : decode cX4_init 72 = .ok (.aload_n 0, 1) := by decide +kernel
theorem dX4_init_73 : decode cX4_init 73 = .ok (.bipush 6, 2) := by decide +kernel
theorem dX4_init_75 : decode cX4_init 75 = .ok (.newarray .int, 2) := by decide +kernel
theorem dX4_init_77 : decode cX4_init 77 = .ok (.putfield 41, 3) := by decide +kernel
theorem dX4_init_80 : decode cX4_init 80 = .ok (.aload_n 0, 1) := by decide +kernel
theorem dX4_init_81 : decode cX4_init 81 = .ok (.bipush 6, 2) := by decide +kernel
theorem dX4_init_83 : decode cX4_init 83 = .ok (.newarray .int, 2) := by decide +kernel
theorem dX4_init_85 : decode cX4_init 85 = .ok (.putfield 44, 3) := by decide +kernel
theorem dX4_init_88 : decode cX4_init 88 = .ok (.aload_n 0, 1) := by decide +kernel
theorem dX4_init_89 : decode cX4_init 89 = .ok (.bipush 6, 2) := by decide +kernel
theorem dX4_init_91 : decode cX4_init 91 = .ok (.newarray .int, 2) := by decide +kernel
theorem dX4_init_93 : decode cX4_init 93 = .ok (.putfield 47, 3) := by decide +kernel
theorem dX4_init_96 : decode cX4_init 96 = .ok (.aload_n 0, 1) := by decide +kernel
theorem dX4_init_97 : decode cX4_init 97 = .ok (.bipush 6, 2) := by decide +kernel
theorem dX4_init_99 : decode cX4_init 99 = .ok (.newarray .int, 2) := by decide +kernel
theorem dX4_init_101 : decode cX4_init 101 = .ok (.putfield 50, 3) := by decide +kernel
theorem dX4_init_104 : decode cX4_init 104 = .ok (.aload_n 0, 1) := by decide +kernel
theorem dX4_init_105 : decode cX4_init 105 = .ok (.bipush 6, 2) := by decide +kernel
theorem dX4_init_107 : decode cX4_init 107 = .ok (.newarray .int, 2) := by decide +kernel
theorem dX4_init_109 : decode cX4_init 109 = .ok (.putfield 53, 3) := by decide +kernel
theorem dX4_init_112 : decode cX4_init 112 = .ok (.aload_n 0, 1) := by decide +kernel
theorem dX4_init_113 : decode cX4_init 113 = .ok (.bipush 6, 2) := by decide +kernel
theorem dX4_init_115 : decode cX4_init 115 = .ok (.newarray .int, 2) := by decide +kernel
theorem dX4_init_117 : decode cX4_init 117 = .ok (.putfield 56, 3) := by decide +kernel
theorem dX4_init_120 : decode cX4_init 120 = .ok (.aload_n 0, 1) := by decide +kernel
theorem dX4_init_121 : decode cX4_init 121 = .ok (.bipush 6, 2) := by decide +kernel
theorem dX4_init_123 : decode cX4_init 123 = .ok (.newarray .int, 2) := by decide +kernel
theorem dX4_init_125 : decode cX4_init 125 = .ok (.putfield 59, 3) := by decide +kernel
theorem dX4_init_128 : decode cX4_init 128 = .ok (.aload_n 0, 1) := by decide +kernel
theorem dX4_init_129 : decode cX4_init 129 = .ok (.iconst 0, 1) := by decide +kernel
theorem dX4_init_130 : decode cX4_init 130 = .ok (.putfield 62, 3) := by decide +kernel
theorem dX4_init_133 : decode cX4_init 133 = .ok (.aload_n 0, 1) := by decide +kernel
theorem dX4_init_134 : decode cX4_init 134 = .ok (.iconst 0, 1) := by decide +kernel
theorem dX4_init_135 : decode cX4_init 135 = .ok (.putfield 66, 3) := by decide +kernel
theorem dX4_init_138 : decode cX4_init 138 = .ok (.aload_n 0, 1) := by decide +kernel
theorem dX4_init_139 : decode cX4_init 139 = .ok (.bipush 6, 2) := by decide +kernel
theorem dX4_init_141 : decode cX4_init 141 = .ok (.newarray .int, 2) := by decide +kernel
theorem dX4_init_143 : decode cX4_init 143 = .ok (.putfield 69, 3) := by decide +kernel
theorem dX4_init_146 : decode cX4_init 146 = .ok (.aload_n 0, 1) := by decide +kernel
theorem dX4_init_147 : decode cX4_init 147 = .ok (.bipush 6, 2) := by decide +kernel
theorem dX4_init_149 : decode cX4_init 149 = .ok (.newarray .int, 2) := by decide +kernel
theorem dX4_init_151 : decode cX4_init 151 = .ok (.putfield 72, 3) := by decide +kernel
theorem dX4_init_154 : decode cX4_init 154 = .ok (.aload_n 0, 1) := by decide +kernel
theorem dX4_init_155 : decode cX4_init 155 = .ok (.bipush 6, 2) := by decide +kernel
theorem dX4_init_157 : decode cX4_init 157 = .ok (.newarray .int, 2) := by decide +kernel
theorem dX4_init_159 : decode cX4_init 159 = .ok (.putfield 75, 3) := by decide +kernel
theorem dX4_init_162 : decode cX4_init 162 = .ok (.aload_n 0, 1) := by decide +kernel
theorem dX4_init_163 : decode cX4_init 163 = .ok (.bipush 6, 2) := by decide +kernel
theorem dX4_init_165 : decode cX4_init 165 = .ok (.newarray .int, 2) := by decide +kernel
theorem dX4_init_167 : decode cX4_init 167 = .ok (.putfield 78, 3) := by decide +kernel
theorem dX4_init_170 : decode cX4_init 170 = .ok (.aload_n 0, 1) := by decide +kernel
theorem dX4_init_171 : decode cX4_init 171 = .ok (.iconst 0, 1) := by decide +kernel
theorem dX4_init_172 : decode cX4_init 172 = .ok (.putfield 81, 3) := by decide +kernel
theorem dX4_init_175 : decode cX4_init 175 = .ok (.aload_n 0, 1) := by decide +kernel
theorem dX4_init_176 : decode cX4_init 176 = .ok (.iconst 0, 1) := by decide +kernel
theorem dX4_init_177 : decode cX4_init 177 = .ok (.putfield 84, 3) := by decide +kernel
theorem dX4_init_180 : decode cX4_init 180 = .ok (.aload_n 0, 1) := by decide +kernel
theorem dX4_init_181 : decode cX4_init 181 = .ok (.iconst 0, 1) := by decide +kernel
theorem dX4_init_182 : decode cX4_init 182 = .ok (.putfield 87, 3) := by decide +kernel
theorem dX4_init_185 : decode cX4_init 185 = .ok (.aload_n 0, 1) := by decide +kernel
theorem dX4_init_186 : decode cX4_init 186 = .ok (.bipush 6, 2) := by decide +kernel
theorem dX4_init_188 : decode cX4_init 188 = .ok (.newarray .int, 2) := by decide +kernel
theorem dX4_init_190 : decode cX4_init 190 = .ok (.putfield 90, 3) := by decide +kernel
theorem dX4_init_193 : decode cX4_init 193 = .ok (.aload_n 0, 1) := by decide +kernel
theorem dX4_init_194 : decode cX4_init 194 = .ok (.bipush 7, 2) := by decide +kernel
theorem dX4_init_196 : decode cX4_init 196 = .ok (.newarray .int, 2) := by decide +kernel
theorem dX4_init_198 : decode cX4_init 198 = .ok (.putfield 93, 3) := by decide +kernel
theorem dX4_init_201 : decode cX4_init 201 = .ok (.aload_n 0, 1) := by decide +kernel
theorem dX4_init_202 : decode cX4_init 202 = .ok (.bipush 7, 2) := by decide +kernel
theorem dX4_init_204 : decode cX4_init 204 = .ok (.newarray .int, 2) := by decide +kernel
theorem dX4_init_206 : decode cX4_init 206 = .ok (.putfield 96, 3) := by decide +kernel
theorem dX4_init_209 : decode cX4_init 209 = .ok (.aload_n 0, 1) := by decide +kernel
theorem dX4_init_210 : decode cX4_init 210 = .ok (.bipush 7, 2) := by decide +kernel
theorem dX4_init_212 : decode cX4_init 212 = .ok (.newarray .int, 2) := by decide +kernel
theorem dX4_init_214 : decode cX4_init 214 = .ok (.putfield 99, 3) := by decide +kernel
theorem dX4_init_217 : decode cX4_init 217 = .ok (.aload_n 0, 1) := by decide +kernel
theorem dX4_init_218 : decode cX4_init 218 = .ok (.bipush 7, 2) := by decide +kernel
theorem dX4_init_220 : decode cX4_init 220 = .ok (.newarray .int, 2) := by decide +kernel
theorem dX4_init_222 : decode cX4_init 222 = .ok (.putfield 102, 3) := by decide +kernel
theorem dX4_init_225 : decode cX4_init 225 = .ok (.aload_n 0, 1) := by decide +kernel
theorem dX4_init_226 : decode cX4_init 226 = .ok (.sipush 168, 3) := by decide +kernel
theorem dX4_init_229 : decode cX4_init 229 = .ok (.newarray .int, 2) := by decide +kernel
theorem dX4_init_231 : decode cX4_init 231 = .ok (.putfield 105, 3) := by decide +kernel
theorem dX4_init_234 : decode cX4_init 234 = .ok (.aload_n 0, 1) := by decide +kernel
theorem dX4_init_235 : decode cX4_init 235 = .ok (.bipush 21, 2) := by decide +kernel
theorem dX4_init_237 : decode cX4_init 237 = .ok (.newarray .int, 2) := by decide +kernel
theorem dX4_init_239 : decode cX4_init 239 = .ok (.putfield 108, 3) := by decide +kernel
theorem dX4_init_242 : decode cX4_init 242 = .ok (.aload_n 0, 1) := by decide +kernel
theorem dX4_init_243 : decode cX4_init 243 = .ok (.bipush 8, 2) := by decide +kernel
theorem dX4_init_245 : decode cX4_init 245 = .ok (.newarray .int, 2) := by decide +kernel
theorem dX4_init_247 : decode cX4_init 247 = .ok (.putfield 111, 3) := by decide +kernel
theorem dX4_init_250 : decode cX4_init 250 = .ok (.aload_n 0, 1) := by decide +kernel
theorem dX4_init_251 : decode cX4_init 251 = .ok (.iload_n 1, 1) := by decide +kernel
theorem dX4_init_252 : decode cX4_init 252 = .ok (.invokestatic 114, 3) := by decide +kernel
theorem dX4_init_255 : decode cX4_init 255 = .ok (.putfield 118, 3) := by decide +kernel
theorem dX4_init_258 : decode cX4_init 258 = .ok (.aload_n 0, 1) := by decide +kernel
theorem dX4_init_259 : decode cX4_init 259 = .ok (.iload_n 2, 1) := by decide +kernel
theorem dX4_init_260 : decode cX4_init 260 = .ok (.invokestatic 114, 3) := by decide +kernel
theorem dX4_init_263 : decode cX4_init 263 = .ok (.putfield 121, 3) := by decide +kernel
theorem dX4_init_266 : decode cX4_init 266 = .ok (.aload_n 0, 1) := by decide +kernel
theorem dX4_init_267 : decode cX4_init 267 = .ok (.iload_n 3, 1) := by decide +kernel
theorem dX4_init_268 : decode cX4_init 268 = .ok (.invokestatic 114, 3) := by decide +kernel
theorem dX4_init_271 : decode cX4_init 271 = .ok (.putfield 124, 3) := by decide +kernel
theorem dX4_init_274 : decode cX4_init 274 = .ok (.iconst 0, 1) := by decide +kernel
theorem dX4_init_275 : decode cX4_init 275 = .ok (.istore 4, 2) := by decide +kernel
theorem dX4_init_277 : decode cX4_init 277 = .ok (.iload 4, 2) := by decide +kernel
theorem dX4_init_279 : decode cX4_init 279 = .ok (.bipush 6, 2) := by decide +kernel
theorem dX4_init_281 : decode cX4_init 281 = .ok (.if_icmp .ge 17, 3) := by decide +kernel
theorem dX4_init_284 : decode cX4_init 284 = .ok (.aload_n 0, 1) := by decide +kernel
theorem dX4_init_285 : decode cX4_init 285 = .ok (.getfield 41, 3) := by decide +kernel
theorem dX4_init_288 : decode cX4_init 288 = .ok (.iload 4, 2) := by decide +kernel
theorem dX4_init_290 : decode cX4_init 290 = .ok (.iconst (-1), 1) := by decide +kernel
theorem dX4_init_291 : decode cX4_init 291 = .ok (.iastore, 1) := by decide +kernel
theorem dX4_init_292 : decode cX4_init 292 = .ok (.iinc 4 1, 3) := by decide +kernel
theorem dX4_init_295 : decode cX4_init 295 = .ok (.goto (-18), 3) := by decide +kernel
theorem dX4_init_298 : decode cX4_init 298 = .ok (.return_, 1) := by decide +kernel
theorem dX4_held_0 : decode cX4_held 0 = .ok (.iload_n 0, 1) := by decide +kernel
theorem dX4_held_1 : decode cX4_held 1 = .ok (.iconst 1, 1) := by decide +kernel
theorem dX4_held_2 : decode cX4_held 2 = .ok (.if_icmp .ge 7, 3) := by decide +kernel
theorem dX4_held_5 : decode cX4_held 5 = .ok (.iconst 1, 1) := by decide +kernel
theorem dX4_held_6 : decode cX4_held 6 = .ok (.goto 15, 3) := by decide +kernel
theorem dX4_held_9 : decode cX4_held 9 = .ok (.iload_n 0, 1) := by decide +kernel
theorem dX4_held_10 : decode cX4_held 10 = .ok (.bipush 8, 2) := by decide +kernel
theorem dX4_held_12 : decode cX4_held 12 = .ok (.if_icmp .le 8, 3) := by decide +kernel
theorem dX4_held_15 : decode cX4_held 15 = .ok (.bipush 8, 2) := by decide +kernel
theorem dX4_held_17 : decode cX4_held 17 = .ok (.goto 4, 3) := by decide +kernel
theorem dX4_held_20 : decode cX4_held 20 = .ok (.iload_n 0, 1) := by decide +kernel
theorem dX4_held_21 : decode cX4_held 21 = .ok (.ireturn, 1) := by decide +kernel
theorem dX4_from_0 : decode cX4_from 0 = .ok (.iload_n 0, 1) := by decide +kernel
theorem dX4_from_1 : decode cX4_from 1 = .ok (.tableswitch 113 0 4 #[35, 37, 56, 75, 94], 35) := by decide +kernel
theorem dX4_from_36 : decode cX4_from 36 = .ok (.iload_n 1, 1) := by decide +kernel
theorem dX4_from_37 : decode cX4_from 37 = .ok (.ireturn, 1) := by decide +kernel
theorem dX4_from_38 : decode cX4_from 38 = .ok (.iload_n 1, 1) := by decide +kernel
theorem dX4_from_39 : decode cX4_from 39 = .ok (.ifCond .ne 7, 3) := by decide +kernel
theorem dX4_from_42 : decode cX4_from 42 = .ok (.iconst 1, 1) := by decide +kernel
theorem dX4_from_43 : decode cX4_from 43 = .ok (.goto 13, 3) := by decide +kernel
theorem dX4_from_46 : decode cX4_from 46 = .ok (.iload_n 1, 1) := by decide +kernel
theorem dX4_from_47 : decode cX4_from 47 = .ok (.iconst 1, 1) := by decide +kernel
theorem dX4_from_48 : decode cX4_from 48 = .ok (.if_icmp .ne 7, 3) := by decide +kernel
theorem dX4_from_51 : decode cX4_from 51 = .ok (.iconst 0, 1) := by decide +kernel
theorem dX4_from_52 : decode cX4_from 52 = .ok (.goto 4, 3) := by decide +kernel
theorem dX4_from_55 : decode cX4_from 55 = .ok (.iconst 2, 1) := by decide +kernel
theorem dX4_from_56 : decode cX4_from 56 = .ok (.ireturn, 1) := by decide +kernel
theorem dX4_from_57 : decode cX4_from 57 = .ok (.iload_n 1, 1) := by decide +kernel
theorem dX4_from_58 : decode cX4_from 58 = .ok (.ifCond .ne 7, 3) := by decide +kernel
theorem dX4_from_61 : decode cX4_from 61 = .ok (.iconst 0, 1) := by decide +kernel
theorem dX4_from_62 : decode cX4_from 62 = .ok (.goto 13, 3) := by decide +kernel
theorem dX4_from_65 : decode cX4_from 65 = .ok (.iload_n 1, 1) := by decide +kernel
theorem dX4_from_66 : decode cX4_from 66 = .ok (.iconst 1, 1) := by decide +kernel
theorem dX4_from_67 : decode cX4_from 67 = .ok (.if_icmp .ne 7, 3) := by decide +kernel
theorem dX4_from_70 : decode cX4_from 70 = .ok (.iconst 2, 1) := by decide +kernel
theorem dX4_from_71 : decode cX4_from 71 = .ok (.goto 4, 3) := by decide +kernel
theorem dX4_from_74 : decode cX4_from 74 = .ok (.iconst 1, 1) := by decide +kernel
theorem dX4_from_75 : decode cX4_from 75 = .ok (.ireturn, 1) := by decide +kernel
theorem dX4_from_76 : decode cX4_from 76 = .ok (.iload_n 1, 1) := by decide +kernel
theorem dX4_from_77 : decode cX4_from 77 = .ok (.ifCond .ne 7, 3) := by decide +kernel
theorem dX4_from_80 : decode cX4_from 80 = .ok (.iconst 2, 1) := by decide +kernel
theorem dX4_from_81 : decode cX4_from 81 = .ok (.goto 13, 3) := by decide +kernel
theorem dX4_from_84 : decode cX4_from 84 = .ok (.iload_n 1, 1) := by decide +kernel
theorem dX4_from_85 : decode cX4_from 85 = .ok (.iconst 1, 1) := by decide +kernel
theorem dX4_from_86 : decode cX4_from 86 = .ok (.if_icmp .ne 7, 3) := by decide +kernel
theorem dX4_from_89 : decode cX4_from 89 = .ok (.iconst 0, 1) := by decide +kernel
theorem dX4_from_90 : decode cX4_from 90 = .ok (.goto 4, 3) := by decide +kernel
theorem dX4_from_93 : decode cX4_from 93 = .ok (.iconst 1, 1) := by decide +kernel
theorem dX4_from_94 : decode cX4_from 94 = .ok (.ireturn, 1) := by decide +kernel
theorem dX4_from_95 : decode cX4_from 95 = .ok (.iload_n 1, 1) := by decide +kernel
theorem dX4_from_96 : decode cX4_from 96 = .ok (.ifCond .ne 7, 3) := by decide +kernel
theorem dX4_from_99 : decode cX4_from 99 = .ok (.iconst 1, 1) := by decide +kernel
theorem dX4_from_100 : decode cX4_from 100 = .ok (.goto 13, 3) := by decide +kernel
theorem dX4_from_103 : decode cX4_from 103 = .ok (.iload_n 1, 1) := by decide +kernel
theorem dX4_from_104 : decode cX4_from 104 = .ok (.iconst 1, 1) := by decide +kernel
theorem dX4_from_105 : decode cX4_from 105 = .ok (.if_icmp .ne 7, 3) := by decide +kernel
theorem dX4_from_108 : decode cX4_from 108 = .ok (.iconst 2, 1) := by decide +kernel
theorem dX4_from_109 : decode cX4_from 109 = .ok (.goto 4, 3) := by decide +kernel
theorem dX4_from_112 : decode cX4_from 112 = .ok (.iconst 0, 1) := by decide +kernel
theorem dX4_from_113 : decode cX4_from 113 = .ok (.ireturn, 1) := by decide +kernel
theorem dX4_from_114 : decode cX4_from 114 = .ok (.iconst 2, 1) := by decide +kernel
theorem dX4_from_115 : decode cX4_from 115 = .ok (.iload_n 1, 1) := by decide +kernel
theorem dX4_from_116 : decode cX4_from 116 = .ok (.isub, 1) := by decide +kernel
theorem dX4_from_117 : decode cX4_from 117 = .ok (.ireturn, 1) := by decide +kernel
theorem dX4_measure_0 : decode cX4_measure 0 = .ok (.aload_n 0, 1) := by decide +kernel
theorem dX4_measure_1 : decode cX4_measure 1 = .ok (.getfield 16, 3) := by decide +kernel
theorem dX4_measure_4 : decode cX4_measure 4 = .ok (.iconst 3, 1) := by decide +kernel
theorem dX4_measure_5 : decode cX4_measure 5 = .ok (.iload_n 1, 1) := by decide +kernel
theorem dX4_measure_6 : decode cX4_measure 6 = .ok (.imul, 1) := by decide +kernel
theorem dX4_measure_7 : decode cX4_measure 7 = .ok (.iload_n 2, 1) := by decide +kernel
theorem dX4_measure_8 : decode cX4_measure 8 = .ok (.iload_n 3, 1) := by decide +kernel
theorem dX4_measure_9 : decode cX4_measure 9 = .ok (.invokestatic 127, 3) := by decide +kernel
theorem dX4_measure_12 : decode cX4_measure 12 = .ok (.iadd, 1) := by decide +kernel
theorem dX4_measure_13 : decode cX4_measure 13 = .ok (.iaload, 1) := by decide +kernel
theorem dX4_measure_14 : decode cX4_measure 14 = .ok (.ireturn, 1) := by decide +kernel
theorem dX4_byMarks_0 : decode cX4_byMarks 0 = .ok (.iload_n 2, 1) := by decide +kernel
theorem dX4_byMarks_1 : decode cX4_byMarks 1 = .ok (.ifCond .ne 5, 3) := by decide +kernel
theorem dX4_byMarks_4 : decode cX4_byMarks 4 = .ok (.iconst 1, 1) := by decide +kernel
theorem dX4_byMarks_5 : decode cX4_byMarks 5 = .ok (.ireturn, 1) := by decide +kernel
theorem dX4_byMarks_6 : decode cX4_byMarks 6 = .ok (.iload_n 2, 1) := by decide +kernel
theorem dX4_byMarks_7 : decode cX4_byMarks 7 = .ok (.iconst 1, 1) := by decide +kernel
theorem dX4_byMarks_8 : decode cX4_byMarks 8 = .ok (.if_icmp .ne 21, 3) := by decide +kernel
theorem dX4_byMarks_11 : decode cX4_byMarks 11 = .ok (.aload_n 0, 1) := by decide +kernel
theorem dX4_byMarks_12 : decode cX4_byMarks 12 = .ok (.getfield 23, 3) := by decide +kernel
theorem dX4_byMarks_15 : decode cX4_byMarks 15 = .ok (.iload_n 1, 1) := by decide +kernel
theorem dX4_byMarks_16 : decode cX4_byMarks 16 = .ok (.iaload, 1) := by decide +kernel
theorem dX4_byMarks_17 : decode cX4_byMarks 17 = .ok (.iconst 1, 1) := by decide +kernel
theorem dX4_byMarks_18 : decode cX4_byMarks 18 = .ok (.iand, 1) := by decide +kernel
theorem dX4_byMarks_19 : decode cX4_byMarks 19 = .ok (.iconst 1, 1) := by decide +kernel
theorem dX4_byMarks_20 : decode cX4_byMarks 20 = .ok (.if_icmp .ne 7, 3) := by decide +kernel
theorem dX4_byMarks_23 : decode cX4_byMarks 23 = .ok (.iconst 1, 1) := by decide +kernel
theorem dX4_byMarks_24 : decode cX4_byMarks 24 = .ok (.goto 4, 3) := by decide +kernel
theorem dX4_byMarks_27 : decode cX4_byMarks 27 = .ok (.iconst 0, 1) := by decide +kernel
theorem dX4_byMarks_28 : decode cX4_byMarks 28 = .ok (.ireturn, 1) := by decide +kernel
theorem dX4_byMarks_29 : decode cX4_byMarks 29 = .ok (.iload_n 2, 1) := by decide +kernel
theorem dX4_byMarks_30 : decode cX4_byMarks 30 = .ok (.iconst 2, 1) := by decide +kernel
theorem dX4_byMarks_31 : decode cX4_byMarks 31 = .ok (.if_icmp .eq 8, 3) := by decide +kernel
theorem dX4_byMarks_34 : decode cX4_byMarks 34 = .ok (.iload_n 2, 1) := by decide +kernel
theorem dX4_byMarks_35 : decode cX4_byMarks 35 = .ok (.iconst 4, 1) := by decide +kernel
theorem dX4_byMarks_36 : decode cX4_byMarks 36 = .ok (.if_icmp .ne 21, 3) := by decide +kernel
theorem dX4_byMarks_39 : decode cX4_byMarks 39 = .ok (.aload_n 0, 1) := by decide +kernel
theorem dX4_byMarks_40 : decode cX4_byMarks 40 = .ok (.getfield 23, 3) := by decide +kernel
theorem dX4_byMarks_43 : decode cX4_byMarks 43 = .ok (.iload_n 1, 1) := by decide +kernel
theorem dX4_byMarks_44 : decode cX4_byMarks 44 = .ok (.iaload, 1) := by decide +kernel
theorem dX4_byMarks_45 : decode cX4_byMarks 45 = .ok (.iconst 2, 1) := by decide +kernel
theorem dX4_byMarks_46 : decode cX4_byMarks 46 = .ok (.iand, 1) := by decide +kernel
theorem dX4_byMarks_47 : decode cX4_byMarks 47 = .ok (.iconst 2, 1) := by decide +kernel
theorem dX4_byMarks_48 : decode cX4_byMarks 48 = .ok (.if_icmp .ne 7, 3) := by decide +kernel
theorem dX4_byMarks_51 : decode cX4_byMarks 51 = .ok (.iconst 1, 1) := by decide +kernel
theorem dX4_byMarks_52 : decode cX4_byMarks 52 = .ok (.goto 4, 3) := by decide +kernel
theorem dX4_byMarks_55 : decode cX4_byMarks 55 = .ok (.iconst 0, 1) := by decide +kernel
theorem dX4_byMarks_56 : decode cX4_byMarks 56 = .ok (.ireturn, 1) := by decide +kernel
theorem dX4_byMarks_57 : decode cX4_byMarks 57 = .ok (.aload_n 0, 1) := by decide +kernel
theorem dX4_byMarks_58 : decode cX4_byMarks 58 = .ok (.getfield 23, 3) := by decide +kernel
theorem dX4_byMarks_61 : decode cX4_byMarks 61 = .ok (.iload_n 1, 1) := by decide +kernel
theorem dX4_byMarks_62 : decode cX4_byMarks 62 = .ok (.iaload, 1) := by decide +kernel
theorem dX4_byMarks_63 : decode cX4_byMarks 63 = .ok (.iconst 3, 1) := by decide +kernel
theorem dX4_byMarks_64 : decode cX4_byMarks 64 = .ok (.if_icmp .ne 7, 3) := by decide +kernel
theorem dX4_byMarks_67 : decode cX4_byMarks 67 = .ok (.iconst 1, 1) := by decide +kernel
theorem dX4_byMarks_68 : decode cX4_byMarks 68 = .ok (.goto 4, 3) := by decide +kernel
theorem dX4_byMarks_71 : decode cX4_byMarks 71 = .ok (.iconst 0, 1) := by decide +kernel
theorem dX4_byMarks_72 : decode cX4_byMarks 72 = .ok (.ireturn, 1) := by decide +kernel
theorem dX4_let_0 : decode cX4_let 0 = .ok (.aload_n 0, 1) := by decide +kernel
theorem dX4_let_1 : decode cX4_let 1 = .ok (.iload_n 1, 1) := by decide +kernel
theorem dX4_let_2 : decode cX4_let 2 = .ok (.iload_n 2, 1) := by decide +kernel
theorem dX4_let_3 : decode cX4_let 3 = .ok (.invokevirtual 131, 3) := by decide +kernel
theorem dX4_let_6 : decode cX4_let 6 = .ok (.ifCond .ne 5, 3) := by decide +kernel
theorem dX4_let_9 : decode cX4_let 9 = .ok (.iconst 0, 1) := by decide +kernel
theorem dX4_let_10 : decode cX4_let 10 = .ok (.ireturn, 1) := by decide +kernel
theorem dX4_let_11 : decode cX4_let 11 = .ok (.iconst 0, 1) := by decide +kernel
theorem dX4_let_12 : decode cX4_let 12 = .ok (.istore_n 3, 1) := by decide +kernel
theorem dX4_let_13 : decode cX4_let 13 = .ok (.iload_n 3, 1) := by decide +kernel
theorem dX4_let_14 : decode cX4_let 14 = .ok (.iload_n 2, 1) := by decide +kernel
theorem dX4_let_15 : decode cX4_let 15 = .ok (.if_icmp .ge 70, 3) := by decide +kernel
theorem dX4_let_18 : decode cX4_let 18 = .ok (.aload_n 0, 1) := by decide +kernel
theorem dX4_let_19 : decode cX4_let 19 = .ok (.iload_n 1, 1) := by decide +kernel
theorem dX4_let_20 : decode cX4_let 20 = .ok (.iload_n 3, 1) := by decide +kernel
theorem dX4_let_21 : decode cX4_let 21 = .ok (.invokevirtual 131, 3) := by decide +kernel
theorem dX4_let_24 : decode cX4_let 24 = .ok (.istore 4, 2) := by decide +kernel
theorem dX4_let_26 : decode cX4_let 26 = .ok (.iconst 0, 1) := by decide +kernel
theorem dX4_let_27 : decode cX4_let 27 = .ok (.istore 5, 2) := by decide +kernel
theorem dX4_let_29 : decode cX4_let 29 = .ok (.iload 5, 2) := by decide +kernel
theorem dX4_let_31 : decode cX4_let 31 = .ok (.iconst 3, 1) := by decide +kernel
theorem dX4_let_32 : decode cX4_let 32 = .ok (.if_icmp .ge 40, 3) := by decide +kernel
theorem dX4_let_35 : decode cX4_let 35 = .ok (.iload 4, 2) := by decide +kernel
theorem dX4_let_37 : decode cX4_let 37 = .ok (.ifCond .eq 26, 3) := by decide +kernel
theorem dX4_let_40 : decode cX4_let 40 = .ok (.aload_n 0, 1) := by decide +kernel
theorem dX4_let_41 : decode cX4_let 41 = .ok (.iload_n 1, 1) := by decide +kernel
theorem dX4_let_42 : decode cX4_let 42 = .ok (.iload_n 3, 1) := by decide +kernel
theorem dX4_let_43 : decode cX4_let 43 = .ok (.iload 5, 2) := by decide +kernel
theorem dX4_let_45 : decode cX4_let 45 = .ok (.invokevirtual 135, 3) := by decide +kernel
theorem dX4_let_48 : decode cX4_let 48 = .ok (.aload_n 0, 1) := by decide +kernel
theorem dX4_let_49 : decode cX4_let 49 = .ok (.iload_n 1, 1) := by decide +kernel
theorem dX4_let_50 : decode cX4_let 50 = .ok (.iload_n 2, 1) := by decide +kernel
theorem dX4_let_51 : decode cX4_let 51 = .ok (.iload 5, 2) := by decide +kernel
theorem dX4_let_53 : decode cX4_let 53 = .ok (.invokevirtual 135, 3) := by decide +kernel
theorem dX4_let_56 : decode cX4_let 56 = .ok (.if_icmp .ne 7, 3) := by decide +kernel
theorem dX4_let_59 : decode cX4_let 59 = .ok (.iconst 1, 1) := by decide +kernel
theorem dX4_let_60 : decode cX4_let 60 = .ok (.goto 4, 3) := by decide +kernel
theorem dX4_let_63 : decode cX4_let 63 = .ok (.iconst 0, 1) := by decide +kernel
theorem dX4_let_64 : decode cX4_let 64 = .ok (.istore 4, 2) := by decide +kernel
theorem dX4_let_66 : decode cX4_let 66 = .ok (.iinc 5 1, 3) := by decide +kernel
theorem dX4_let_69 : decode cX4_let 69 = .ok (.goto (-40), 3) := by decide +kernel
theorem dX4_let_72 : decode cX4_let 72 = .ok (.iload 4, 2) := by decide +kernel
theorem dX4_let_74 : decode cX4_let 74 = .ok (.ifCond .eq 5, 3) := by decide +kernel
theorem dX4_let_77 : decode cX4_let 77 = .ok (.iconst 0, 1) := by decide +kernel
theorem dX4_let_78 : decode cX4_let 78 = .ok (.ireturn, 1) := by decide +kernel
theorem dX4_let_79 : decode cX4_let 79 = .ok (.iinc 3 1, 3) := by decide +kernel
theorem dX4_let_82 : decode cX4_let 82 = .ok (.goto (-69), 3) := by decide +kernel
theorem dX4_let_85 : decode cX4_let 85 = .ok (.iconst 1, 1) := by decide +kernel
theorem dX4_let_86 : decode cX4_let 86 = .ok (.ireturn, 1) := by decide +kernel
theorem dX4_stand_0 : decode cX4_stand 0 = .ok (.aload_n 0, 1) := by decide +kernel
theorem dX4_stand_1 : decode cX4_stand 1 = .ok (.getfield 41, 3) := by decide +kernel
theorem dX4_stand_4 : decode cX4_stand 4 = .ok (.iload_n 1, 1) := by decide +kernel
theorem dX4_stand_5 : decode cX4_stand 5 = .ok (.iload_n 2, 1) := by decide +kernel
theorem dX4_stand_6 : decode cX4_stand 6 = .ok (.iastore, 1) := by decide +kernel
theorem dX4_stand_7 : decode cX4_stand 7 = .ok (.aload_n 0, 1) := by decide +kernel
theorem dX4_stand_8 : decode cX4_stand 8 = .ok (.getfield 44, 3) := by decide +kernel
theorem dX4_stand_11 : decode cX4_stand 11 = .ok (.iload_n 1, 1) := by decide +kernel
theorem dX4_stand_12 : decode cX4_stand 12 = .ok (.iload_n 3, 1) := by decide +kernel
theorem dX4_stand_13 : decode cX4_stand 13 = .ok (.iastore, 1) := by decide +kernel
theorem dX4_stand_14 : decode cX4_stand 14 = .ok (.aload_n 0, 1) := by decide +kernel
theorem dX4_stand_15 : decode cX4_stand 15 = .ok (.getfield 47, 3) := by decide +kernel
theorem dX4_stand_18 : decode cX4_stand 18 = .ok (.iload_n 1, 1) := by decide +kernel
theorem dX4_stand_19 : decode cX4_stand 19 = .ok (.iload 4, 2) := by decide +kernel
theorem dX4_stand_21 : decode cX4_stand 21 = .ok (.iastore, 1) := by decide +kernel
theorem dX4_stand_22 : decode cX4_stand 22 = .ok (.aload_n 0, 1) := by decide +kernel
theorem dX4_stand_23 : decode cX4_stand 23 = .ok (.getfield 50, 3) := by decide +kernel
theorem dX4_stand_26 : decode cX4_stand 26 = .ok (.iload_n 1, 1) := by decide +kernel
theorem dX4_stand_27 : decode cX4_stand 27 = .ok (.iload 5, 2) := by decide +kernel
theorem dX4_stand_29 : decode cX4_stand 29 = .ok (.iastore, 1) := by decide +kernel
theorem dX4_stand_30 : decode cX4_stand 30 = .ok (.aload_n 0, 1) := by decide +kernel
theorem dX4_stand_31 : decode cX4_stand 31 = .ok (.getfield 53, 3) := by decide +kernel
theorem dX4_stand_34 : decode cX4_stand 34 = .ok (.iload_n 1, 1) := by decide +kernel
theorem dX4_stand_35 : decode cX4_stand 35 = .ok (.aload_n 0, 1) := by decide +kernel
theorem dX4_stand_36 : decode cX4_stand 36 = .ok (.iload_n 1, 1) := by decide +kernel
theorem dX4_stand_37 : decode cX4_stand 37 = .ok (.iload_n 2, 1) := by decide +kernel
theorem dX4_stand_38 : decode cX4_stand 38 = .ok (.iconst 0, 1) := by decide +kernel
theorem dX4_stand_39 : decode cX4_stand 39 = .ok (.invokevirtual 135, 3) := by decide +kernel
theorem dX4_stand_42 : decode cX4_stand 42 = .ok (.iastore, 1) := by decide +kernel
theorem dX4_stand_43 : decode cX4_stand 43 = .ok (.aload_n 0, 1) := by decide +kernel
theorem dX4_stand_44 : decode cX4_stand 44 = .ok (.getfield 56, 3) := by decide +kernel
theorem dX4_stand_47 : decode cX4_stand 47 = .ok (.iload_n 1, 1) := by decide +kernel
theorem dX4_stand_48 : decode cX4_stand 48 = .ok (.aload_n 0, 1) := by decide +kernel
theorem dX4_stand_49 : decode cX4_stand 49 = .ok (.iload_n 1, 1) := by decide +kernel
theorem dX4_stand_50 : decode cX4_stand 50 = .ok (.iload_n 2, 1) := by decide +kernel
theorem dX4_stand_51 : decode cX4_stand 51 = .ok (.iconst 1, 1) := by decide +kernel
theorem dX4_stand_52 : decode cX4_stand 52 = .ok (.invokevirtual 135, 3) := by decide +kernel
theorem dX4_stand_55 : decode cX4_stand 55 = .ok (.iastore, 1) := by decide +kernel
theorem dX4_stand_56 : decode cX4_stand 56 = .ok (.aload_n 0, 1) := by decide +kernel
theorem dX4_stand_57 : decode cX4_stand 57 = .ok (.getfield 59, 3) := by decide +kernel
theorem dX4_stand_60 : decode cX4_stand 60 = .ok (.iload_n 1, 1) := by decide +kernel
theorem dX4_stand_61 : decode cX4_stand 61 = .ok (.aload_n 0, 1) := by decide +kernel
theorem dX4_stand_62 : decode cX4_stand 62 = .ok (.iload_n 1, 1) := by decide +kernel
theorem dX4_stand_63 : decode cX4_stand 63 = .ok (.iload_n 2, 1) := by decide +kernel
theorem dX4_stand_64 : decode cX4_stand 64 = .ok (.iconst 2, 1) := by decide +kernel
theorem dX4_stand_65 : decode cX4_stand 65 = .ok (.invokevirtual 135, 3) := by decide +kernel
theorem dX4_stand_68 : decode cX4_stand 68 = .ok (.iastore, 1) := by decide +kernel
theorem dX4_stand_69 : decode cX4_stand 69 = .ok (.return_, 1) := by decide +kernel
theorem dX4_common_0 : decode cX4_common 0 = .ok (.iload_n 0, 1) := by decide +kernel
theorem dX4_common_1 : decode cX4_common 1 = .ok (.iload_n 2, 1) := by decide +kernel
theorem dX4_common_2 : decode cX4_common 2 = .ok (.if_icmp .le 7, 3) := by decide +kernel
theorem dX4_common_5 : decode cX4_common 5 = .ok (.iload_n 0, 1) := by decide +kernel
theorem dX4_common_6 : decode cX4_common 6 = .ok (.goto 4, 3) := by decide +kernel
theorem dX4_common_9 : decode cX4_common 9 = .ok (.iload_n 2, 1) := by decide +kernel
theorem dX4_common_10 : decode cX4_common 10 = .ok (.istore 4, 2) := by decide +kernel
theorem dX4_common_12 : decode cX4_common 12 = .ok (.iload_n 0, 1) := by decide +kernel
theorem dX4_common_13 : decode cX4_common 13 = .ok (.iload_n 1, 1) := by decide +kernel
theorem dX4_common_14 : decode cX4_common 14 = .ok (.iadd, 1) := by decide +kernel
theorem dX4_common_15 : decode cX4_common 15 = .ok (.iload_n 2, 1) := by decide +kernel
theorem dX4_common_16 : decode cX4_common 16 = .ok (.iload_n 3, 1) := by decide +kernel
theorem dX4_common_17 : decode cX4_common 17 = .ok (.iadd, 1) := by decide +kernel
theorem dX4_common_18 : decode cX4_common 18 = .ok (.if_icmp .ge 9, 3) := by decide +kernel
theorem dX4_common_21 : decode cX4_common 21 = .ok (.iload_n 0, 1) := by decide +kernel
theorem dX4_common_22 : decode cX4_common 22 = .ok (.iload_n 1, 1) := by decide +kernel
theorem dX4_common_23 : decode cX4_common 23 = .ok (.iadd, 1) := by decide +kernel
theorem dX4_common_24 : decode cX4_common 24 = .ok (.goto 6, 3) := by decide +kernel
theorem dX4_common_27 : decode cX4_common 27 = .ok (.iload_n 2, 1) := by decide +kernel
theorem dX4_common_28 : decode cX4_common 28 = .ok (.iload_n 3, 1) := by decide +kernel
theorem dX4_common_29 : decode cX4_common 29 = .ok (.iadd, 1) := by decide +kernel
theorem dX4_common_30 : decode cX4_common 30 = .ok (.istore 5, 2) := by decide +kernel
theorem dX4_common_32 : decode cX4_common 32 = .ok (.iload 5, 2) := by decide +kernel
theorem dX4_common_34 : decode cX4_common 34 = .ok (.iload 4, 2) := by decide +kernel
theorem dX4_common_36 : decode cX4_common 36 = .ok (.if_icmp .le 11, 3) := by decide +kernel
theorem dX4_common_39 : decode cX4_common 39 = .ok (.iload 5, 2) := by decide +kernel
theorem dX4_common_41 : decode cX4_common 41 = .ok (.iload 4, 2) := by decide +kernel
theorem dX4_common_43 : decode cX4_common 43 = .ok (.isub, 1) := by decide +kernel
theorem dX4_common_44 : decode cX4_common 44 = .ok (.goto 4, 3) := by decide +kernel
theorem dX4_common_47 : decode cX4_common 47 = .ok (.iconst 0, 1) := by decide +kernel
theorem dX4_common_48 : decode cX4_common 48 = .ok (.ireturn, 1) := by decide +kernel
theorem dX4_area_0 : decode cX4_area 0 = .ok (.aload_n 0, 1) := by decide +kernel
theorem dX4_area_1 : decode cX4_area 1 = .ok (.getfield 44, 3) := by decide +kernel
theorem dX4_area_4 : decode cX4_area 4 = .ok (.iload_n 1, 1) := by decide +kernel
theorem dX4_area_5 : decode cX4_area 5 = .ok (.iaload, 1) := by decide +kernel
theorem dX4_area_6 : decode cX4_area 6 = .ok (.aload_n 0, 1) := by decide +kernel
theorem dX4_area_7 : decode cX4_area 7 = .ok (.getfield 53, 3) := by decide +kernel
theorem dX4_area_10 : decode cX4_area 10 = .ok (.iload_n 1, 1) := by decide +kernel
theorem dX4_area_11 : decode cX4_area 11 = .ok (.iaload, 1) := by decide +kernel
theorem dX4_area_12 : decode cX4_area 12 = .ok (.aload_n 0, 1) := by decide +kernel
theorem dX4_area_13 : decode cX4_area 13 = .ok (.getfield 44, 3) := by decide +kernel
theorem dX4_area_16 : decode cX4_area 16 = .ok (.iload_n 2, 1) := by decide +kernel
theorem dX4_area_17 : decode cX4_area 17 = .ok (.iaload, 1) := by decide +kernel
theorem dX4_area_18 : decode cX4_area 18 = .ok (.aload_n 0, 1) := by decide +kernel
theorem dX4_area_19 : decode cX4_area 19 = .ok (.getfield 53, 3) := by decide +kernel
theorem dX4_area_22 : decode cX4_area 22 = .ok (.iload_n 2, 1) := by decide +kernel
theorem dX4_area_23 : decode cX4_area 23 = .ok (.iaload, 1) := by decide +kernel
theorem dX4_area_24 : decode cX4_area 24 = .ok (.invokestatic 139, 3) := by decide +kernel
theorem dX4_area_27 : decode cX4_area 27 = .ok (.aload_n 0, 1) := by decide +kernel
theorem dX4_area_28 : decode cX4_area 28 = .ok (.getfield 47, 3) := by decide +kernel
theorem dX4_area_31 : decode cX4_area 31 = .ok (.iload_n 1, 1) := by decide +kernel
theorem dX4_area_32 : decode cX4_area 32 = .ok (.iaload, 1) := by decide +kernel
theorem dX4_area_33 : decode cX4_area 33 = .ok (.aload_n 0, 1) := by decide +kernel
theorem dX4_area_34 : decode cX4_area 34 = .ok (.getfield 56, 3) := by decide +kernel
theorem dX4_area_37 : decode cX4_area 37 = .ok (.iload_n 1, 1) := by decide +kernel
theorem dX4_area_38 : decode cX4_area 38 = .ok (.iaload, 1) := by decide +kernel
theorem dX4_area_39 : decode cX4_area 39 = .ok (.aload_n 0, 1) := by decide +kernel
theorem dX4_area_40 : decode cX4_area 40 = .ok (.getfield 47, 3) := by decide +kernel
theorem dX4_area_43 : decode cX4_area 43 = .ok (.iload_n 2, 1) := by decide +kernel
theorem dX4_area_44 : decode cX4_area 44 = .ok (.iaload, 1) := by decide +kernel
theorem dX4_area_45 : decode cX4_area 45 = .ok (.aload_n 0, 1) := by decide +kernel
theorem dX4_area_46 : decode cX4_area 46 = .ok (.getfield 56, 3) := by decide +kernel
theorem dX4_area_49 : decode cX4_area 49 = .ok (.iload_n 2, 1) := by decide +kernel
theorem dX4_area_50 : decode cX4_area 50 = .ok (.iaload, 1) := by decide +kernel
theorem dX4_area_51 : decode cX4_area 51 = .ok (.invokestatic 139, 3) := by decide +kernel
theorem dX4_area_54 : decode cX4_area 54 = .ok (.imul, 1) := by decide +kernel
theorem dX4_area_55 : decode cX4_area 55 = .ok (.ireturn, 1) := by decide +kernel
theorem dX4_standsOn_0 : decode cX4_standsOn 0 = .ok (.iload_n 1, 1) := by decide +kernel
theorem dX4_standsOn_1 : decode cX4_standsOn 1 = .ok (.iload_n 2, 1) := by decide +kernel
theorem dX4_standsOn_2 : decode cX4_standsOn 2 = .ok (.if_icmp .eq 56, 3) := by decide +kernel
theorem dX4_standsOn_5 : decode cX4_standsOn 5 = .ok (.aload_n 0, 1) := by decide +kernel
theorem dX4_standsOn_6 : decode cX4_standsOn 6 = .ok (.getfield 41, 3) := by decide +kernel
theorem dX4_standsOn_9 : decode cX4_standsOn 9 = .ok (.iload_n 1, 1) := by decide +kernel
theorem dX4_standsOn_10 : decode cX4_standsOn 10 = .ok (.iaload, 1) := by decide +kernel
theorem dX4_standsOn_11 : decode cX4_standsOn 11 = .ok (.ifCond .lt 47, 3) := by decide +kernel
theorem dX4_standsOn_14 : decode cX4_standsOn 14 = .ok (.aload_n 0, 1) := by decide +kernel
theorem dX4_standsOn_15 : decode cX4_standsOn 15 = .ok (.getfield 41, 3) := by decide +kernel
theorem dX4_standsOn_18 : decode cX4_standsOn 18 = .ok (.iload_n 2, 1) := by decide +kernel
theorem dX4_standsOn_19 : decode cX4_standsOn 19 = .ok (.iaload, 1) := by decide +kernel
theorem dX4_standsOn_20 : decode cX4_standsOn 20 = .ok (.ifCond .lt 38, 3) := by decide +kernel
theorem dX4_standsOn_23 : decode cX4_standsOn 23 = .ok (.aload_n 0, 1) := by decide +kernel
theorem dX4_standsOn_24 : decode cX4_standsOn 24 = .ok (.getfield 50, 3) := by decide +kernel
theorem dX4_standsOn_27 : decode cX4_standsOn 27 = .ok (.iload_n 1, 1) := by decide +kernel
theorem dX4_standsOn_28 : decode cX4_standsOn 28 = .ok (.iaload, 1) := by decide +kernel
theorem dX4_standsOn_29 : decode cX4_standsOn 29 = .ok (.aload_n 0, 1) := by decide +kernel
theorem dX4_standsOn_30 : decode cX4_standsOn 30 = .ok (.getfield 50, 3) := by decide +kernel
theorem dX4_standsOn_33 : decode cX4_standsOn 33 = .ok (.iload_n 2, 1) := by decide +kernel
theorem dX4_standsOn_34 : decode cX4_standsOn 34 = .ok (.iaload, 1) := by decide +kernel
theorem dX4_standsOn_35 : decode cX4_standsOn 35 = .ok (.aload_n 0, 1) := by decide +kernel
theorem dX4_standsOn_36 : decode cX4_standsOn 36 = .ok (.getfield 59, 3) := by decide +kernel
theorem dX4_standsOn_39 : decode cX4_standsOn 39 = .ok (.iload_n 2, 1) := by decide +kernel
theorem dX4_standsOn_40 : decode cX4_standsOn 40 = .ok (.iaload, 1) := by decide +kernel
theorem dX4_standsOn_41 : decode cX4_standsOn 41 = .ok (.iadd, 1) := by decide +kernel
theorem dX4_standsOn_42 : decode cX4_standsOn 42 = .ok (.if_icmp .ne 16, 3) := by decide +kernel
theorem dX4_standsOn_45 : decode cX4_standsOn 45 = .ok (.aload_n 0, 1) := by decide +kernel
theorem dX4_standsOn_46 : decode cX4_standsOn 46 = .ok (.iload_n 1, 1) := by decide +kernel
theorem dX4_standsOn_47 : decode cX4_standsOn 47 = .ok (.iload_n 2, 1) := by decide +kernel
theorem dX4_standsOn_48 : decode cX4_standsOn 48 = .ok (.invokevirtual 143, 3) := by decide +kernel
theorem dX4_standsOn_51 : decode cX4_standsOn 51 = .ok (.ifCond .le 7, 3) := by decide +kernel
theorem dX4_standsOn_54 : decode cX4_standsOn 54 = .ok (.iconst 1, 1) := by decide +kernel
theorem dX4_standsOn_55 : decode cX4_standsOn 55 = .ok (.goto 4, 3) := by decide +kernel
theorem dX4_standsOn_58 : decode cX4_standsOn 58 = .ok (.iconst 0, 1) := by decide +kernel
theorem dX4_standsOn_59 : decode cX4_standsOn 59 = .ok (.ireturn, 1) := by decide +kernel
theorem dX4_supportOf_0 : decode cX4_supportOf 0 = .ok (.aload_n 0, 1) := by decide +kernel
theorem dX4_supportOf_1 : decode cX4_supportOf 1 = .ok (.getfield 50, 3) := by decide +kernel
theorem dX4_supportOf_4 : decode cX4_supportOf 4 = .ok (.iload_n 1, 1) := by decide +kernel
theorem dX4_supportOf_5 : decode cX4_supportOf 5 = .ok (.iaload, 1) := by decide +kernel
theorem dX4_supportOf_6 : decode cX4_supportOf 6 = .ok (.ifCond .ne 17, 3) := by decide +kernel
theorem dX4_supportOf_9 : decode cX4_supportOf 9 = .ok (.aload_n 0, 1) := by decide +kernel
theorem dX4_supportOf_10 : decode cX4_supportOf 10 = .ok (.getfield 53, 3) := by decide +kernel
theorem dX4_supportOf_13 : decode cX4_supportOf 13 = .ok (.iload_n 1, 1) := by decide +kernel
theorem dX4_supportOf_14 : decode cX4_supportOf 14 = .ok (.iaload, 1) := by decide +kernel
theorem dX4_supportOf_15 : decode cX4_supportOf 15 = .ok (.aload_n 0, 1) := by decide +kernel
theorem dX4_supportOf_16 : decode cX4_supportOf 16 = .ok (.getfield 56, 3) := by decide +kernel
theorem dX4_supportOf_19 : decode cX4_supportOf 19 = .ok (.iload_n 1, 1) := by decide +kernel
theorem dX4_supportOf_20 : decode cX4_supportOf 20 = .ok (.iaload, 1) := by decide +kernel
theorem dX4_supportOf_21 : decode cX4_supportOf 21 = .ok (.imul, 1) := by decide +kernel
theorem dX4_supportOf_22 : decode cX4_supportOf 22 = .ok (.ireturn, 1) := by decide +kernel
theorem dX4_supportOf_23 : decode cX4_supportOf 23 = .ok (.iconst 0, 1) := by decide +kernel
theorem dX4_supportOf_24 : decode cX4_supportOf 24 = .ok (.istore_n 2, 1) := by decide +kernel
theorem dX4_supportOf_25 : decode cX4_supportOf 25 = .ok (.iconst 0, 1) := by decide +kernel
theorem dX4_supportOf_26 : decode cX4_supportOf 26 = .ok (.istore_n 3, 1) := by decide +kernel
theorem dX4_supportOf_27 : decode cX4_supportOf 27 = .ok (.iload_n 3, 1) := by decide +kernel
theorem dX4_supportOf_28 : decode cX4_supportOf 28 = .ok (.aload_n 0, 1) := by decide +kernel
theorem dX4_supportOf_29 : decode cX4_supportOf 29 = .ok (.getfield 13, 3) := by decide +kernel
theorem dX4_supportOf_32 : decode cX4_supportOf 32 = .ok (.if_icmp .ge 31, 3) := by decide +kernel
theorem dX4_supportOf_35 : decode cX4_supportOf 35 = .ok (.iload_n 2, 1) := by decide +kernel
theorem dX4_supportOf_36 : decode cX4_supportOf 36 = .ok (.aload_n 0, 1) := by decide +kernel
theorem dX4_supportOf_37 : decode cX4_supportOf 37 = .ok (.iload_n 1, 1) := by decide +kernel
theorem dX4_supportOf_38 : decode cX4_supportOf 38 = .ok (.iload_n 3, 1) := by decide +kernel
theorem dX4_supportOf_39 : decode cX4_supportOf 39 = .ok (.invokevirtual 146, 3) := by decide +kernel
theorem dX4_supportOf_42 : decode cX4_supportOf 42 = .ok (.ifCond .eq 12, 3) := by decide +kernel
theorem dX4_supportOf_45 : decode cX4_supportOf 45 = .ok (.aload_n 0, 1) := by decide +kernel
theorem dX4_supportOf_46 : decode cX4_supportOf 46 = .ok (.iload_n 1, 1) := by decide +kernel
theorem dX4_supportOf_47 : decode cX4_supportOf 47 = .ok (.iload_n 3, 1) := by decide +kernel
theorem dX4_supportOf_48 : decode cX4_supportOf 48 = .ok (.invokevirtual 143, 3) := by decide +kernel
theorem dX4_supportOf_51 : decode cX4_supportOf 51 = .ok (.goto 4, 3) := by decide +kernel
theorem dX4_supportOf_54 : decode cX4_supportOf 54 = .ok (.iconst 0, 1) := by decide +kernel
theorem dX4_supportOf_55 : decode cX4_supportOf 55 = .ok (.iadd, 1) := by decide +kernel
theorem dX4_supportOf_56 : decode cX4_supportOf 56 = .ok (.istore_n 2, 1) := by decide +kernel
theorem dX4_supportOf_57 : decode cX4_supportOf 57 = .ok (.iinc 3 1, 3) := by decide +kernel
theorem dX4_supportOf_60 : decode cX4_supportOf 60 = .ok (.goto (-33), 3) := by decide +kernel
theorem dX4_supportOf_63 : decode cX4_supportOf 63 = .ok (.iload_n 2, 1) := by decide +kernel
theorem dX4_supportOf_64 : decode cX4_supportOf 64 = .ok (.ireturn, 1) := by decide +kernel
theorem dX4_borne_0 : decode cX4_borne 0 = .ok (.iconst 1, 1) := by decide +kernel
theorem dX4_borne_1 : decode cX4_borne 1 = .ok (.iload_n 1, 1) := by decide +kernel
theorem dX4_borne_2 : decode cX4_borne 2 = .ok (.ishl, 1) := by decide +kernel
theorem dX4_borne_3 : decode cX4_borne 3 = .ok (.istore_n 2, 1) := by decide +kernel
theorem dX4_borne_4 : decode cX4_borne 4 = .ok (.iconst 1, 1) := by decide +kernel
theorem dX4_borne_5 : decode cX4_borne 5 = .ok (.istore_n 3, 1) := by decide +kernel
theorem dX4_borne_6 : decode cX4_borne 6 = .ok (.iload_n 3, 1) := by decide +kernel
theorem dX4_borne_7 : decode cX4_borne 7 = .ok (.ifCond .eq 83, 3) := by decide +kernel
theorem dX4_borne_10 : decode cX4_borne 10 = .ok (.iconst 0, 1) := by decide +kernel
theorem dX4_borne_11 : decode cX4_borne 11 = .ok (.istore_n 3, 1) := by decide +kernel
theorem dX4_borne_12 : decode cX4_borne 12 = .ok (.iconst 0, 1) := by decide +kernel
theorem dX4_borne_13 : decode cX4_borne 13 = .ok (.istore 4, 2) := by decide +kernel
theorem dX4_borne_15 : decode cX4_borne 15 = .ok (.iload 4, 2) := by decide +kernel
theorem dX4_borne_17 : decode cX4_borne 17 = .ok (.aload_n 0, 1) := by decide +kernel
theorem dX4_borne_18 : decode cX4_borne 18 = .ok (.getfield 13, 3) := by decide +kernel
theorem dX4_borne_21 : decode cX4_borne 21 = .ok (.if_icmp .ge 66, 3) := by decide +kernel
theorem dX4_borne_24 : decode cX4_borne 24 = .ok (.iconst 0, 1) := by decide +kernel
theorem dX4_borne_25 : decode cX4_borne 25 = .ok (.istore 5, 2) := by decide +kernel
theorem dX4_borne_27 : decode cX4_borne 27 = .ok (.iload 5, 2) := by decide +kernel
theorem dX4_borne_29 : decode cX4_borne 29 = .ok (.aload_n 0, 1) := by decide +kernel
theorem dX4_borne_30 : decode cX4_borne 30 = .ok (.getfield 13, 3) := by decide +kernel
theorem dX4_borne_33 : decode cX4_borne 33 = .ok (.if_icmp .ge 48, 3) := by decide +kernel
theorem dX4_borne_36 : decode cX4_borne 36 = .ok (.iload_n 2, 1) := by decide +kernel
theorem dX4_borne_37 : decode cX4_borne 37 = .ok (.iload 4, 2) := by decide +kernel
theorem dX4_borne_39 : decode cX4_borne 39 = .ok (.ishr, 1) := by decide +kernel
theorem dX4_borne_40 : decode cX4_borne 40 = .ok (.iconst 1, 1) := by decide +kernel
theorem dX4_borne_41 : decode cX4_borne 41 = .ok (.iand, 1) := by decide +kernel
theorem dX4_borne_42 : decode cX4_borne 42 = .ok (.ifCond .ne 33, 3) := by decide +kernel
theorem dX4_borne_45 : decode cX4_borne 45 = .ok (.iload_n 2, 1) := by decide +kernel
theorem dX4_borne_46 : decode cX4_borne 46 = .ok (.iload 5, 2) := by decide +kernel
theorem dX4_borne_48 : decode cX4_borne 48 = .ok (.ishr, 1) := by decide +kernel
theorem dX4_borne_49 : decode cX4_borne 49 = .ok (.iconst 1, 1) := by decide +kernel
theorem dX4_borne_50 : decode cX4_borne 50 = .ok (.iand, 1) := by decide +kernel
theorem dX4_borne_51 : decode cX4_borne 51 = .ok (.iconst 1, 1) := by decide +kernel
theorem dX4_borne_52 : decode cX4_borne 52 = .ok (.if_icmp .ne 23, 3) := by decide +kernel
theorem dX4_borne_55 : decode cX4_borne 55 = .ok (.aload_n 0, 1) := by decide +kernel
theorem dX4_borne_56 : decode cX4_borne 56 = .ok (.iload 4, 2) := by decide +kernel
theorem dX4_borne_58 : decode cX4_borne 58 = .ok (.iload 5, 2) := by decide +kernel
theorem dX4_borne_60 : decode cX4_borne 60 = .ok (.invokevirtual 146, 3) := by decide +kernel
theorem dX4_borne_63 : decode cX4_borne 63 = .ok (.ifCond .eq 12, 3) := by decide +kernel
theorem dX4_borne_66 : decode cX4_borne 66 = .ok (.iload_n 2, 1) := by decide +kernel
theorem dX4_borne_67 : decode cX4_borne 67 = .ok (.iconst 1, 1) := by decide +kernel
theorem dX4_borne_68 : decode cX4_borne 68 = .ok (.iload 4, 2) := by decide +kernel
theorem dX4_borne_70 : decode cX4_borne 70 = .ok (.ishl, 1) := by decide +kernel
theorem dX4_borne_71 : decode cX4_borne 71 = .ok (.ior, 1) := by decide +kernel
theorem dX4_borne_72 : decode cX4_borne 72 = .ok (.istore_n 2, 1) := by decide +kernel
theorem dX4_borne_73 : decode cX4_borne 73 = .ok (.iconst 1, 1) := by decide +kernel
theorem dX4_borne_74 : decode cX4_borne 74 = .ok (.istore_n 3, 1) := by decide +kernel
theorem dX4_borne_75 : decode cX4_borne 75 = .ok (.iinc 5 1, 3) := by decide +kernel
theorem dX4_borne_78 : decode cX4_borne 78 = .ok (.goto (-51), 3) := by decide +kernel
theorem dX4_borne_81 : decode cX4_borne 81 = .ok (.iinc 4 1, 3) := by decide +kernel
theorem dX4_borne_84 : decode cX4_borne 84 = .ok (.goto (-69), 3) := by decide +kernel
theorem dX4_borne_87 : decode cX4_borne 87 = .ok (.goto (-81), 3) := by decide +kernel
theorem dX4_borne_90 : decode cX4_borne 90 = .ok (.iconst 0, 1) := by decide +kernel
theorem dX4_borne_91 : decode cX4_borne 91 = .ok (.istore 4, 2) := by decide +kernel
theorem dX4_borne_93 : decode cX4_borne 93 = .ok (.iconst 0, 1) := by decide +kernel
theorem dX4_borne_94 : decode cX4_borne 94 = .ok (.istore 5, 2) := by decide +kernel
theorem dX4_borne_96 : decode cX4_borne 96 = .ok (.iload 5, 2) := by decide +kernel
theorem dX4_borne_98 : decode cX4_borne 98 = .ok (.aload_n 0, 1) := by decide +kernel
theorem dX4_borne_99 : decode cX4_borne 99 = .ok (.getfield 13, 3) := by decide +kernel
theorem dX4_borne_102 : decode cX4_borne 102 = .ok (.if_icmp .ge 41, 3) := by decide +kernel
theorem dX4_borne_105 : decode cX4_borne 105 = .ok (.iload 4, 2) := by decide +kernel
theorem dX4_borne_107 : decode cX4_borne 107 = .ok (.iload 5, 2) := by decide +kernel
theorem dX4_borne_109 : decode cX4_borne 109 = .ok (.iload_n 1, 1) := by decide +kernel
theorem dX4_borne_110 : decode cX4_borne 110 = .ok (.if_icmp .eq 23, 3) := by decide +kernel
theorem dX4_borne_113 : decode cX4_borne 113 = .ok (.iload_n 2, 1) := by decide +kernel
theorem dX4_borne_114 : decode cX4_borne 114 = .ok (.iload 5, 2) := by decide +kernel
theorem dX4_borne_116 : decode cX4_borne 116 = .ok (.ishr, 1) := by decide +kernel
theorem dX4_borne_117 : decode cX4_borne 117 = .ok (.iconst 1, 1) := by decide +kernel
theorem dX4_borne_118 : decode cX4_borne 118 = .ok (.iand, 1) := by decide +kernel
theorem dX4_borne_119 : decode cX4_borne 119 = .ok (.iconst 1, 1) := by decide +kernel
theorem dX4_borne_120 : decode cX4_borne 120 = .ok (.if_icmp .ne 13, 3) := by decide +kernel
theorem dX4_borne_123 : decode cX4_borne 123 = .ok (.aload_n 0, 1) := by decide +kernel
theorem dX4_borne_124 : decode cX4_borne 124 = .ok (.getfield 20, 3) := by decide +kernel
theorem dX4_borne_127 : decode cX4_borne 127 = .ok (.iload 5, 2) := by decide +kernel
theorem dX4_borne_129 : decode cX4_borne 129 = .ok (.iaload, 1) := by decide +kernel
theorem dX4_borne_130 : decode cX4_borne 130 = .ok (.goto 4, 3) := by decide +kernel
theorem dX4_borne_133 : decode cX4_borne 133 = .ok (.iconst 0, 1) := by decide +kernel
theorem dX4_borne_134 : decode cX4_borne 134 = .ok (.iadd, 1) := by decide +kernel
theorem dX4_borne_135 : decode cX4_borne 135 = .ok (.istore 4, 2) := by decide +kernel
theorem dX4_borne_137 : decode cX4_borne 137 = .ok (.iinc 5 1, 3) := by decide +kernel
theorem dX4_borne_140 : decode cX4_borne 140 = .ok (.goto (-44), 3) := by decide +kernel
theorem dX4_borne_143 : decode cX4_borne 143 = .ok (.iload 4, 2) := by decide +kernel
theorem dX4_borne_145 : decode cX4_borne 145 = .ok (.ireturn, 1) := by decide +kernel
theorem dX4_isPlan_0 : decode cX4_isPlan 0 = .ok (.iconst 0, 1) := by decide +kernel
theorem dX4_isPlan_1 : decode cX4_isPlan 1 = .ok (.istore_n 1, 1) := by decide +kernel
theorem dX4_isPlan_2 : decode cX4_isPlan 2 = .ok (.iload_n 1, 1) := by decide +kernel
theorem dX4_isPlan_3 : decode cX4_isPlan 3 = .ok (.aload_n 0, 1) := by decide +kernel
theorem dX4_isPlan_4 : decode cX4_isPlan 4 = .ok (.getfield 13, 3) := by decide +kernel
theorem dX4_isPlan_7 : decode cX4_isPlan 7 = .ok (.if_icmp .ge 199, 3) := by decide +kernel
theorem dX4_isPlan_10 : decode cX4_isPlan 10 = .ok (.aload_n 0, 1) := by decide +kernel
theorem dX4_isPlan_11 : decode cX4_isPlan 11 = .ok (.getfield 41, 3) := by decide +kernel
theorem dX4_isPlan_14 : decode cX4_isPlan 14 = .ok (.iload_n 1, 1) := by decide +kernel
theorem dX4_isPlan_15 : decode cX4_isPlan 15 = .ok (.iaload, 1) := by decide +kernel
theorem dX4_isPlan_16 : decode cX4_isPlan 16 = .ok (.ifCond .lt 184, 3) := by decide +kernel
theorem dX4_isPlan_19 : decode cX4_isPlan 19 = .ok (.aload_n 0, 1) := by decide +kernel
theorem dX4_isPlan_20 : decode cX4_isPlan 20 = .ok (.getfield 44, 3) := by decide +kernel
theorem dX4_isPlan_23 : decode cX4_isPlan 23 = .ok (.iload_n 1, 1) := by decide +kernel
theorem dX4_isPlan_24 : decode cX4_isPlan 24 = .ok (.iaload, 1) := by decide +kernel
theorem dX4_isPlan_25 : decode cX4_isPlan 25 = .ok (.aload_n 0, 1) := by decide +kernel
theorem dX4_isPlan_26 : decode cX4_isPlan 26 = .ok (.getfield 53, 3) := by decide +kernel
theorem dX4_isPlan_29 : decode cX4_isPlan 29 = .ok (.iload_n 1, 1) := by decide +kernel
theorem dX4_isPlan_30 : decode cX4_isPlan 30 = .ok (.iaload, 1) := by decide +kernel
theorem dX4_isPlan_31 : decode cX4_isPlan 31 = .ok (.iadd, 1) := by decide +kernel
theorem dX4_isPlan_32 : decode cX4_isPlan 32 = .ok (.aload_n 0, 1) := by decide +kernel
theorem dX4_isPlan_33 : decode cX4_isPlan 33 = .ok (.getfield 118, 3) := by decide +kernel
theorem dX4_isPlan_36 : decode cX4_isPlan 36 = .ok (.if_icmp .gt 43, 3) := by decide +kernel
theorem dX4_isPlan_39 : decode cX4_isPlan 39 = .ok (.aload_n 0, 1) := by decide +kernel
theorem dX4_isPlan_40 : decode cX4_isPlan 40 = .ok (.getfield 47, 3) := by decide +kernel
theorem dX4_isPlan_43 : decode cX4_isPlan 43 = .ok (.iload_n 1, 1) := by decide +kernel
theorem dX4_isPlan_44 : decode cX4_isPlan 44 = .ok (.iaload, 1) := by decide +kernel
theorem dX4_isPlan_45 : decode cX4_isPlan 45 = .ok (.aload_n 0, 1) := by decide +kernel
theorem dX4_isPlan_46 : decode cX4_isPlan 46 = .ok (.getfield 56, 3) := by decide +kernel
theorem dX4_isPlan_49 : decode cX4_isPlan 49 = .ok (.iload_n 1, 1) := by decide +kernel
theorem dX4_isPlan_50 : decode cX4_isPlan 50 = .ok (.iaload, 1) := by decide +kernel
theorem dX4_isPlan_51 : decode cX4_isPlan 51 = .ok (.iadd, 1) := by decide +kernel
theorem dX4_isPlan_52 : decode cX4_isPlan 52 = .ok (.aload_n 0, 1) := by decide +kernel
theorem dX4_isPlan_53 : decode cX4_isPlan 53 = .ok (.getfield 121, 3) := by decide +kernel
theorem dX4_isPlan_56 : decode cX4_isPlan 56 = .ok (.if_icmp .gt 23, 3) := by decide +kernel
theorem dX4_isPlan_59 : decode cX4_isPlan 59 = .ok (.aload_n 0, 1) := by decide +kernel
theorem dX4_isPlan_60 : decode cX4_isPlan 60 = .ok (.getfield 50, 3) := by decide +kernel
theorem dX4_isPlan_63 : decode cX4_isPlan 63 = .ok (.iload_n 1, 1) := by decide +kernel
theorem dX4_isPlan_64 : decode cX4_isPlan 64 = .ok (.iaload, 1) := by decide +kernel
theorem dX4_isPlan_65 : decode cX4_isPlan 65 = .ok (.aload_n 0, 1) := by decide +kernel
theorem dX4_isPlan_66 : decode cX4_isPlan 66 = .ok (.getfield 59, 3) := by decide +kernel
theorem dX4_isPlan_69 : decode cX4_isPlan 69 = .ok (.iload_n 1, 1) := by decide +kernel
theorem dX4_isPlan_70 : decode cX4_isPlan 70 = .ok (.iaload, 1) := by decide +kernel
theorem dX4_isPlan_71 : decode cX4_isPlan 71 = .ok (.iadd, 1) := by decide +kernel
theorem dX4_isPlan_72 : decode cX4_isPlan 72 = .ok (.aload_n 0, 1) := by decide +kernel
theorem dX4_isPlan_73 : decode cX4_isPlan 73 = .ok (.getfield 124, 3) := by decide +kernel
theorem dX4_isPlan_76 : decode cX4_isPlan 76 = .ok (.if_icmp .le 5, 3) := by decide +kernel
theorem dX4_isPlan_79 : decode cX4_isPlan 79 = .ok (.iconst 0, 1) := by decide +kernel
theorem dX4_isPlan_80 : decode cX4_isPlan 80 = .ok (.ireturn, 1) := by decide +kernel
theorem dX4_isPlan_81 : decode cX4_isPlan 81 = .ok (.aload_n 0, 1) := by decide +kernel
theorem dX4_isPlan_82 : decode cX4_isPlan 82 = .ok (.iload_n 1, 1) := by decide +kernel
theorem dX4_isPlan_83 : decode cX4_isPlan 83 = .ok (.invokevirtual 149, 3) := by decide +kernel
theorem dX4_isPlan_86 : decode cX4_isPlan 86 = .ok (.bipush 100, 2) := by decide +kernel
theorem dX4_isPlan_88 : decode cX4_isPlan 88 = .ok (.imul, 1) := by decide +kernel
theorem dX4_isPlan_89 : decode cX4_isPlan 89 = .ok (.aload_n 0, 1) := by decide +kernel
theorem dX4_isPlan_90 : decode cX4_isPlan 90 = .ok (.getfield 35, 3) := by decide +kernel
theorem dX4_isPlan_93 : decode cX4_isPlan 93 = .ok (.aload_n 0, 1) := by decide +kernel
theorem dX4_isPlan_94 : decode cX4_isPlan 94 = .ok (.getfield 53, 3) := by decide +kernel
theorem dX4_isPlan_97 : decode cX4_isPlan 97 = .ok (.iload_n 1, 1) := by decide +kernel
theorem dX4_isPlan_98 : decode cX4_isPlan 98 = .ok (.iaload, 1) := by decide +kernel
theorem dX4_isPlan_99 : decode cX4_isPlan 99 = .ok (.imul, 1) := by decide +kernel
theorem dX4_isPlan_100 : decode cX4_isPlan 100 = .ok (.aload_n 0, 1) := by decide +kernel
theorem dX4_isPlan_101 : decode cX4_isPlan 101 = .ok (.getfield 56, 3) := by decide +kernel
theorem dX4_isPlan_104 : decode cX4_isPlan 104 = .ok (.iload_n 1, 1) := by decide +kernel
theorem dX4_isPlan_105 : decode cX4_isPlan 105 = .ok (.iaload, 1) := by decide +kernel
theorem dX4_isPlan_106 : decode cX4_isPlan 106 = .ok (.imul, 1) := by decide +kernel
theorem dX4_isPlan_107 : decode cX4_isPlan 107 = .ok (.if_icmp .ge 5, 3) := by decide +kernel
theorem dX4_isPlan_110 : decode cX4_isPlan 110 = .ok (.iconst 0, 1) := by decide +kernel
theorem dX4_isPlan_111 : decode cX4_isPlan 111 = .ok (.ireturn, 1) := by decide +kernel
theorem dX4_isPlan_112 : decode cX4_isPlan 112 = .ok (.aload_n 0, 1) := by decide +kernel
theorem dX4_isPlan_113 : decode cX4_isPlan 113 = .ok (.getfield 26, 3) := by decide +kernel
theorem dX4_isPlan_116 : decode cX4_isPlan 116 = .ok (.iload_n 1, 1) := by decide +kernel
theorem dX4_isPlan_117 : decode cX4_isPlan 117 = .ok (.iaload, 1) := by decide +kernel
theorem dX4_isPlan_118 : decode cX4_isPlan 118 = .ok (.ifCond .lt 19, 3) := by decide +kernel
theorem dX4_isPlan_121 : decode cX4_isPlan 121 = .ok (.aload_n 0, 1) := by decide +kernel
theorem dX4_isPlan_122 : decode cX4_isPlan 122 = .ok (.iload_n 1, 1) := by decide +kernel
theorem dX4_isPlan_123 : decode cX4_isPlan 123 = .ok (.invokevirtual 152, 3) := by decide +kernel
theorem dX4_isPlan_126 : decode cX4_isPlan 126 = .ok (.aload_n 0, 1) := by decide +kernel
theorem dX4_isPlan_127 : decode cX4_isPlan 127 = .ok (.getfield 26, 3) := by decide +kernel
theorem dX4_isPlan_130 : decode cX4_isPlan 130 = .ok (.iload_n 1, 1) := by decide +kernel
theorem dX4_isPlan_131 : decode cX4_isPlan 131 = .ok (.iaload, 1) := by decide +kernel
theorem dX4_isPlan_132 : decode cX4_isPlan 132 = .ok (.if_icmp .le 5, 3) := by decide +kernel
theorem dX4_isPlan_135 : decode cX4_isPlan 135 = .ok (.iconst 0, 1) := by decide +kernel
theorem dX4_isPlan_136 : decode cX4_isPlan 136 = .ok (.ireturn, 1) := by decide +kernel
theorem dX4_isPlan_137 : decode cX4_isPlan 137 = .ok (.iconst 0, 1) := by decide +kernel
theorem dX4_isPlan_138 : decode cX4_isPlan 138 = .ok (.istore_n 2, 1) := by decide +kernel
theorem dX4_isPlan_139 : decode cX4_isPlan 139 = .ok (.iload_n 2, 1) := by decide +kernel
theorem dX4_isPlan_140 : decode cX4_isPlan 140 = .ok (.iload_n 1, 1) := by decide +kernel
theorem dX4_isPlan_141 : decode cX4_isPlan 141 = .ok (.if_icmp .ge 59, 3) := by decide +kernel
theorem dX4_isPlan_144 : decode cX4_isPlan 144 = .ok (.aload_n 0, 1) := by decide +kernel
theorem dX4_isPlan_145 : decode cX4_isPlan 145 = .ok (.getfield 41, 3) := by decide +kernel
theorem dX4_isPlan_148 : decode cX4_isPlan 148 = .ok (.iload_n 2, 1) := by decide +kernel
theorem dX4_isPlan_149 : decode cX4_isPlan 149 = .ok (.iaload, 1) := by decide +kernel
theorem dX4_isPlan_150 : decode cX4_isPlan 150 = .ok (.ifCond .lt 44, 3) := by decide +kernel
theorem dX4_isPlan_153 : decode cX4_isPlan 153 = .ok (.aload_n 0, 1) := by decide +kernel
theorem dX4_isPlan_154 : decode cX4_isPlan 154 = .ok (.iload_n 1, 1) := by decide +kernel
theorem dX4_isPlan_155 : decode cX4_isPlan 155 = .ok (.iload_n 2, 1) := by decide +kernel
theorem dX4_isPlan_156 : decode cX4_isPlan 156 = .ok (.invokevirtual 143, 3) := by decide +kernel
theorem dX4_isPlan_159 : decode cX4_isPlan 159 = .ok (.ifCond .le 35, 3) := by decide +kernel
theorem dX4_isPlan_162 : decode cX4_isPlan 162 = .ok (.aload_n 0, 1) := by decide +kernel
theorem dX4_isPlan_163 : decode cX4_isPlan 163 = .ok (.getfield 50, 3) := by decide +kernel
theorem dX4_isPlan_166 : decode cX4_isPlan 166 = .ok (.iload_n 1, 1) := by decide +kernel
theorem dX4_isPlan_167 : decode cX4_isPlan 167 = .ok (.iaload, 1) := by decide +kernel
theorem dX4_isPlan_168 : decode cX4_isPlan 168 = .ok (.aload_n 0, 1) := by decide +kernel
theorem dX4_isPlan_169 : decode cX4_isPlan 169 = .ok (.getfield 59, 3) := by decide +kernel
theorem dX4_isPlan_172 : decode cX4_isPlan 172 = .ok (.iload_n 1, 1) := by decide +kernel
theorem dX4_isPlan_173 : decode cX4_isPlan 173 = .ok (.iaload, 1) := by decide +kernel
theorem dX4_isPlan_174 : decode cX4_isPlan 174 = .ok (.aload_n 0, 1) := by decide +kernel
theorem dX4_isPlan_175 : decode cX4_isPlan 175 = .ok (.getfield 50, 3) := by decide +kernel
theorem dX4_isPlan_178 : decode cX4_isPlan 178 = .ok (.iload_n 2, 1) := by decide +kernel
theorem dX4_isPlan_179 : decode cX4_isPlan 179 = .ok (.iaload, 1) := by decide +kernel
theorem dX4_isPlan_180 : decode cX4_isPlan 180 = .ok (.aload_n 0, 1) := by decide +kernel
theorem dX4_isPlan_181 : decode cX4_isPlan 181 = .ok (.getfield 59, 3) := by decide +kernel
theorem dX4_isPlan_184 : decode cX4_isPlan 184 = .ok (.iload_n 2, 1) := by decide +kernel
theorem dX4_isPlan_185 : decode cX4_isPlan 185 = .ok (.iaload, 1) := by decide +kernel
theorem dX4_isPlan_186 : decode cX4_isPlan 186 = .ok (.invokestatic 139, 3) := by decide +kernel
theorem dX4_isPlan_189 : decode cX4_isPlan 189 = .ok (.ifCond .le 5, 3) := by decide +kernel
theorem dX4_isPlan_192 : decode cX4_isPlan 192 = .ok (.iconst 0, 1) := by decide +kernel
theorem dX4_isPlan_193 : decode cX4_isPlan 193 = .ok (.ireturn, 1) := by decide +kernel
theorem dX4_isPlan_194 : decode cX4_isPlan 194 = .ok (.iinc 2 1, 3) := by decide +kernel
theorem dX4_isPlan_197 : decode cX4_isPlan 197 = .ok (.goto (-58), 3) := by decide +kernel
theorem dX4_isPlan_200 : decode cX4_isPlan 200 = .ok (.iinc 1 1, 3) := by decide +kernel
theorem dX4_isPlan_203 : decode cX4_isPlan 203 = .ok (.goto (-201), 3) := by decide +kernel
theorem dX4_isPlan_206 : decode cX4_isPlan 206 = .ok (.iconst 1, 1) := by decide +kernel
theorem dX4_isPlan_207 : decode cX4_isPlan 207 = .ok (.ireturn, 1) := by decide +kernel
theorem dX4_volume_0 : decode cX4_volume 0 = .ok (.aload_n 0, 1) := by decide +kernel
theorem dX4_volume_1 : decode cX4_volume 1 = .ok (.getfield 16, 3) := by decide +kernel
theorem dX4_volume_4 : decode cX4_volume 4 = .ok (.iconst 3, 1) := by decide +kernel
theorem dX4_volume_5 : decode cX4_volume 5 = .ok (.iload_n 1, 1) := by decide +kernel
theorem dX4_volume_6 : decode cX4_volume 6 = .ok (.imul, 1) := by decide +kernel
theorem dX4_volume_7 : decode cX4_volume 7 = .ok (.iaload, 1) := by decide +kernel
theorem dX4_volume_8 : decode cX4_volume 8 = .ok (.aload_n 0, 1) := by decide +kernel
theorem dX4_volume_9 : decode cX4_volume 9 = .ok (.getfield 16, 3) := by decide +kernel
theorem dX4_volume_12 : decode cX4_volume 12 = .ok (.iconst 3, 1) := by decide +kernel
theorem dX4_volume_13 : decode cX4_volume 13 = .ok (.iload_n 1, 1) := by decide +kernel
theorem dX4_volume_14 : decode cX4_volume 14 = .ok (.imul, 1) := by decide +kernel
theorem dX4_volume_15 : decode cX4_volume 15 = .ok (.iconst 1, 1) := by decide +kernel
theorem dX4_volume_16 : decode cX4_volume 16 = .ok (.iadd, 1) := by decide +kernel
theorem dX4_volume_17 : decode cX4_volume 17 = .ok (.iaload, 1) := by decide +kernel
theorem dX4_volume_18 : decode cX4_volume 18 = .ok (.imul, 1) := by decide +kernel
theorem dX4_volume_19 : decode cX4_volume 19 = .ok (.aload_n 0, 1) := by decide +kernel
theorem dX4_volume_20 : decode cX4_volume 20 = .ok (.getfield 16, 3) := by decide +kernel
theorem dX4_volume_23 : decode cX4_volume 23 = .ok (.iconst 3, 1) := by decide +kernel
theorem dX4_volume_24 : decode cX4_volume 24 = .ok (.iload_n 1, 1) := by decide +kernel
theorem dX4_volume_25 : decode cX4_volume 25 = .ok (.imul, 1) := by decide +kernel
theorem dX4_volume_26 : decode cX4_volume 26 = .ok (.iconst 2, 1) := by decide +kernel
theorem dX4_volume_27 : decode cX4_volume 27 = .ok (.iadd, 1) := by decide +kernel
theorem dX4_volume_28 : decode cX4_volume 28 = .ok (.iaload, 1) := by decide +kernel
theorem dX4_volume_29 : decode cX4_volume 29 = .ok (.imul, 1) := by decide +kernel
theorem dX4_volume_30 : decode cX4_volume 30 = .ok (.ireturn, 1) := by decide +kernel
theorem dX4_volumeNow_0 : decode cX4_volumeNow 0 = .ok (.iconst 0, 1) := by decide +kernel
theorem dX4_volumeNow_1 : decode cX4_volumeNow 1 = .ok (.istore_n 1, 1) := by decide +kernel
theorem dX4_volumeNow_2 : decode cX4_volumeNow 2 = .ok (.iconst 0, 1) := by decide +kernel
theorem dX4_volumeNow_3 : decode cX4_volumeNow 3 = .ok (.istore_n 2, 1) := by decide +kernel
theorem dX4_volumeNow_4 : decode cX4_volumeNow 4 = .ok (.iload_n 2, 1) := by decide +kernel
theorem dX4_volumeNow_5 : decode cX4_volumeNow 5 = .ok (.aload_n 0, 1) := by decide +kernel
theorem dX4_volumeNow_6 : decode cX4_volumeNow 6 = .ok (.getfield 13, 3) := by decide +kernel
theorem dX4_volumeNow_9 : decode cX4_volumeNow 9 = .ok (.if_icmp .ge 30, 3) := by decide +kernel
theorem dX4_volumeNow_12 : decode cX4_volumeNow 12 = .ok (.iload_n 1, 1) := by decide +kernel
theorem dX4_volumeNow_13 : decode cX4_volumeNow 13 = .ok (.aload_n 0, 1) := by decide +kernel
theorem dX4_volumeNow_14 : decode cX4_volumeNow 14 = .ok (.getfield 41, 3) := by decide +kernel
theorem dX4_volumeNow_17 : decode cX4_volumeNow 17 = .ok (.iload_n 2, 1) := by decide +kernel
theorem dX4_volumeNow_18 : decode cX4_volumeNow 18 = .ok (.iaload, 1) := by decide +kernel
theorem dX4_volumeNow_19 : decode cX4_volumeNow 19 = .ok (.ifCond .lt 11, 3) := by decide +kernel
theorem dX4_volumeNow_22 : decode cX4_volumeNow 22 = .ok (.aload_n 0, 1) := by decide +kernel
theorem dX4_volumeNow_23 : decode cX4_volumeNow 23 = .ok (.iload_n 2, 1) := by decide +kernel
theorem dX4_volumeNow_24 : decode cX4_volumeNow 24 = .ok (.invokevirtual 155, 3) := by decide +kernel
theorem dX4_volumeNow_27 : decode cX4_volumeNow 27 = .ok (.goto 4, 3) := by decide +kernel
theorem dX4_volumeNow_30 : decode cX4_volumeNow 30 = .ok (.iconst 0, 1) := by decide +kernel
theorem dX4_volumeNow_31 : decode cX4_volumeNow 31 = .ok (.iadd, 1) := by decide +kernel
theorem dX4_volumeNow_32 : decode cX4_volumeNow 32 = .ok (.istore_n 1, 1) := by decide +kernel
theorem dX4_volumeNow_33 : decode cX4_volumeNow 33 = .ok (.iinc 2 1, 3) := by decide +kernel
theorem dX4_volumeNow_36 : decode cX4_volumeNow 36 = .ok (.goto (-32), 3) := by decide +kernel
theorem dX4_volumeNow_39 : decode cX4_volumeNow 39 = .ok (.iload_n 1, 1) := by decide +kernel
theorem dX4_volumeNow_40 : decode cX4_volumeNow 40 = .ok (.ireturn, 1) := by decide +kernel
theorem dX4_findOrder_0 : decode cX4_findOrder 0 = .ok (.aload_n 0, 1) := by decide +kernel
theorem dX4_findOrder_1 : decode cX4_findOrder 1 = .ok (.iconst 0, 1) := by decide +kernel
theorem dX4_findOrder_2 : decode cX4_findOrder 2 = .ok (.putfield 87, 3) := by decide +kernel
theorem dX4_findOrder_5 : decode cX4_findOrder 5 = .ok (.iconst 0, 1) := by decide +kernel
theorem dX4_findOrder_6 : decode cX4_findOrder 6 = .ok (.istore_n 1, 1) := by decide +kernel
theorem dX4_findOrder_7 : decode cX4_findOrder 7 = .ok (.iload_n 1, 1) := by decide +kernel
theorem dX4_findOrder_8 : decode cX4_findOrder 8 = .ok (.aload_n 0, 1) := by decide +kernel
theorem dX4_findOrder_9 : decode cX4_findOrder 9 = .ok (.getfield 13, 3) := by decide +kernel
theorem dX4_findOrder_12 : decode cX4_findOrder 12 = .ok (.if_icmp .ge 86, 3) := by decide +kernel
theorem dX4_findOrder_15 : decode cX4_findOrder 15 = .ok (.aload_n 0, 1) := by decide +kernel
theorem dX4_findOrder_16 : decode cX4_findOrder 16 = .ok (.getfield 32, 3) := by decide +kernel
theorem dX4_findOrder_19 : decode cX4_findOrder 19 = .ok (.iload_n 1, 1) := by decide +kernel
theorem dX4_findOrder_20 : decode cX4_findOrder 20 = .ok (.iaload, 1) := by decide +kernel
theorem dX4_findOrder_21 : decode cX4_findOrder 21 = .ok (.ifCond .ge 71, 3) := by decide +kernel
theorem dX4_findOrder_24 : decode cX4_findOrder 24 = .ok (.aload_n 0, 1) := by decide +kernel
theorem dX4_findOrder_25 : decode cX4_findOrder 25 = .ok (.getfield 87, 3) := by decide +kernel
theorem dX4_findOrder_28 : decode cX4_findOrder 28 = .ok (.istore_n 2, 1) := by decide +kernel
theorem dX4_findOrder_29 : decode cX4_findOrder 29 = .ok (.iload_n 2, 1) := by decide +kernel
theorem dX4_findOrder_30 : decode cX4_findOrder 30 = .ok (.ifCond .le 45, 3) := by decide +kernel
theorem dX4_findOrder_33 : decode cX4_findOrder 33 = .ok (.aload_n 0, 1) := by decide +kernel
theorem dX4_findOrder_34 : decode cX4_findOrder 34 = .ok (.getfield 29, 3) := by decide +kernel
theorem dX4_findOrder_37 : decode cX4_findOrder 37 = .ok (.aload_n 0, 1) := by decide +kernel
theorem dX4_findOrder_38 : decode cX4_findOrder 38 = .ok (.getfield 90, 3) := by decide +kernel
theorem dX4_findOrder_41 : decode cX4_findOrder 41 = .ok (.iload_n 2, 1) := by decide +kernel
theorem dX4_findOrder_42 : decode cX4_findOrder 42 = .ok (.iconst 1, 1) := by decide +kernel
theorem dX4_findOrder_43 : decode cX4_findOrder 43 = .ok (.isub, 1) := by decide +kernel
theorem dX4_findOrder_44 : decode cX4_findOrder 44 = .ok (.iaload, 1) := by decide +kernel
theorem dX4_findOrder_45 : decode cX4_findOrder 45 = .ok (.iaload, 1) := by decide +kernel
theorem dX4_findOrder_46 : decode cX4_findOrder 46 = .ok (.aload_n 0, 1) := by decide +kernel
theorem dX4_findOrder_47 : decode cX4_findOrder 47 = .ok (.getfield 29, 3) := by decide +kernel
theorem dX4_findOrder_50 : decode cX4_findOrder 50 = .ok (.iload_n 1, 1) := by decide +kernel
theorem dX4_findOrder_51 : decode cX4_findOrder 51 = .ok (.iaload, 1) := by decide +kernel
theorem dX4_findOrder_52 : decode cX4_findOrder 52 = .ok (.if_icmp .le 23, 3) := by decide +kernel
theorem dX4_findOrder_55 : decode cX4_findOrder 55 = .ok (.aload_n 0, 1) := by decide +kernel
theorem dX4_findOrder_56 : decode cX4_findOrder 56 = .ok (.getfield 90, 3) := by decide +kernel
theorem dX4_findOrder_59 : decode cX4_findOrder 59 = .ok (.iload_n 2, 1) := by decide +kernel
theorem dX4_findOrder_60 : decode cX4_findOrder 60 = .ok (.aload_n 0, 1) := by decide +kernel
theorem dX4_findOrder_61 : decode cX4_findOrder 61 = .ok (.getfield 90, 3) := by decide +kernel
theorem dX4_findOrder_64 : decode cX4_findOrder 64 = .ok (.iload_n 2, 1) := by decide +kernel
theorem dX4_findOrder_65 : decode cX4_findOrder 65 = .ok (.iconst 1, 1) := by decide +kernel
theorem dX4_findOrder_66 : decode cX4_findOrder 66 = .ok (.isub, 1) := by decide +kernel
theorem dX4_findOrder_67 : decode cX4_findOrder 67 = .ok (.iaload, 1) := by decide +kernel
theorem dX4_findOrder_68 : decode cX4_findOrder 68 = .ok (.iastore, 1) := by decide +kernel
theorem dX4_findOrder_69 : decode cX4_findOrder 69 = .ok (.iinc 2 (-1), 3) := by decide +kernel
theorem dX4_findOrder_72 : decode cX4_findOrder 72 = .ok (.goto (-43), 3) := by decide +kernel
theorem dX4_findOrder_75 : decode cX4_findOrder 75 = .ok (.aload_n 0, 1) := by decide +kernel
theorem dX4_findOrder_76 : decode cX4_findOrder 76 = .ok (.getfield 90, 3) := by decide +kernel
theorem dX4_findOrder_79 : decode cX4_findOrder 79 = .ok (.iload_n 2, 1) := by decide +kernel
theorem dX4_findOrder_80 : decode cX4_findOrder 80 = .ok (.iload_n 1, 1) := by decide +kernel
theorem dX4_findOrder_81 : decode cX4_findOrder 81 = .ok (.iastore, 1) := by decide +kernel
theorem dX4_findOrder_82 : decode cX4_findOrder 82 = .ok (.aload_n 0, 1) := by decide +kernel
theorem dX4_findOrder_83 : decode cX4_findOrder 83 = .ok (.dup, 1) := by decide +kernel
theorem dX4_findOrder_84 : decode cX4_findOrder 84 = .ok (.getfield 87, 3) := by decide +kernel
theorem dX4_findOrder_87 : decode cX4_findOrder 87 = .ok (.iconst 1, 1) := by decide +kernel
theorem dX4_findOrder_88 : decode cX4_findOrder 88 = .ok (.iadd, 1) := by decide +kernel
theorem dX4_findOrder_89 : decode cX4_findOrder 89 = .ok (.putfield 87, 3) := by decide +kernel
theorem dX4_findOrder_92 : decode cX4_findOrder 92 = .ok (.iinc 1 1, 3) := by decide +kernel
theorem dX4_findOrder_95 : decode cX4_findOrder 95 = .ok (.goto (-88), 3) := by decide +kernel
theorem dX4_findOrder_98 : decode cX4_findOrder 98 = .ok (.return_, 1) := by decide +kernel
theorem dX4_end_0 : decode cX4_end 0 = .ok (.bipush 56, 2) := by decide +kernel
theorem dX4_end_2 : decode cX4_end 2 = .ok (.iload_n 2, 1) := by decide +kernel
theorem dX4_end_3 : decode cX4_end 3 = .ok (.imul, 1) := by decide +kernel
theorem dX4_end_4 : decode cX4_end 4 = .ok (.bipush 8, 2) := by decide +kernel
theorem dX4_end_6 : decode cX4_end 6 = .ok (.iload_n 1, 1) := by decide +kernel
theorem dX4_end_7 : decode cX4_end 7 = .ok (.imul, 1) := by decide +kernel
theorem dX4_end_8 : decode cX4_end 8 = .ok (.iadd, 1) := by decide +kernel
theorem dX4_end_9 : decode cX4_end 9 = .ok (.istore 4, 2) := by decide +kernel
theorem dX4_end_11 : decode cX4_end 11 = .ok (.aload_n 0, 1) := by decide +kernel
theorem dX4_end_12 : decode cX4_end 12 = .ok (.getfield 108, 3) := by decide +kernel
theorem dX4_end_15 : decode cX4_end 15 = .ok (.bipush 7, 2) := by decide +kernel
theorem dX4_end_17 : decode cX4_end 17 = .ok (.iload_n 2, 1) := by decide +kernel
theorem dX4_end_18 : decode cX4_end 18 = .ok (.imul, 1) := by decide +kernel
theorem dX4_end_19 : decode cX4_end 19 = .ok (.iload_n 1, 1) := by decide +kernel
theorem dX4_end_20 : decode cX4_end 20 = .ok (.iadd, 1) := by decide +kernel
theorem dX4_end_21 : decode cX4_end 21 = .ok (.iaload, 1) := by decide +kernel
theorem dX4_end_22 : decode cX4_end 22 = .ok (.istore 5, 2) := by decide +kernel
theorem dX4_end_24 : decode cX4_end 24 = .ok (.iconst 0, 1) := by decide +kernel
theorem dX4_end_25 : decode cX4_end 25 = .ok (.istore 6, 2) := by decide +kernel
theorem dX4_end_27 : decode cX4_end 27 = .ok (.iload 6, 2) := by decide +kernel
theorem dX4_end_29 : decode cX4_end 29 = .ok (.iload 5, 2) := by decide +kernel
theorem dX4_end_31 : decode cX4_end 31 = .ok (.if_icmp .ge 24, 3) := by decide +kernel
theorem dX4_end_34 : decode cX4_end 34 = .ok (.aload_n 0, 1) := by decide +kernel
theorem dX4_end_35 : decode cX4_end 35 = .ok (.getfield 105, 3) := by decide +kernel
theorem dX4_end_38 : decode cX4_end 38 = .ok (.iload 4, 2) := by decide +kernel
theorem dX4_end_40 : decode cX4_end 40 = .ok (.iload 6, 2) := by decide +kernel
theorem dX4_end_42 : decode cX4_end 42 = .ok (.iadd, 1) := by decide +kernel
theorem dX4_end_43 : decode cX4_end 43 = .ok (.iaload, 1) := by decide +kernel
theorem dX4_end_44 : decode cX4_end 44 = .ok (.iload_n 3, 1) := by decide +kernel
theorem dX4_end_45 : decode cX4_end 45 = .ok (.if_icmp .ne 4, 3) := by decide +kernel
theorem dX4_end_48 : decode cX4_end 48 = .ok (.return_, 1) := by decide +kernel
theorem dX4_end_49 : decode cX4_end 49 = .ok (.iinc 6 1, 3) := by decide +kernel
theorem dX4_end_52 : decode cX4_end 52 = .ok (.goto (-25), 3) := by decide +kernel
theorem dX4_end_55 : decode cX4_end 55 = .ok (.iload 5, 2) := by decide +kernel
theorem dX4_end_57 : decode cX4_end 57 = .ok (.istore 6, 2) := by decide +kernel
theorem dX4_end_59 : decode cX4_end 59 = .ok (.iload 6, 2) := by decide +kernel
theorem dX4_end_61 : decode cX4_end 61 = .ok (.ifCond .le 47, 3) := by decide +kernel
theorem dX4_end_64 : decode cX4_end 64 = .ok (.aload_n 0, 1) := by decide +kernel
theorem dX4_end_65 : decode cX4_end 65 = .ok (.getfield 105, 3) := by decide +kernel
theorem dX4_end_68 : decode cX4_end 68 = .ok (.iload 4, 2) := by decide +kernel
theorem dX4_end_70 : decode cX4_end 70 = .ok (.iload 6, 2) := by decide +kernel
theorem dX4_end_72 : decode cX4_end 72 = .ok (.iadd, 1) := by decide +kernel
theorem dX4_end_73 : decode cX4_end 73 = .ok (.iconst 1, 1) := by decide +kernel
theorem dX4_end_74 : decode cX4_end 74 = .ok (.isub, 1) := by decide +kernel
theorem dX4_end_75 : decode cX4_end 75 = .ok (.iaload, 1) := by decide +kernel
theorem dX4_end_76 : decode cX4_end 76 = .ok (.iload_n 3, 1) := by decide +kernel
theorem dX4_end_77 : decode cX4_end 77 = .ok (.if_icmp .le 31, 3) := by decide +kernel
theorem dX4_end_80 : decode cX4_end 80 = .ok (.aload_n 0, 1) := by decide +kernel
theorem dX4_end_81 : decode cX4_end 81 = .ok (.getfield 105, 3) := by decide +kernel
theorem dX4_end_84 : decode cX4_end 84 = .ok (.iload 4, 2) := by decide +kernel
theorem dX4_end_86 : decode cX4_end 86 = .ok (.iload 6, 2) := by decide +kernel
theorem dX4_end_88 : decode cX4_end 88 = .ok (.iadd, 1) := by decide +kernel
theorem dX4_end_89 : decode cX4_end 89 = .ok (.aload_n 0, 1) := by decide +kernel
theorem dX4_end_90 : decode cX4_end 90 = .ok (.getfield 105, 3) := by decide +kernel
theorem dX4_end_93 : decode cX4_end 93 = .ok (.iload 4, 2) := by decide +kernel
theorem dX4_end_95 : decode cX4_end 95 = .ok (.iload 6, 2) := by decide +kernel
theorem dX4_end_97 : decode cX4_end 97 = .ok (.iadd, 1) := by decide +kernel
theorem dX4_end_98 : decode cX4_end 98 = .ok (.iconst 1, 1) := by decide +kernel
theorem dX4_end_99 : decode cX4_end 99 = .ok (.isub, 1) := by decide +kernel
theorem dX4_end_100 : decode cX4_end 100 = .ok (.iaload, 1) := by decide +kernel
theorem dX4_end_101 : decode cX4_end 101 = .ok (.iastore, 1) := by decide +kernel
theorem dX4_end_102 : decode cX4_end 102 = .ok (.iinc 6 (-1), 3) := by decide +kernel
theorem dX4_end_105 : decode cX4_end 105 = .ok (.goto (-46), 3) := by decide +kernel
theorem dX4_end_108 : decode cX4_end 108 = .ok (.aload_n 0, 1) := by decide +kernel
theorem dX4_end_109 : decode cX4_end 109 = .ok (.getfield 105, 3) := by decide +kernel
theorem dX4_end_112 : decode cX4_end 112 = .ok (.iload 4, 2) := by decide +kernel
theorem dX4_end_114 : decode cX4_end 114 = .ok (.iload 6, 2) := by decide +kernel
theorem dX4_end_116 : decode cX4_end 116 = .ok (.iadd, 1) := by decide +kernel
theorem dX4_end_117 : decode cX4_end 117 = .ok (.iload_n 3, 1) := by decide +kernel
theorem dX4_end_118 : decode cX4_end 118 = .ok (.iastore, 1) := by decide +kernel
theorem dX4_end_119 : decode cX4_end 119 = .ok (.aload_n 0, 1) := by decide +kernel
theorem dX4_end_120 : decode cX4_end 120 = .ok (.getfield 108, 3) := by decide +kernel
theorem dX4_end_123 : decode cX4_end 123 = .ok (.bipush 7, 2) := by decide +kernel
theorem dX4_end_125 : decode cX4_end 125 = .ok (.iload_n 2, 1) := by decide +kernel
theorem dX4_end_126 : decode cX4_end 126 = .ok (.imul, 1) := by decide +kernel
theorem dX4_end_127 : decode cX4_end 127 = .ok (.iload_n 1, 1) := by decide +kernel
theorem dX4_end_128 : decode cX4_end 128 = .ok (.iadd, 1) := by decide +kernel
theorem dX4_end_129 : decode cX4_end 129 = .ok (.iload 5, 2) := by decide +kernel
theorem dX4_end_131 : decode cX4_end 131 = .ok (.iconst 1, 1) := by decide +kernel
theorem dX4_end_132 : decode cX4_end 132 = .ok (.iadd, 1) := by decide +kernel
theorem dX4_end_133 : decode cX4_end 133 = .ok (.iastore, 1) := by decide +kernel
theorem dX4_end_134 : decode cX4_end 134 = .ok (.return_, 1) := by decide +kernel
theorem dX4_enter_0 : decode cX4_enter 0 = .ok (.iconst 0, 1) := by decide +kernel
theorem dX4_enter_1 : decode cX4_enter 1 = .ok (.istore_n 2, 1) := by decide +kernel
theorem dX4_enter_2 : decode cX4_enter 2 = .ok (.iload_n 2, 1) := by decide +kernel
theorem dX4_enter_3 : decode cX4_enter 3 = .ok (.iconst 3, 1) := by decide +kernel
theorem dX4_enter_4 : decode cX4_enter 4 = .ok (.if_icmp .ge 28, 3) := by decide +kernel
theorem dX4_enter_7 : decode cX4_enter 7 = .ok (.aload_n 0, 1) := by decide +kernel
theorem dX4_enter_8 : decode cX4_enter 8 = .ok (.getfield 108, 3) := by decide +kernel
theorem dX4_enter_11 : decode cX4_enter 11 = .ok (.bipush 7, 2) := by decide +kernel
theorem dX4_enter_13 : decode cX4_enter 13 = .ok (.iload_n 2, 1) := by decide +kernel
theorem dX4_enter_14 : decode cX4_enter 14 = .ok (.imul, 1) := by decide +kernel
theorem dX4_enter_15 : decode cX4_enter 15 = .ok (.iload_n 1, 1) := by decide +kernel
theorem dX4_enter_16 : decode cX4_enter 16 = .ok (.iadd, 1) := by decide +kernel
theorem dX4_enter_17 : decode cX4_enter 17 = .ok (.iconst 0, 1) := by decide +kernel
theorem dX4_enter_18 : decode cX4_enter 18 = .ok (.iastore, 1) := by decide +kernel
theorem dX4_enter_19 : decode cX4_enter 19 = .ok (.aload_n 0, 1) := by decide +kernel
theorem dX4_enter_20 : decode cX4_enter 20 = .ok (.iload_n 1, 1) := by decide +kernel
theorem dX4_enter_21 : decode cX4_enter 21 = .ok (.iload_n 2, 1) := by decide +kernel
theorem dX4_enter_22 : decode cX4_enter 22 = .ok (.iconst 0, 1) := by decide +kernel
theorem dX4_enter_23 : decode cX4_enter 23 = .ok (.invokevirtual 158, 3) := by decide +kernel
theorem dX4_enter_26 : decode cX4_enter 26 = .ok (.iinc 2 1, 3) := by decide +kernel
theorem dX4_enter_29 : decode cX4_enter 29 = .ok (.goto (-27), 3) := by decide +kernel
theorem dX4_enter_32 : decode cX4_enter 32 = .ok (.iconst 0, 1) := by decide +kernel
theorem dX4_enter_33 : decode cX4_enter 33 = .ok (.istore_n 2, 1) := by decide +kernel
theorem dX4_enter_34 : decode cX4_enter 34 = .ok (.iload_n 2, 1) := by decide +kernel
theorem dX4_enter_35 : decode cX4_enter 35 = .ok (.aload_n 0, 1) := by decide +kernel
theorem dX4_enter_36 : decode cX4_enter 36 = .ok (.getfield 13, 3) := by decide +kernel
theorem dX4_enter_39 : decode cX4_enter 39 = .ok (.if_icmp .ge 75, 3) := by decide +kernel
theorem dX4_enter_42 : decode cX4_enter 42 = .ok (.aload_n 0, 1) := by decide +kernel
theorem dX4_enter_43 : decode cX4_enter 43 = .ok (.getfield 41, 3) := by decide +kernel
theorem dX4_enter_46 : decode cX4_enter 46 = .ok (.iload_n 2, 1) := by decide +kernel
theorem dX4_enter_47 : decode cX4_enter 47 = .ok (.iaload, 1) := by decide +kernel
theorem dX4_enter_48 : decode cX4_enter 48 = .ok (.ifCond .lt 60, 3) := by decide +kernel
theorem dX4_enter_51 : decode cX4_enter 51 = .ok (.aload_n 0, 1) := by decide +kernel
theorem dX4_enter_52 : decode cX4_enter 52 = .ok (.iload_n 1, 1) := by decide +kernel
theorem dX4_enter_53 : decode cX4_enter 53 = .ok (.iconst 0, 1) := by decide +kernel
theorem dX4_enter_54 : decode cX4_enter 54 = .ok (.aload_n 0, 1) := by decide +kernel
theorem dX4_enter_55 : decode cX4_enter 55 = .ok (.getfield 44, 3) := by decide +kernel
theorem dX4_enter_58 : decode cX4_enter 58 = .ok (.iload_n 2, 1) := by decide +kernel
theorem dX4_enter_59 : decode cX4_enter 59 = .ok (.iaload, 1) := by decide +kernel
theorem dX4_enter_60 : decode cX4_enter 60 = .ok (.aload_n 0, 1) := by decide +kernel
theorem dX4_enter_61 : decode cX4_enter 61 = .ok (.getfield 53, 3) := by decide +kernel
theorem dX4_enter_64 : decode cX4_enter 64 = .ok (.iload_n 2, 1) := by decide +kernel
theorem dX4_enter_65 : decode cX4_enter 65 = .ok (.iaload, 1) := by decide +kernel
theorem dX4_enter_66 : decode cX4_enter 66 = .ok (.iadd, 1) := by decide +kernel
theorem dX4_enter_67 : decode cX4_enter 67 = .ok (.invokevirtual 158, 3) := by decide +kernel
theorem dX4_enter_70 : decode cX4_enter 70 = .ok (.aload_n 0, 1) := by decide +kernel
theorem dX4_enter_71 : decode cX4_enter 71 = .ok (.iload_n 1, 1) := by decide +kernel
theorem dX4_enter_72 : decode cX4_enter 72 = .ok (.iconst 1, 1) := by decide +kernel
theorem dX4_enter_73 : decode cX4_enter 73 = .ok (.aload_n 0, 1) := by decide +kernel
theorem dX4_enter_74 : decode cX4_enter 74 = .ok (.getfield 47, 3) := by decide +kernel
theorem dX4_enter_77 : decode cX4_enter 77 = .ok (.iload_n 2, 1) := by decide +kernel
theorem dX4_enter_78 : decode cX4_enter 78 = .ok (.iaload, 1) := by decide +kernel
theorem dX4_enter_79 : decode cX4_enter 79 = .ok (.aload_n 0, 1) := by decide +kernel
theorem dX4_enter_80 : decode cX4_enter 80 = .ok (.getfield 56, 3) := by decide +kernel
theorem dX4_enter_83 : decode cX4_enter 83 = .ok (.iload_n 2, 1) := by decide +kernel
theorem dX4_enter_84 : decode cX4_enter 84 = .ok (.iaload, 1) := by decide +kernel
theorem dX4_enter_85 : decode cX4_enter 85 = .ok (.iadd, 1) := by decide +kernel
theorem dX4_enter_86 : decode cX4_enter 86 = .ok (.invokevirtual 158, 3) := by decide +kernel
theorem dX4_enter_89 : decode cX4_enter 89 = .ok (.aload_n 0, 1) := by decide +kernel
theorem dX4_enter_90 : decode cX4_enter 90 = .ok (.iload_n 1, 1) := by decide +kernel
theorem dX4_enter_91 : decode cX4_enter 91 = .ok (.iconst 2, 1) := by decide +kernel
theorem dX4_enter_92 : decode cX4_enter 92 = .ok (.aload_n 0, 1) := by decide +kernel
theorem dX4_enter_93 : decode cX4_enter 93 = .ok (.getfield 50, 3) := by decide +kernel
theorem dX4_enter_96 : decode cX4_enter 96 = .ok (.iload_n 2, 1) := by decide +kernel
theorem dX4_enter_97 : decode cX4_enter 97 = .ok (.iaload, 1) := by decide +kernel
theorem dX4_enter_98 : decode cX4_enter 98 = .ok (.aload_n 0, 1) := by decide +kernel
theorem dX4_enter_99 : decode cX4_enter 99 = .ok (.getfield 59, 3) := by decide +kernel
theorem dX4_enter_102 : decode cX4_enter 102 = .ok (.iload_n 2, 1) := by decide +kernel
theorem dX4_enter_103 : decode cX4_enter 103 = .ok (.iaload, 1) := by decide +kernel
theorem dX4_enter_104 : decode cX4_enter 104 = .ok (.iadd, 1) := by decide +kernel
theorem dX4_enter_105 : decode cX4_enter 105 = .ok (.invokevirtual 158, 3) := by decide +kernel
theorem dX4_enter_108 : decode cX4_enter 108 = .ok (.iinc 2 1, 3) := by decide +kernel
theorem dX4_enter_111 : decode cX4_enter 111 = .ok (.goto (-77), 3) := by decide +kernel
theorem dX4_enter_114 : decode cX4_enter 114 = .ok (.aload_n 0, 1) := by decide +kernel
theorem dX4_enter_115 : decode cX4_enter 115 = .ok (.getfield 93, 3) := by decide +kernel
theorem dX4_enter_118 : decode cX4_enter 118 = .ok (.iload_n 1, 1) := by decide +kernel
theorem dX4_enter_119 : decode cX4_enter 119 = .ok (.iconst 0, 1) := by decide +kernel
theorem dX4_enter_120 : decode cX4_enter 120 = .ok (.iastore, 1) := by decide +kernel
theorem dX4_enter_121 : decode cX4_enter 121 = .ok (.aload_n 0, 1) := by decide +kernel
theorem dX4_enter_122 : decode cX4_enter 122 = .ok (.getfield 96, 3) := by decide +kernel
theorem dX4_enter_125 : decode cX4_enter 125 = .ok (.iload_n 1, 1) := by decide +kernel
theorem dX4_enter_126 : decode cX4_enter 126 = .ok (.iconst (-1), 1) := by decide +kernel
theorem dX4_enter_127 : decode cX4_enter 127 = .ok (.iastore, 1) := by decide +kernel
theorem dX4_enter_128 : decode cX4_enter 128 = .ok (.aload_n 0, 1) := by decide +kernel
theorem dX4_enter_129 : decode cX4_enter 129 = .ok (.getfield 99, 3) := by decide +kernel
theorem dX4_enter_132 : decode cX4_enter 132 = .ok (.iload_n 1, 1) := by decide +kernel
theorem dX4_enter_133 : decode cX4_enter 133 = .ok (.iconst 0, 1) := by decide +kernel
theorem dX4_enter_134 : decode cX4_enter 134 = .ok (.iastore, 1) := by decide +kernel
theorem dX4_enter_135 : decode cX4_enter 135 = .ok (.aload_n 0, 1) := by decide +kernel
theorem dX4_enter_136 : decode cX4_enter 136 = .ok (.getfield 102, 3) := by decide +kernel
theorem dX4_enter_139 : decode cX4_enter 139 = .ok (.iload_n 1, 1) := by decide +kernel
theorem dX4_enter_140 : decode cX4_enter 140 = .ok (.iconst 0, 1) := by decide +kernel
theorem dX4_enter_141 : decode cX4_enter 141 = .ok (.iastore, 1) := by decide +kernel
theorem dX4_enter_142 : decode cX4_enter 142 = .ok (.return_, 1) := by decide +kernel
theorem dX4_advance_0 : decode cX4_advance 0 = .ok (.aload_n 0, 1) := by decide +kernel
theorem dX4_advance_1 : decode cX4_advance 1 = .ok (.getfield 96, 3) := by decide +kernel
theorem dX4_advance_4 : decode cX4_advance 4 = .ok (.iload_n 1, 1) := by decide +kernel
theorem dX4_advance_5 : decode cX4_advance 5 = .ok (.aload_n 0, 1) := by decide +kernel
theorem dX4_advance_6 : decode cX4_advance 6 = .ok (.getfield 96, 3) := by decide +kernel
theorem dX4_advance_9 : decode cX4_advance 9 = .ok (.iload_n 1, 1) := by decide +kernel
theorem dX4_advance_10 : decode cX4_advance 10 = .ok (.iaload, 1) := by decide +kernel
theorem dX4_advance_11 : decode cX4_advance 11 = .ok (.iconst 1, 1) := by decide +kernel
theorem dX4_advance_12 : decode cX4_advance 12 = .ok (.iadd, 1) := by decide +kernel
theorem dX4_advance_13 : decode cX4_advance 13 = .ok (.iastore, 1) := by decide +kernel
theorem dX4_advance_14 : decode cX4_advance 14 = .ok (.aload_n 0, 1) := by decide +kernel
theorem dX4_advance_15 : decode cX4_advance 15 = .ok (.getfield 96, 3) := by decide +kernel
theorem dX4_advance_18 : decode cX4_advance 18 = .ok (.iload_n 1, 1) := by decide +kernel
theorem dX4_advance_19 : decode cX4_advance 19 = .ok (.iaload, 1) := by decide +kernel
theorem dX4_advance_20 : decode cX4_advance 20 = .ok (.aload_n 0, 1) := by decide +kernel
theorem dX4_advance_21 : decode cX4_advance 21 = .ok (.getfield 108, 3) := by decide +kernel
theorem dX4_advance_24 : decode cX4_advance 24 = .ok (.iload_n 1, 1) := by decide +kernel
theorem dX4_advance_25 : decode cX4_advance 25 = .ok (.iaload, 1) := by decide +kernel
theorem dX4_advance_26 : decode cX4_advance 26 = .ok (.if_icmp .ne 24, 3) := by decide +kernel
theorem dX4_advance_29 : decode cX4_advance 29 = .ok (.aload_n 0, 1) := by decide +kernel
theorem dX4_advance_30 : decode cX4_advance 30 = .ok (.getfield 96, 3) := by decide +kernel
theorem dX4_advance_33 : decode cX4_advance 33 = .ok (.iload_n 1, 1) := by decide +kernel
theorem dX4_advance_34 : decode cX4_advance 34 = .ok (.iconst 0, 1) := by decide +kernel
theorem dX4_advance_35 : decode cX4_advance 35 = .ok (.iastore, 1) := by decide +kernel
theorem dX4_advance_36 : decode cX4_advance 36 = .ok (.aload_n 0, 1) := by decide +kernel
theorem dX4_advance_37 : decode cX4_advance 37 = .ok (.getfield 99, 3) := by decide +kernel
theorem dX4_advance_40 : decode cX4_advance 40 = .ok (.iload_n 1, 1) := by decide +kernel
theorem dX4_advance_41 : decode cX4_advance 41 = .ok (.aload_n 0, 1) := by decide +kernel
theorem dX4_advance_42 : decode cX4_advance 42 = .ok (.getfield 99, 3) := by decide +kernel
theorem dX4_advance_45 : decode cX4_advance 45 = .ok (.iload_n 1, 1) := by decide +kernel
theorem dX4_advance_46 : decode cX4_advance 46 = .ok (.iaload, 1) := by decide +kernel
theorem dX4_advance_47 : decode cX4_advance 47 = .ok (.iconst 1, 1) := by decide +kernel
theorem dX4_advance_48 : decode cX4_advance 48 = .ok (.iadd, 1) := by decide +kernel
theorem dX4_advance_49 : decode cX4_advance 49 = .ok (.iastore, 1) := by decide +kernel
theorem dX4_advance_50 : decode cX4_advance 50 = .ok (.aload_n 0, 1) := by decide +kernel
theorem dX4_advance_51 : decode cX4_advance 51 = .ok (.getfield 99, 3) := by decide +kernel
theorem dX4_advance_54 : decode cX4_advance 54 = .ok (.iload_n 1, 1) := by decide +kernel
theorem dX4_advance_55 : decode cX4_advance 55 = .ok (.iaload, 1) := by decide +kernel
theorem dX4_advance_56 : decode cX4_advance 56 = .ok (.aload_n 0, 1) := by decide +kernel
theorem dX4_advance_57 : decode cX4_advance 57 = .ok (.getfield 108, 3) := by decide +kernel
theorem dX4_advance_60 : decode cX4_advance 60 = .ok (.bipush 7, 2) := by decide +kernel
theorem dX4_advance_62 : decode cX4_advance 62 = .ok (.iload_n 1, 1) := by decide +kernel
theorem dX4_advance_63 : decode cX4_advance 63 = .ok (.iadd, 1) := by decide +kernel
theorem dX4_advance_64 : decode cX4_advance 64 = .ok (.iaload, 1) := by decide +kernel
theorem dX4_advance_65 : decode cX4_advance 65 = .ok (.if_icmp .ne 24, 3) := by decide +kernel
theorem dX4_advance_68 : decode cX4_advance 68 = .ok (.aload_n 0, 1) := by decide +kernel
theorem dX4_advance_69 : decode cX4_advance 69 = .ok (.getfield 99, 3) := by decide +kernel
theorem dX4_advance_72 : decode cX4_advance 72 = .ok (.iload_n 1, 1) := by decide +kernel
theorem dX4_advance_73 : decode cX4_advance 73 = .ok (.iconst 0, 1) := by decide +kernel
theorem dX4_advance_74 : decode cX4_advance 74 = .ok (.iastore, 1) := by decide +kernel
theorem dX4_advance_75 : decode cX4_advance 75 = .ok (.aload_n 0, 1) := by decide +kernel
theorem dX4_advance_76 : decode cX4_advance 76 = .ok (.getfield 102, 3) := by decide +kernel
theorem dX4_advance_79 : decode cX4_advance 79 = .ok (.iload_n 1, 1) := by decide +kernel
theorem dX4_advance_80 : decode cX4_advance 80 = .ok (.aload_n 0, 1) := by decide +kernel
theorem dX4_advance_81 : decode cX4_advance 81 = .ok (.getfield 102, 3) := by decide +kernel
theorem dX4_advance_84 : decode cX4_advance 84 = .ok (.iload_n 1, 1) := by decide +kernel
theorem dX4_advance_85 : decode cX4_advance 85 = .ok (.iaload, 1) := by decide +kernel
theorem dX4_advance_86 : decode cX4_advance 86 = .ok (.iconst 1, 1) := by decide +kernel
theorem dX4_advance_87 : decode cX4_advance 87 = .ok (.iadd, 1) := by decide +kernel
theorem dX4_advance_88 : decode cX4_advance 88 = .ok (.iastore, 1) := by decide +kernel
theorem dX4_advance_89 : decode cX4_advance 89 = .ok (.aload_n 0, 1) := by decide +kernel
theorem dX4_advance_90 : decode cX4_advance 90 = .ok (.getfield 102, 3) := by decide +kernel
theorem dX4_advance_93 : decode cX4_advance 93 = .ok (.iload_n 1, 1) := by decide +kernel
theorem dX4_advance_94 : decode cX4_advance 94 = .ok (.iaload, 1) := by decide +kernel
theorem dX4_advance_95 : decode cX4_advance 95 = .ok (.aload_n 0, 1) := by decide +kernel
theorem dX4_advance_96 : decode cX4_advance 96 = .ok (.getfield 108, 3) := by decide +kernel
theorem dX4_advance_99 : decode cX4_advance 99 = .ok (.bipush 14, 2) := by decide +kernel
theorem dX4_advance_101 : decode cX4_advance 101 = .ok (.iload_n 1, 1) := by decide +kernel
theorem dX4_advance_102 : decode cX4_advance 102 = .ok (.iadd, 1) := by decide +kernel
theorem dX4_advance_103 : decode cX4_advance 103 = .ok (.iaload, 1) := by decide +kernel
theorem dX4_advance_104 : decode cX4_advance 104 = .ok (.if_icmp .ne 71, 3) := by decide +kernel
theorem dX4_advance_107 : decode cX4_advance 107 = .ok (.aload_n 0, 1) := by decide +kernel
theorem dX4_advance_108 : decode cX4_advance 108 = .ok (.getfield 102, 3) := by decide +kernel
theorem dX4_advance_111 : decode cX4_advance 111 = .ok (.iload_n 1, 1) := by decide +kernel
theorem dX4_advance_112 : decode cX4_advance 112 = .ok (.iconst 0, 1) := by decide +kernel
theorem dX4_advance_113 : decode cX4_advance 113 = .ok (.iastore, 1) := by decide +kernel
theorem dX4_advance_114 : decode cX4_advance 114 = .ok (.aload_n 0, 1) := by decide +kernel
theorem dX4_advance_115 : decode cX4_advance 115 = .ok (.getfield 93, 3) := by decide +kernel
theorem dX4_advance_118 : decode cX4_advance 118 = .ok (.iload_n 1, 1) := by decide +kernel
theorem dX4_advance_119 : decode cX4_advance 119 = .ok (.aload_n 0, 1) := by decide +kernel
theorem dX4_advance_120 : decode cX4_advance 120 = .ok (.getfield 93, 3) := by decide +kernel
theorem dX4_advance_123 : decode cX4_advance 123 = .ok (.iload_n 1, 1) := by decide +kernel
theorem dX4_advance_124 : decode cX4_advance 124 = .ok (.iaload, 1) := by decide +kernel
theorem dX4_advance_125 : decode cX4_advance 125 = .ok (.iconst 1, 1) := by decide +kernel
theorem dX4_advance_126 : decode cX4_advance 126 = .ok (.iadd, 1) := by decide +kernel
theorem dX4_advance_127 : decode cX4_advance 127 = .ok (.iastore, 1) := by decide +kernel
theorem dX4_advance_128 : decode cX4_advance 128 = .ok (.aload_n 0, 1) := by decide +kernel
theorem dX4_advance_129 : decode cX4_advance 129 = .ok (.getfield 93, 3) := by decide +kernel
theorem dX4_advance_132 : decode cX4_advance 132 = .ok (.iload_n 1, 1) := by decide +kernel
theorem dX4_advance_133 : decode cX4_advance 133 = .ok (.iaload, 1) := by decide +kernel
theorem dX4_advance_134 : decode cX4_advance 134 = .ok (.bipush 6, 2) := by decide +kernel
theorem dX4_advance_136 : decode cX4_advance 136 = .ok (.if_icmp .ge 39, 3) := by decide +kernel
theorem dX4_advance_139 : decode cX4_advance 139 = .ok (.aload_n 0, 1) := by decide +kernel
theorem dX4_advance_140 : decode cX4_advance 140 = .ok (.aload_n 0, 1) := by decide +kernel
theorem dX4_advance_141 : decode cX4_advance 141 = .ok (.getfield 90, 3) := by decide +kernel
theorem dX4_advance_144 : decode cX4_advance 144 = .ok (.iload_n 1, 1) := by decide +kernel
theorem dX4_advance_145 : decode cX4_advance 145 = .ok (.iaload, 1) := by decide +kernel
theorem dX4_advance_146 : decode cX4_advance 146 = .ok (.aload_n 0, 1) := by decide +kernel
theorem dX4_advance_147 : decode cX4_advance 147 = .ok (.getfield 93, 3) := by decide +kernel
theorem dX4_advance_150 : decode cX4_advance 150 = .ok (.iload_n 1, 1) := by decide +kernel
theorem dX4_advance_151 : decode cX4_advance 151 = .ok (.iaload, 1) := by decide +kernel
theorem dX4_advance_152 : decode cX4_advance 152 = .ok (.invokevirtual 162, 3) := by decide +kernel
theorem dX4_advance_155 : decode cX4_advance 155 = .ok (.ifCond .ne 20, 3) := by decide +kernel
theorem dX4_advance_158 : decode cX4_advance 158 = .ok (.aload_n 0, 1) := by decide +kernel
theorem dX4_advance_159 : decode cX4_advance 159 = .ok (.getfield 93, 3) := by decide +kernel
theorem dX4_advance_162 : decode cX4_advance 162 = .ok (.iload_n 1, 1) := by decide +kernel
theorem dX4_advance_163 : decode cX4_advance 163 = .ok (.aload_n 0, 1) := by decide +kernel
theorem dX4_advance_164 : decode cX4_advance 164 = .ok (.getfield 93, 3) := by decide +kernel
theorem dX4_advance_167 : decode cX4_advance 167 = .ok (.iload_n 1, 1) := by decide +kernel
theorem dX4_advance_168 : decode cX4_advance 168 = .ok (.iaload, 1) := by decide +kernel
theorem dX4_advance_169 : decode cX4_advance 169 = .ok (.iconst 1, 1) := by decide +kernel
theorem dX4_advance_170 : decode cX4_advance 170 = .ok (.iadd, 1) := by decide +kernel
theorem dX4_advance_171 : decode cX4_advance 171 = .ok (.iastore, 1) := by decide +kernel
theorem dX4_advance_172 : decode cX4_advance 172 = .ok (.goto (-44), 3) := by decide +kernel
theorem dX4_advance_175 : decode cX4_advance 175 = .ok (.aload_n 0, 1) := by decide +kernel
theorem dX4_advance_176 : decode cX4_advance 176 = .ok (.getfield 93, 3) := by decide +kernel
theorem dX4_advance_179 : decode cX4_advance 179 = .ok (.iload_n 1, 1) := by decide +kernel
theorem dX4_advance_180 : decode cX4_advance 180 = .ok (.iaload, 1) := by decide +kernel
theorem dX4_advance_181 : decode cX4_advance 181 = .ok (.bipush 6, 2) := by decide +kernel
theorem dX4_advance_183 : decode cX4_advance 183 = .ok (.if_icmp .ge 7, 3) := by decide +kernel
theorem dX4_advance_186 : decode cX4_advance 186 = .ok (.iconst 1, 1) := by decide +kernel
theorem dX4_advance_187 : decode cX4_advance 187 = .ok (.goto 4, 3) := by decide +kernel
theorem dX4_advance_190 : decode cX4_advance 190 = .ok (.iconst 0, 1) := by decide +kernel
theorem dX4_advance_191 : decode cX4_advance 191 = .ok (.ireturn, 1) := by decide +kernel
theorem dX4_look_0 : decode cX4_look 0 = .ok (.aload_n 0, 1) := by decide +kernel
theorem dX4_look_1 : decode cX4_look 1 = .ok (.invokevirtual 165, 3) := by decide +kernel
theorem dX4_look_4 : decode cX4_look 4 = .ok (.istore_n 1, 1) := by decide +kernel
theorem dX4_look_5 : decode cX4_look 5 = .ok (.aload_n 0, 1) := by decide +kernel
theorem dX4_look_6 : decode cX4_look 6 = .ok (.getfield 62, 3) := by decide +kernel
theorem dX4_look_9 : decode cX4_look 9 = .ok (.ifCond .eq 12, 3) := by decide +kernel
theorem dX4_look_12 : decode cX4_look 12 = .ok (.iload_n 1, 1) := by decide +kernel
theorem dX4_look_13 : decode cX4_look 13 = .ok (.aload_n 0, 1) := by decide +kernel
theorem dX4_look_14 : decode cX4_look 14 = .ok (.getfield 66, 3) := by decide +kernel
theorem dX4_look_17 : decode cX4_look 17 = .ok (.if_icmp .gt 4, 3) := by decide +kernel
theorem dX4_look_20 : decode cX4_look 20 = .ok (.return_, 1) := by decide +kernel
theorem dX4_look_21 : decode cX4_look 21 = .ok (.aload_n 0, 1) := by decide +kernel
theorem dX4_look_22 : decode cX4_look 22 = .ok (.iconst 1, 1) := by decide +kernel
theorem dX4_look_23 : decode cX4_look 23 = .ok (.putfield 62, 3) := by decide +kernel
theorem dX4_look_26 : decode cX4_look 26 = .ok (.aload_n 0, 1) := by decide +kernel
theorem dX4_look_27 : decode cX4_look 27 = .ok (.iload_n 1, 1) := by decide +kernel
theorem dX4_look_28 : decode cX4_look 28 = .ok (.putfield 66, 3) := by decide +kernel
theorem dX4_look_31 : decode cX4_look 31 = .ok (.iconst 0, 1) := by decide +kernel
theorem dX4_look_32 : decode cX4_look 32 = .ok (.istore_n 2, 1) := by decide +kernel
theorem dX4_look_33 : decode cX4_look 33 = .ok (.iload_n 2, 1) := by decide +kernel
theorem dX4_look_34 : decode cX4_look 34 = .ok (.bipush 6, 2) := by decide +kernel
theorem dX4_look_36 : decode cX4_look 36 = .ok (.if_icmp .ge 57, 3) := by decide +kernel
theorem dX4_look_39 : decode cX4_look 39 = .ok (.aload_n 0, 1) := by decide +kernel
theorem dX4_look_40 : decode cX4_look 40 = .ok (.getfield 69, 3) := by decide +kernel
theorem dX4_look_43 : decode cX4_look 43 = .ok (.iload_n 2, 1) := by decide +kernel
theorem dX4_look_44 : decode cX4_look 44 = .ok (.aload_n 0, 1) := by decide +kernel
theorem dX4_look_45 : decode cX4_look 45 = .ok (.getfield 41, 3) := by decide +kernel
theorem dX4_look_48 : decode cX4_look 48 = .ok (.iload_n 2, 1) := by decide +kernel
theorem dX4_look_49 : decode cX4_look 49 = .ok (.iaload, 1) := by decide +kernel
theorem dX4_look_50 : decode cX4_look 50 = .ok (.iastore, 1) := by decide +kernel
theorem dX4_look_51 : decode cX4_look 51 = .ok (.aload_n 0, 1) := by decide +kernel
theorem dX4_look_52 : decode cX4_look 52 = .ok (.getfield 72, 3) := by decide +kernel
theorem dX4_look_55 : decode cX4_look 55 = .ok (.iload_n 2, 1) := by decide +kernel
theorem dX4_look_56 : decode cX4_look 56 = .ok (.aload_n 0, 1) := by decide +kernel
theorem dX4_look_57 : decode cX4_look 57 = .ok (.getfield 44, 3) := by decide +kernel
theorem dX4_look_60 : decode cX4_look 60 = .ok (.iload_n 2, 1) := by decide +kernel
theorem dX4_look_61 : decode cX4_look 61 = .ok (.iaload, 1) := by decide +kernel
theorem dX4_look_62 : decode cX4_look 62 = .ok (.iastore, 1) := by decide +kernel
theorem dX4_look_63 : decode cX4_look 63 = .ok (.aload_n 0, 1) := by decide +kernel
theorem dX4_look_64 : decode cX4_look 64 = .ok (.getfield 75, 3) := by decide +kernel
theorem dX4_look_67 : decode cX4_look 67 = .ok (.iload_n 2, 1) := by decide +kernel
theorem dX4_look_68 : decode cX4_look 68 = .ok (.aload_n 0, 1) := by decide +kernel
theorem dX4_look_69 : decode cX4_look 69 = .ok (.getfield 47, 3) := by decide +kernel
theorem dX4_look_72 : decode cX4_look 72 = .ok (.iload_n 2, 1) := by decide +kernel
theorem dX4_look_73 : decode cX4_look 73 = .ok (.iaload, 1) := by decide +kernel
theorem dX4_look_74 : decode cX4_look 74 = .ok (.iastore, 1) := by decide +kernel
theorem dX4_look_75 : decode cX4_look 75 = .ok (.aload_n 0, 1) := by decide +kernel
theorem dX4_look_76 : decode cX4_look 76 = .ok (.getfield 78, 3) := by decide +kernel
theorem dX4_look_79 : decode cX4_look 79 = .ok (.iload_n 2, 1) := by decide +kernel
theorem dX4_look_80 : decode cX4_look 80 = .ok (.aload_n 0, 1) := by decide +kernel
theorem dX4_look_81 : decode cX4_look 81 = .ok (.getfield 50, 3) := by decide +kernel
theorem dX4_look_84 : decode cX4_look 84 = .ok (.iload_n 2, 1) := by decide +kernel
theorem dX4_look_85 : decode cX4_look 85 = .ok (.iaload, 1) := by decide +kernel
theorem dX4_look_86 : decode cX4_look 86 = .ok (.iastore, 1) := by decide +kernel
theorem dX4_look_87 : decode cX4_look 87 = .ok (.iinc 2 1, 3) := by decide +kernel
theorem dX4_look_90 : decode cX4_look 90 = .ok (.goto (-57), 3) := by decide +kernel
theorem dX4_look_93 : decode cX4_look 93 = .ok (.return_, 1) := by decide +kernel
theorem dX4_search_0 : decode cX4_search 0 = .ok (.iconst 0, 1) := by decide +kernel
theorem dX4_search_1 : decode cX4_search 1 = .ok (.istore_n 2, 1) := by decide +kernel
theorem dX4_search_2 : decode cX4_search 2 = .ok (.aload_n 0, 1) := by decide +kernel
theorem dX4_search_3 : decode cX4_search 3 = .ok (.getfield 87, 3) := by decide +kernel
theorem dX4_search_6 : decode cX4_search 6 = .ok (.ifCond .le 8, 3) := by decide +kernel
theorem dX4_search_9 : decode cX4_search 9 = .ok (.aload_n 0, 1) := by decide +kernel
theorem dX4_search_10 : decode cX4_search 10 = .ok (.iconst 0, 1) := by decide +kernel
theorem dX4_search_11 : decode cX4_search 11 = .ok (.invokevirtual 169, 3) := by decide +kernel
theorem dX4_search_14 : decode cX4_search 14 = .ok (.aload_n 0, 1) := by decide +kernel
theorem dX4_search_15 : decode cX4_search 15 = .ok (.getfield 111, 3) := by decide +kernel
theorem dX4_search_18 : decode cX4_search 18 = .ok (.iconst 0, 1) := by decide +kernel
theorem dX4_search_19 : decode cX4_search 19 = .ok (.iconst 0, 1) := by decide +kernel
theorem dX4_search_20 : decode cX4_search 20 = .ok (.iastore, 1) := by decide +kernel
theorem dX4_search_21 : decode cX4_search 21 = .ok (.iload_n 2, 1) := by decide +kernel
theorem dX4_search_22 : decode cX4_search 22 = .ok (.ifCond .lt 212, 3) := by decide +kernel
theorem dX4_search_25 : decode cX4_search 25 = .ok (.iload_n 2, 1) := by decide +kernel
theorem dX4_search_26 : decode cX4_search 26 = .ok (.aload_n 0, 1) := by decide +kernel
theorem dX4_search_27 : decode cX4_search 27 = .ok (.getfield 87, 3) := by decide +kernel
theorem dX4_search_30 : decode cX4_search 30 = .ok (.if_icmp .ne 13, 3) := by decide +kernel
theorem dX4_search_33 : decode cX4_search 33 = .ok (.aload_n 0, 1) := by decide +kernel
theorem dX4_search_34 : decode cX4_search 34 = .ok (.invokevirtual 173, 3) := by decide +kernel
theorem dX4_search_37 : decode cX4_search 37 = .ok (.iinc 2 (-1), 3) := by decide +kernel
theorem dX4_search_40 : decode cX4_search 40 = .ok (.goto (-19), 3) := by decide +kernel
theorem dX4_search_43 : decode cX4_search 43 = .ok (.aload_n 0, 1) := by decide +kernel
theorem dX4_search_44 : decode cX4_search 44 = .ok (.getfield 111, 3) := by decide +kernel
theorem dX4_search_47 : decode cX4_search 47 = .ok (.iload_n 2, 1) := by decide +kernel
theorem dX4_search_48 : decode cX4_search 48 = .ok (.iaload, 1) := by decide +kernel
theorem dX4_search_49 : decode cX4_search 49 = .ok (.iconst 1, 1) := by decide +kernel
theorem dX4_search_50 : decode cX4_search 50 = .ok (.if_icmp .ne 9, 3) := by decide +kernel
theorem dX4_search_53 : decode cX4_search 53 = .ok (.iinc 2 (-1), 3) := by decide +kernel
theorem dX4_search_56 : decode cX4_search 56 = .ok (.goto (-35), 3) := by decide +kernel
theorem dX4_search_59 : decode cX4_search 59 = .ok (.aload_n 0, 1) := by decide +kernel
theorem dX4_search_60 : decode cX4_search 60 = .ok (.getfield 41, 3) := by decide +kernel
theorem dX4_search_63 : decode cX4_search 63 = .ok (.aload_n 0, 1) := by decide +kernel
theorem dX4_search_64 : decode cX4_search 64 = .ok (.getfield 90, 3) := by decide +kernel
theorem dX4_search_67 : decode cX4_search 67 = .ok (.iload_n 2, 1) := by decide +kernel
theorem dX4_search_68 : decode cX4_search 68 = .ok (.iaload, 1) := by decide +kernel
theorem dX4_search_69 : decode cX4_search 69 = .ok (.iconst (-1), 1) := by decide +kernel
theorem dX4_search_70 : decode cX4_search 70 = .ok (.iastore, 1) := by decide +kernel
theorem dX4_search_71 : decode cX4_search 71 = .ok (.iconst 0, 1) := by decide +kernel
theorem dX4_search_72 : decode cX4_search 72 = .ok (.istore_n 3, 1) := by decide +kernel
theorem dX4_search_73 : decode cX4_search 73 = .ok (.aload_n 0, 1) := by decide +kernel
theorem dX4_search_74 : decode cX4_search 74 = .ok (.iload_n 2, 1) := by decide +kernel
theorem dX4_search_75 : decode cX4_search 75 = .ok (.invokevirtual 176, 3) := by decide +kernel
theorem dX4_search_78 : decode cX4_search 78 = .ok (.ifCond .ne 15, 3) := by decide +kernel
theorem dX4_search_81 : decode cX4_search 81 = .ok (.aload_n 0, 1) := by decide +kernel
theorem dX4_search_82 : decode cX4_search 82 = .ok (.getfield 111, 3) := by decide +kernel
theorem dX4_search_85 : decode cX4_search 85 = .ok (.iload_n 2, 1) := by decide +kernel
theorem dX4_search_86 : decode cX4_search 86 = .ok (.iconst 1, 1) := by decide +kernel
theorem dX4_search_87 : decode cX4_search 87 = .ok (.iastore, 1) := by decide +kernel
theorem dX4_search_88 : decode cX4_search 88 = .ok (.iconst 1, 1) := by decide +kernel
theorem dX4_search_89 : decode cX4_search 89 = .ok (.istore_n 3, 1) := by decide +kernel
theorem dX4_search_90 : decode cX4_search 90 = .ok (.goto 114, 3) := by decide +kernel
theorem dX4_search_93 : decode cX4_search 93 = .ok (.aload_n 0, 1) := by decide +kernel
theorem dX4_search_94 : decode cX4_search 94 = .ok (.getfield 81, 3) := by decide +kernel
theorem dX4_search_97 : decode cX4_search 97 = .ok (.iload_n 1, 1) := by decide +kernel
theorem dX4_search_98 : decode cX4_search 98 = .ok (.if_icmp .ne 5, 3) := by decide +kernel
theorem dX4_search_101 : decode cX4_search 101 = .ok (.iconst 0, 1) := by decide +kernel
theorem dX4_search_102 : decode cX4_search 102 = .ok (.ireturn, 1) := by decide +kernel
theorem dX4_search_103 : decode cX4_search 103 = .ok (.aload_n 0, 1) := by decide +kernel
theorem dX4_search_104 : decode cX4_search 104 = .ok (.dup, 1) := by decide +kernel
theorem dX4_search_105 : decode cX4_search 105 = .ok (.getfield 81, 3) := by decide +kernel
theorem dX4_search_108 : decode cX4_search 108 = .ok (.iconst 1, 1) := by decide +kernel
theorem dX4_search_109 : decode cX4_search 109 = .ok (.iadd, 1) := by decide +kernel
theorem dX4_search_110 : decode cX4_search 110 = .ok (.putfield 81, 3) := by decide +kernel
theorem dX4_search_113 : decode cX4_search 113 = .ok (.aload_n 0, 1) := by decide +kernel
theorem dX4_search_114 : decode cX4_search 114 = .ok (.aload_n 0, 1) := by decide +kernel
theorem dX4_search_115 : decode cX4_search 115 = .ok (.getfield 90, 3) := by decide +kernel
theorem dX4_search_118 : decode cX4_search 118 = .ok (.iload_n 2, 1) := by decide +kernel
theorem dX4_search_119 : decode cX4_search 119 = .ok (.iaload, 1) := by decide +kernel
theorem dX4_search_120 : decode cX4_search 120 = .ok (.aload_n 0, 1) := by decide +kernel
theorem dX4_search_121 : decode cX4_search 121 = .ok (.getfield 93, 3) := by decide +kernel
theorem dX4_search_124 : decode cX4_search 124 = .ok (.iload_n 2, 1) := by decide +kernel
theorem dX4_search_125 : decode cX4_search 125 = .ok (.iaload, 1) := by decide +kernel
theorem dX4_search_126 : decode cX4_search 126 = .ok (.aload_n 0, 1) := by decide +kernel
theorem dX4_search_127 : decode cX4_search 127 = .ok (.getfield 105, 3) := by decide +kernel
theorem dX4_search_130 : decode cX4_search 130 = .ok (.bipush 8, 2) := by decide +kernel
theorem dX4_search_132 : decode cX4_search 132 = .ok (.iload_n 2, 1) := by decide +kernel
theorem dX4_search_133 : decode cX4_search 133 = .ok (.imul, 1) := by decide +kernel
theorem dX4_search_134 : decode cX4_search 134 = .ok (.aload_n 0, 1) := by decide +kernel
theorem dX4_search_135 : decode cX4_search 135 = .ok (.getfield 96, 3) := by decide +kernel
theorem dX4_search_138 : decode cX4_search 138 = .ok (.iload_n 2, 1) := by decide +kernel
theorem dX4_search_139 : decode cX4_search 139 = .ok (.iaload, 1) := by decide +kernel
theorem dX4_search_140 : decode cX4_search 140 = .ok (.iadd, 1) := by decide +kernel
theorem dX4_search_141 : decode cX4_search 141 = .ok (.iaload, 1) := by decide +kernel
theorem dX4_search_142 : decode cX4_search 142 = .ok (.aload_n 0, 1) := by decide +kernel
theorem dX4_search_143 : decode cX4_search 143 = .ok (.getfield 105, 3) := by decide +kernel
theorem dX4_search_146 : decode cX4_search 146 = .ok (.bipush 56, 2) := by decide +kernel
theorem dX4_search_148 : decode cX4_search 148 = .ok (.bipush 8, 2) := by decide +kernel
theorem dX4_search_150 : decode cX4_search 150 = .ok (.iload_n 2, 1) := by decide +kernel
theorem dX4_search_151 : decode cX4_search 151 = .ok (.imul, 1) := by decide +kernel
theorem dX4_search_152 : decode cX4_search 152 = .ok (.iadd, 1) := by decide +kernel
theorem dX4_search_153 : decode cX4_search 153 = .ok (.aload_n 0, 1) := by decide +kernel
theorem dX4_search_154 : decode cX4_search 154 = .ok (.getfield 99, 3) := by decide +kernel
theorem dX4_search_157 : decode cX4_search 157 = .ok (.iload_n 2, 1) := by decide +kernel
theorem dX4_search_158 : decode cX4_search 158 = .ok (.iaload, 1) := by decide +kernel
theorem dX4_search_159 : decode cX4_search 159 = .ok (.iadd, 1) := by decide +kernel
theorem dX4_search_160 : decode cX4_search 160 = .ok (.iaload, 1) := by decide +kernel
theorem dX4_search_161 : decode cX4_search 161 = .ok (.aload_n 0, 1) := by decide +kernel
theorem dX4_search_162 : decode cX4_search 162 = .ok (.getfield 105, 3) := by decide +kernel
theorem dX4_search_165 : decode cX4_search 165 = .ok (.bipush 112, 2) := by decide +kernel
theorem dX4_search_167 : decode cX4_search 167 = .ok (.bipush 8, 2) := by decide +kernel
theorem dX4_search_169 : decode cX4_search 169 = .ok (.iload_n 2, 1) := by decide +kernel
theorem dX4_search_170 : decode cX4_search 170 = .ok (.imul, 1) := by decide +kernel
theorem dX4_search_171 : decode cX4_search 171 = .ok (.iadd, 1) := by decide +kernel
theorem dX4_search_172 : decode cX4_search 172 = .ok (.aload_n 0, 1) := by decide +kernel
theorem dX4_search_173 : decode cX4_search 173 = .ok (.getfield 102, 3) := by decide +kernel
theorem dX4_search_176 : decode cX4_search 176 = .ok (.iload_n 2, 1) := by decide +kernel
theorem dX4_search_177 : decode cX4_search 177 = .ok (.iaload, 1) := by decide +kernel
theorem dX4_search_178 : decode cX4_search 178 = .ok (.iadd, 1) := by decide +kernel
theorem dX4_search_179 : decode cX4_search 179 = .ok (.iaload, 1) := by decide +kernel
theorem dX4_search_180 : decode cX4_search 180 = .ok (.invokevirtual 180, 3) := by decide +kernel
theorem dX4_search_183 : decode cX4_search 183 = .ok (.aload_n 0, 1) := by decide +kernel
theorem dX4_search_184 : decode cX4_search 184 = .ok (.invokevirtual 184, 3) := by decide +kernel
theorem dX4_search_187 : decode cX4_search 187 = .ok (.istore_n 3, 1) := by decide +kernel
theorem dX4_search_188 : decode cX4_search 188 = .ok (.iload_n 3, 1) := by decide +kernel
theorem dX4_search_189 : decode cX4_search 189 = .ok (.ifCond .ne 15, 3) := by decide +kernel
theorem dX4_search_192 : decode cX4_search 192 = .ok (.aload_n 0, 1) := by decide +kernel
theorem dX4_search_193 : decode cX4_search 193 = .ok (.getfield 41, 3) := by decide +kernel
theorem dX4_search_196 : decode cX4_search 196 = .ok (.aload_n 0, 1) := by decide +kernel
theorem dX4_search_197 : decode cX4_search 197 = .ok (.getfield 90, 3) := by decide +kernel
theorem dX4_search_200 : decode cX4_search 200 = .ok (.iload_n 2, 1) := by decide +kernel
theorem dX4_search_201 : decode cX4_search 201 = .ok (.iaload, 1) := by decide +kernel
theorem dX4_search_202 : decode cX4_search 202 = .ok (.iconst (-1), 1) := by decide +kernel
theorem dX4_search_203 : decode cX4_search 203 = .ok (.iastore, 1) := by decide +kernel
theorem dX4_search_204 : decode cX4_search 204 = .ok (.iload_n 3, 1) := by decide +kernel
theorem dX4_search_205 : decode cX4_search 205 = .ok (.ifCond .eq 26, 3) := by decide +kernel
theorem dX4_search_208 : decode cX4_search 208 = .ok (.iinc 2 1, 3) := by decide +kernel
theorem dX4_search_211 : decode cX4_search 211 = .ok (.aload_n 0, 1) := by decide +kernel
theorem dX4_search_212 : decode cX4_search 212 = .ok (.getfield 111, 3) := by decide +kernel
theorem dX4_search_215 : decode cX4_search 215 = .ok (.iload_n 2, 1) := by decide +kernel
theorem dX4_search_216 : decode cX4_search 216 = .ok (.iconst 0, 1) := by decide +kernel
theorem dX4_search_217 : decode cX4_search 217 = .ok (.iastore, 1) := by decide +kernel
theorem dX4_search_218 : decode cX4_search 218 = .ok (.iload_n 2, 1) := by decide +kernel
theorem dX4_search_219 : decode cX4_search 219 = .ok (.aload_n 0, 1) := by decide +kernel
theorem dX4_search_220 : decode cX4_search 220 = .ok (.getfield 87, 3) := by decide +kernel
theorem dX4_search_223 : decode cX4_search 223 = .ok (.if_icmp .ge 8, 3) := by decide +kernel
theorem dX4_search_226 : decode cX4_search 226 = .ok (.aload_n 0, 1) := by decide +kernel
theorem dX4_search_227 : decode cX4_search 227 = .ok (.iload_n 2, 1) := by decide +kernel
theorem dX4_search_228 : decode cX4_search 228 = .ok (.invokevirtual 169, 3) := by decide +kernel
theorem dX4_search_231 : decode cX4_search 231 = .ok (.goto (-210), 3) := by decide +kernel
theorem dX4_search_234 : decode cX4_search 234 = .ok (.iconst 1, 1) := by decide +kernel
theorem dX4_search_235 : decode cX4_search 235 = .ok (.ireturn, 1) := by decide +kernel
theorem dX4_thrown_0 : decode cX4_thrown 0 = .ok (.aload_n 0, 1) := by decide +kernel
theorem dX4_thrown_1 : decode cX4_thrown 1 = .ok (.getfield 7, 3) := by decide +kernel
theorem dX4_thrown_4 : decode cX4_thrown 4 = .ok (.ireturn, 1) := by decide +kernel
end
section
theorem dX4_noPiece_0 : decode cX4_noPiece 0 = .ok (.iload_n 1, 1) := by decide +kernel
theorem dX4_noPiece_1 : decode cX4_noPiece 1 = .ok (.ifCond .lt 11, 3) := by decide +kernel
theorem dX4_noPiece_4 : decode cX4_noPiece 4 = .ok (.iload_n 1, 1) := by decide +kernel
theorem dX4_noPiece_5 : decode cX4_noPiece 5 = .ok (.aload_n 0, 1) := by decide +kernel
theorem dX4_noPiece_6 : decode cX4_noPiece 6 = .ok (.getfield 13, 3) := by decide +kernel
theorem dX4_noPiece_9 : decode cX4_noPiece 9 = .ok (.if_icmp .lt 7, 3) := by decide +kernel
theorem dX4_noPiece_12 : decode cX4_noPiece 12 = .ok (.iconst 1, 1) := by decide +kernel
theorem dX4_noPiece_13 : decode cX4_noPiece 13 = .ok (.goto 4, 3) := by decide +kernel
theorem dX4_noPiece_16 : decode cX4_noPiece 16 = .ok (.iconst 0, 1) := by decide +kernel
theorem dX4_noPiece_17 : decode cX4_noPiece 17 = .ok (.ireturn, 1) := by decide +kernel
theorem dX4_not_0 : decode cX4_not 0 = .ok (.iload_n 0, 1) := by decide +kernel
theorem dX4_not_1 : decode cX4_not 1 = .ok (.iload_n 1, 1) := by decide +kernel
theorem dX4_not_2 : decode cX4_not 2 = .ok (.if_icmp .lt 8, 3) := by decide +kernel
theorem dX4_not_5 : decode cX4_not 5 = .ok (.iload_n 0, 1) := by decide +kernel
theorem dX4_not_6 : decode cX4_not 6 = .ok (.iload_n 2, 1) := by decide +kernel
theorem dX4_not_7 : decode cX4_not 7 = .ok (.if_icmp .le 7, 3) := by decide +kernel
theorem dX4_not_10 : decode cX4_not 10 = .ok (.iconst 1, 1) := by decide +kernel
theorem dX4_not_11 : decode cX4_not 11 = .ok (.goto 4, 3) := by decide +kernel
theorem dX4_not_14 : decode cX4_not 14 = .ok (.iconst 0, 1) := by decide +kernel
theorem dX4_not_15 : decode cX4_not 15 = .ok (.ireturn, 1) := by decide +kernel
theorem dX4_piece_0 : decode cX4_piece 0 = .ok (.aload_n 0, 1) := by decide +kernel
theorem dX4_piece_1 : decode cX4_piece 1 = .ok (.iload_n 1, 1) := by decide +kernel
theorem dX4_piece_2 : decode cX4_piece 2 = .ok (.iconst 1, 1) := by decide +kernel
theorem dX4_piece_3 : decode cX4_piece 3 = .ok (.bipush 8, 2) := by decide +kernel
theorem dX4_piece_5 : decode cX4_piece 5 = .ok (.invokestatic 188, 3) := by decide +kernel
theorem dX4_piece_8 : decode cX4_piece 8 = .ok (.ifCond .ne 34, 3) := by decide +kernel
theorem dX4_piece_11 : decode cX4_piece 11 = .ok (.iload_n 2, 1) := by decide +kernel
theorem dX4_piece_12 : decode cX4_piece 12 = .ok (.iconst 1, 1) := by decide +kernel
theorem dX4_piece_13 : decode cX4_piece 13 = .ok (.bipush 8, 2) := by decide +kernel
theorem dX4_piece_15 : decode cX4_piece 15 = .ok (.invokestatic 188, 3) := by decide +kernel
theorem dX4_piece_18 : decode cX4_piece 18 = .ok (.ifCond .ne 24, 3) := by decide +kernel
theorem dX4_piece_21 : decode cX4_piece 21 = .ok (.iload_n 3, 1) := by decide +kernel
theorem dX4_piece_22 : decode cX4_piece 22 = .ok (.iconst 1, 1) := by decide +kernel
theorem dX4_piece_23 : decode cX4_piece 23 = .ok (.bipush 8, 2) := by decide +kernel
theorem dX4_piece_25 : decode cX4_piece 25 = .ok (.invokestatic 188, 3) := by decide +kernel
theorem dX4_piece_28 : decode cX4_piece 28 = .ok (.ifCond .ne 14, 3) := by decide +kernel
theorem dX4_piece_31 : decode cX4_piece 31 = .ok (.iload 4, 2) := by decide +kernel
theorem dX4_piece_33 : decode cX4_piece 33 = .ok (.iconst 0, 1) := by decide +kernel
theorem dX4_piece_34 : decode cX4_piece 34 = .ok (.bipush 100, 2) := by decide +kernel
theorem dX4_piece_36 : decode cX4_piece 36 = .ok (.invokestatic 188, 3) := by decide +kernel
theorem dX4_piece_39 : decode cX4_piece 39 = .ok (.ifCond .eq 7, 3) := by decide +kernel
theorem dX4_piece_42 : decode cX4_piece 42 = .ok (.iconst 1, 1) := by decide +kernel
theorem dX4_piece_43 : decode cX4_piece 43 = .ok (.goto 17, 3) := by decide +kernel
theorem dX4_piece_46 : decode cX4_piece 46 = .ok (.aload_n 0, 1) := by decide +kernel
theorem dX4_piece_47 : decode cX4_piece 47 = .ok (.getfield 13, 3) := by decide +kernel
theorem dX4_piece_50 : decode cX4_piece 50 = .ok (.bipush 6, 2) := by decide +kernel
theorem dX4_piece_52 : decode cX4_piece 52 = .ok (.if_icmp .ne 7, 3) := by decide +kernel
theorem dX4_piece_55 : decode cX4_piece 55 = .ok (.iconst 2, 1) := by decide +kernel
theorem dX4_piece_56 : decode cX4_piece 56 = .ok (.goto 4, 3) := by decide +kernel
theorem dX4_piece_59 : decode cX4_piece 59 = .ok (.iconst 0, 1) := by decide +kernel
theorem dX4_piece_60 : decode cX4_piece 60 = .ok (.putfield 7, 3) := by decide +kernel
theorem dX4_piece_63 : decode cX4_piece 63 = .ok (.aload_n 0, 1) := by decide +kernel
theorem dX4_piece_64 : decode cX4_piece 64 = .ok (.getfield 7, 3) := by decide +kernel
theorem dX4_piece_67 : decode cX4_piece 67 = .ok (.ifCond .eq 5, 3) := by decide +kernel
theorem dX4_piece_70 : decode cX4_piece 70 = .ok (.iconst 0, 1) := by decide +kernel
theorem dX4_piece_71 : decode cX4_piece 71 = .ok (.ireturn, 1) := by decide +kernel
theorem dX4_piece_72 : decode cX4_piece 72 = .ok (.aload_n 0, 1) := by decide +kernel
theorem dX4_piece_73 : decode cX4_piece 73 = .ok (.getfield 16, 3) := by decide +kernel
theorem dX4_piece_76 : decode cX4_piece 76 = .ok (.iconst 3, 1) := by decide +kernel
theorem dX4_piece_77 : decode cX4_piece 77 = .ok (.aload_n 0, 1) := by decide +kernel
theorem dX4_piece_78 : decode cX4_piece 78 = .ok (.getfield 13, 3) := by decide +kernel
theorem dX4_piece_81 : decode cX4_piece 81 = .ok (.imul, 1) := by decide +kernel
theorem dX4_piece_82 : decode cX4_piece 82 = .ok (.iload_n 1, 1) := by decide +kernel
theorem dX4_piece_83 : decode cX4_piece 83 = .ok (.iastore, 1) := by decide +kernel
theorem dX4_piece_84 : decode cX4_piece 84 = .ok (.aload_n 0, 1) := by decide +kernel
theorem dX4_piece_85 : decode cX4_piece 85 = .ok (.getfield 16, 3) := by decide +kernel
theorem dX4_piece_88 : decode cX4_piece 88 = .ok (.iconst 3, 1) := by decide +kernel
theorem dX4_piece_89 : decode cX4_piece 89 = .ok (.aload_n 0, 1) := by decide +kernel
theorem dX4_piece_90 : decode cX4_piece 90 = .ok (.getfield 13, 3) := by decide +kernel
theorem dX4_piece_93 : decode cX4_piece 93 = .ok (.imul, 1) := by decide +kernel
theorem dX4_piece_94 : decode cX4_piece 94 = .ok (.iconst 1, 1) := by decide +kernel
theorem dX4_piece_95 : decode cX4_piece 95 = .ok (.iadd, 1) := by decide +kernel
theorem dX4_piece_96 : decode cX4_piece 96 = .ok (.iload_n 2, 1) := by decide +kernel
theorem dX4_piece_97 : decode cX4_piece 97 = .ok (.iastore, 1) := by decide +kernel
theorem dX4_piece_98 : decode cX4_piece 98 = .ok (.aload_n 0, 1) := by decide +kernel
theorem dX4_piece_99 : decode cX4_piece 99 = .ok (.getfield 16, 3) := by decide +kernel
theorem dX4_piece_102 : decode cX4_piece 102 = .ok (.iconst 3, 1) := by decide +kernel
theorem dX4_piece_103 : decode cX4_piece 103 = .ok (.aload_n 0, 1) := by decide +kernel
theorem dX4_piece_104 : decode cX4_piece 104 = .ok (.getfield 13, 3) := by decide +kernel
theorem dX4_piece_107 : decode cX4_piece 107 = .ok (.imul, 1) := by decide +kernel
theorem dX4_piece_108 : decode cX4_piece 108 = .ok (.iconst 2, 1) := by decide +kernel
theorem dX4_piece_109 : decode cX4_piece 109 = .ok (.iadd, 1) := by decide +kernel
theorem dX4_piece_110 : decode cX4_piece 110 = .ok (.iload_n 3, 1) := by decide +kernel
theorem dX4_piece_111 : decode cX4_piece 111 = .ok (.iastore, 1) := by decide +kernel
theorem dX4_piece_112 : decode cX4_piece 112 = .ok (.aload_n 0, 1) := by decide +kernel
theorem dX4_piece_113 : decode cX4_piece 113 = .ok (.getfield 20, 3) := by decide +kernel
theorem dX4_piece_116 : decode cX4_piece 116 = .ok (.aload_n 0, 1) := by decide +kernel
theorem dX4_piece_117 : decode cX4_piece 117 = .ok (.getfield 13, 3) := by decide +kernel
theorem dX4_piece_120 : decode cX4_piece 120 = .ok (.iload 4, 2) := by decide +kernel
theorem dX4_piece_122 : decode cX4_piece 122 = .ok (.iastore, 1) := by decide +kernel
theorem dX4_piece_123 : decode cX4_piece 123 = .ok (.aload_n 0, 1) := by decide +kernel
theorem dX4_piece_124 : decode cX4_piece 124 = .ok (.getfield 26, 3) := by decide +kernel
theorem dX4_piece_127 : decode cX4_piece 127 = .ok (.aload_n 0, 1) := by decide +kernel
theorem dX4_piece_128 : decode cX4_piece 128 = .ok (.getfield 13, 3) := by decide +kernel
theorem dX4_piece_131 : decode cX4_piece 131 = .ok (.iconst (-1), 1) := by decide +kernel
theorem dX4_piece_132 : decode cX4_piece 132 = .ok (.iastore, 1) := by decide +kernel
theorem dX4_piece_133 : decode cX4_piece 133 = .ok (.aload_n 0, 1) := by decide +kernel
theorem dX4_piece_134 : decode cX4_piece 134 = .ok (.getfield 32, 3) := by decide +kernel
theorem dX4_piece_137 : decode cX4_piece 137 = .ok (.aload_n 0, 1) := by decide +kernel
theorem dX4_piece_138 : decode cX4_piece 138 = .ok (.getfield 13, 3) := by decide +kernel
theorem dX4_piece_141 : decode cX4_piece 141 = .ok (.iconst (-1), 1) := by decide +kernel
theorem dX4_piece_142 : decode cX4_piece 142 = .ok (.iastore, 1) := by decide +kernel
theorem dX4_piece_143 : decode cX4_piece 143 = .ok (.aload_n 0, 1) := by decide +kernel
theorem dX4_piece_144 : decode cX4_piece 144 = .ok (.dup, 1) := by decide +kernel
theorem dX4_piece_145 : decode cX4_piece 145 = .ok (.getfield 13, 3) := by decide +kernel
theorem dX4_piece_148 : decode cX4_piece 148 = .ok (.iconst 1, 1) := by decide +kernel
theorem dX4_piece_149 : decode cX4_piece 149 = .ok (.iadd, 1) := by decide +kernel
theorem dX4_piece_150 : decode cX4_piece 150 = .ok (.putfield 13, 3) := by decide +kernel
theorem dX4_piece_153 : decode cX4_piece 153 = .ok (.aload_n 0, 1) := by decide +kernel
theorem dX4_piece_154 : decode cX4_piece 154 = .ok (.getfield 13, 3) := by decide +kernel
theorem dX4_piece_157 : decode cX4_piece 157 = .ok (.iconst 1, 1) := by decide +kernel
theorem dX4_piece_158 : decode cX4_piece 158 = .ok (.isub, 1) := by decide +kernel
theorem dX4_piece_159 : decode cX4_piece 159 = .ok (.ireturn, 1) := by decide +kernel
theorem dX4_turn_0 : decode cX4_turn 0 = .ok (.aload_n 0, 1) := by decide +kernel
theorem dX4_turn_1 : decode cX4_turn 1 = .ok (.aload_n 0, 1) := by decide +kernel
theorem dX4_turn_2 : decode cX4_turn 2 = .ok (.iload_n 1, 1) := by decide +kernel
theorem dX4_turn_3 : decode cX4_turn 3 = .ok (.invokevirtual 192, 3) := by decide +kernel
theorem dX4_turn_6 : decode cX4_turn 6 = .ok (.ifCond .eq 7, 3) := by decide +kernel
theorem dX4_turn_9 : decode cX4_turn 9 = .ok (.iconst 1, 1) := by decide +kernel
theorem dX4_turn_10 : decode cX4_turn 10 = .ok (.goto 17, 3) := by decide +kernel
theorem dX4_turn_13 : decode cX4_turn 13 = .ok (.iload_n 2, 1) := by decide +kernel
theorem dX4_turn_14 : decode cX4_turn 14 = .ok (.iconst 0, 1) := by decide +kernel
theorem dX4_turn_15 : decode cX4_turn 15 = .ok (.iconst 3, 1) := by decide +kernel
theorem dX4_turn_16 : decode cX4_turn 16 = .ok (.invokestatic 188, 3) := by decide +kernel
theorem dX4_turn_19 : decode cX4_turn 19 = .ok (.ifCond .eq 7, 3) := by decide +kernel
theorem dX4_turn_22 : decode cX4_turn 22 = .ok (.iconst 2, 1) := by decide +kernel
theorem dX4_turn_23 : decode cX4_turn 23 = .ok (.goto 4, 3) := by decide +kernel
theorem dX4_turn_26 : decode cX4_turn 26 = .ok (.iconst 0, 1) := by decide +kernel
theorem dX4_turn_27 : decode cX4_turn 27 = .ok (.putfield 7, 3) := by decide +kernel
theorem dX4_turn_30 : decode cX4_turn 30 = .ok (.aload_n 0, 1) := by decide +kernel
theorem dX4_turn_31 : decode cX4_turn 31 = .ok (.getfield 7, 3) := by decide +kernel
theorem dX4_turn_34 : decode cX4_turn 34 = .ok (.ifCond .eq 5, 3) := by decide +kernel
theorem dX4_turn_37 : decode cX4_turn 37 = .ok (.iconst 0, 1) := by decide +kernel
theorem dX4_turn_38 : decode cX4_turn 38 = .ok (.ireturn, 1) := by decide +kernel
theorem dX4_turn_39 : decode cX4_turn 39 = .ok (.aload_n 0, 1) := by decide +kernel
theorem dX4_turn_40 : decode cX4_turn 40 = .ok (.getfield 23, 3) := by decide +kernel
theorem dX4_turn_43 : decode cX4_turn 43 = .ok (.iload_n 1, 1) := by decide +kernel
theorem dX4_turn_44 : decode cX4_turn 44 = .ok (.iload_n 2, 1) := by decide +kernel
theorem dX4_turn_45 : decode cX4_turn 45 = .ok (.iastore, 1) := by decide +kernel
theorem dX4_turn_46 : decode cX4_turn 46 = .ok (.iconst 0, 1) := by decide +kernel
theorem dX4_turn_47 : decode cX4_turn 47 = .ok (.istore_n 3, 1) := by decide +kernel
theorem dX4_turn_48 : decode cX4_turn 48 = .ok (.iconst 0, 1) := by decide +kernel
theorem dX4_turn_49 : decode cX4_turn 49 = .ok (.istore 4, 2) := by decide +kernel
theorem dX4_turn_51 : decode cX4_turn 51 = .ok (.iload 4, 2) := by decide +kernel
theorem dX4_turn_53 : decode cX4_turn 53 = .ok (.bipush 6, 2) := by decide +kernel
theorem dX4_turn_55 : decode cX4_turn 55 = .ok (.if_icmp .ge 27, 3) := by decide +kernel
theorem dX4_turn_58 : decode cX4_turn 58 = .ok (.iload_n 3, 1) := by decide +kernel
theorem dX4_turn_59 : decode cX4_turn 59 = .ok (.aload_n 0, 1) := by decide +kernel
theorem dX4_turn_60 : decode cX4_turn 60 = .ok (.iload_n 1, 1) := by decide +kernel
theorem dX4_turn_61 : decode cX4_turn 61 = .ok (.iload 4, 2) := by decide +kernel
theorem dX4_turn_63 : decode cX4_turn 63 = .ok (.invokevirtual 162, 3) := by decide +kernel
theorem dX4_turn_66 : decode cX4_turn 66 = .ok (.ifCond .eq 7, 3) := by decide +kernel
theorem dX4_turn_69 : decode cX4_turn 69 = .ok (.iconst 1, 1) := by decide +kernel
theorem dX4_turn_70 : decode cX4_turn 70 = .ok (.goto 4, 3) := by decide +kernel
theorem dX4_turn_73 : decode cX4_turn 73 = .ok (.iconst 0, 1) := by decide +kernel
theorem dX4_turn_74 : decode cX4_turn 74 = .ok (.iadd, 1) := by decide +kernel
theorem dX4_turn_75 : decode cX4_turn 75 = .ok (.istore_n 3, 1) := by decide +kernel
theorem dX4_turn_76 : decode cX4_turn 76 = .ok (.iinc 4 1, 3) := by decide +kernel
theorem dX4_turn_79 : decode cX4_turn 79 = .ok (.goto (-28), 3) := by decide +kernel
theorem dX4_turn_82 : decode cX4_turn 82 = .ok (.iload_n 3, 1) := by decide +kernel
theorem dX4_turn_83 : decode cX4_turn 83 = .ok (.ireturn, 1) := by decide +kernel
theorem dX4_limit_0 : decode cX4_limit 0 = .ok (.aload_n 0, 1) := by decide +kernel
theorem dX4_limit_1 : decode cX4_limit 1 = .ok (.aload_n 0, 1) := by decide +kernel
theorem dX4_limit_2 : decode cX4_limit 2 = .ok (.iload_n 1, 1) := by decide +kernel
theorem dX4_limit_3 : decode cX4_limit 3 = .ok (.invokevirtual 192, 3) := by decide +kernel
theorem dX4_limit_6 : decode cX4_limit 6 = .ok (.ifCond .eq 7, 3) := by decide +kernel
theorem dX4_limit_9 : decode cX4_limit 9 = .ok (.iconst 1, 1) := by decide +kernel
theorem dX4_limit_10 : decode cX4_limit 10 = .ok (.goto 19, 3) := by decide +kernel
theorem dX4_limit_13 : decode cX4_limit 13 = .ok (.iload_n 2, 1) := by decide +kernel
theorem dX4_limit_14 : decode cX4_limit 14 = .ok (.iconst (-1), 1) := by decide +kernel
theorem dX4_limit_15 : decode cX4_limit 15 = .ok (.sipush 1000, 3) := by decide +kernel
theorem dX4_limit_18 : decode cX4_limit 18 = .ok (.invokestatic 188, 3) := by decide +kernel
theorem dX4_limit_21 : decode cX4_limit 21 = .ok (.ifCond .eq 7, 3) := by decide +kernel
theorem dX4_limit_24 : decode cX4_limit 24 = .ok (.iconst 2, 1) := by decide +kernel
theorem dX4_limit_25 : decode cX4_limit 25 = .ok (.goto 4, 3) := by decide +kernel
theorem dX4_limit_28 : decode cX4_limit 28 = .ok (.iconst 0, 1) := by decide +kernel
theorem dX4_limit_29 : decode cX4_limit 29 = .ok (.putfield 7, 3) := by decide +kernel
theorem dX4_limit_32 : decode cX4_limit 32 = .ok (.aload_n 0, 1) := by decide +kernel
theorem dX4_limit_33 : decode cX4_limit 33 = .ok (.getfield 7, 3) := by decide +kernel
theorem dX4_limit_36 : decode cX4_limit 36 = .ok (.ifCond .ne 10, 3) := by decide +kernel
theorem dX4_limit_39 : decode cX4_limit 39 = .ok (.aload_n 0, 1) := by decide +kernel
theorem dX4_limit_40 : decode cX4_limit 40 = .ok (.getfield 26, 3) := by decide +kernel
theorem dX4_limit_43 : decode cX4_limit 43 = .ok (.iload_n 1, 1) := by decide +kernel
theorem dX4_limit_44 : decode cX4_limit 44 = .ok (.iload_n 2, 1) := by decide +kernel
theorem dX4_limit_45 : decode cX4_limit 45 = .ok (.iastore, 1) := by decide +kernel
theorem dX4_limit_46 : decode cX4_limit 46 = .ok (.return_, 1) := by decide +kernel
theorem dX4_rank_0 : decode cX4_rank 0 = .ok (.aload_n 0, 1) := by decide +kernel
theorem dX4_rank_1 : decode cX4_rank 1 = .ok (.aload_n 0, 1) := by decide +kernel
theorem dX4_rank_2 : decode cX4_rank 2 = .ok (.iload_n 1, 1) := by decide +kernel
theorem dX4_rank_3 : decode cX4_rank 3 = .ok (.invokevirtual 192, 3) := by decide +kernel
theorem dX4_rank_6 : decode cX4_rank 6 = .ok (.ifCond .eq 7, 3) := by decide +kernel
theorem dX4_rank_9 : decode cX4_rank 9 = .ok (.iconst 1, 1) := by decide +kernel
theorem dX4_rank_10 : decode cX4_rank 10 = .ok (.goto 18, 3) := by decide +kernel
theorem dX4_rank_13 : decode cX4_rank 13 = .ok (.iload_n 2, 1) := by decide +kernel
theorem dX4_rank_14 : decode cX4_rank 14 = .ok (.iconst 0, 1) := by decide +kernel
theorem dX4_rank_15 : decode cX4_rank 15 = .ok (.bipush 9, 2) := by decide +kernel
theorem dX4_rank_17 : decode cX4_rank 17 = .ok (.invokestatic 188, 3) := by decide +kernel
theorem dX4_rank_20 : decode cX4_rank 20 = .ok (.ifCond .eq 7, 3) := by decide +kernel
theorem dX4_rank_23 : decode cX4_rank 23 = .ok (.iconst 2, 1) := by decide +kernel
theorem dX4_rank_24 : decode cX4_rank 24 = .ok (.goto 4, 3) := by decide +kernel
theorem dX4_rank_27 : decode cX4_rank 27 = .ok (.iconst 0, 1) := by decide +kernel
theorem dX4_rank_28 : decode cX4_rank 28 = .ok (.putfield 7, 3) := by decide +kernel
theorem dX4_rank_31 : decode cX4_rank 31 = .ok (.aload_n 0, 1) := by decide +kernel
theorem dX4_rank_32 : decode cX4_rank 32 = .ok (.getfield 7, 3) := by decide +kernel
theorem dX4_rank_35 : decode cX4_rank 35 = .ok (.ifCond .eq 5, 3) := by decide +kernel
theorem dX4_rank_38 : decode cX4_rank 38 = .ok (.iconst 0, 1) := by decide +kernel
theorem dX4_rank_39 : decode cX4_rank 39 = .ok (.ireturn, 1) := by decide +kernel
theorem dX4_rank_40 : decode cX4_rank 40 = .ok (.aload_n 0, 1) := by decide +kernel
theorem dX4_rank_41 : decode cX4_rank 41 = .ok (.getfield 29, 3) := by decide +kernel
theorem dX4_rank_44 : decode cX4_rank 44 = .ok (.iload_n 1, 1) := by decide +kernel
theorem dX4_rank_45 : decode cX4_rank 45 = .ok (.iload_n 2, 1) := by decide +kernel
theorem dX4_rank_46 : decode cX4_rank 46 = .ok (.iastore, 1) := by decide +kernel
theorem dX4_rank_47 : decode cX4_rank 47 = .ok (.aload_n 0, 1) := by decide +kernel
theorem dX4_rank_48 : decode cX4_rank 48 = .ok (.invokevirtual 195, 3) := by decide +kernel
theorem dX4_rank_51 : decode cX4_rank 51 = .ok (.iconst 0, 1) := by decide +kernel
theorem dX4_rank_52 : decode cX4_rank 52 = .ok (.istore_n 3, 1) := by decide +kernel
theorem dX4_rank_53 : decode cX4_rank 53 = .ok (.iload_n 3, 1) := by decide +kernel
theorem dX4_rank_54 : decode cX4_rank 54 = .ok (.aload_n 0, 1) := by decide +kernel
theorem dX4_rank_55 : decode cX4_rank 55 = .ok (.getfield 87, 3) := by decide +kernel
theorem dX4_rank_58 : decode cX4_rank 58 = .ok (.if_icmp .ge 21, 3) := by decide +kernel
theorem dX4_rank_61 : decode cX4_rank 61 = .ok (.aload_n 0, 1) := by decide +kernel
theorem dX4_rank_62 : decode cX4_rank 62 = .ok (.getfield 90, 3) := by decide +kernel
theorem dX4_rank_65 : decode cX4_rank 65 = .ok (.iload_n 3, 1) := by decide +kernel
theorem dX4_rank_66 : decode cX4_rank 66 = .ok (.iaload, 1) := by decide +kernel
theorem dX4_rank_67 : decode cX4_rank 67 = .ok (.iload_n 1, 1) := by decide +kernel
theorem dX4_rank_68 : decode cX4_rank 68 = .ok (.if_icmp .ne 5, 3) := by decide +kernel
theorem dX4_rank_71 : decode cX4_rank 71 = .ok (.iload_n 3, 1) := by decide +kernel
theorem dX4_rank_72 : decode cX4_rank 72 = .ok (.ireturn, 1) := by decide +kernel
theorem dX4_rank_73 : decode cX4_rank 73 = .ok (.iinc 3 1, 3) := by decide +kernel
theorem dX4_rank_76 : decode cX4_rank 76 = .ok (.goto (-23), 3) := by decide +kernel
theorem dX4_rank_79 : decode cX4_rank 79 = .ok (.iconst (-1), 1) := by decide +kernel
theorem dX4_rank_80 : decode cX4_rank 80 = .ok (.ireturn, 1) := by decide +kernel
theorem dX4_share_0 : decode cX4_share 0 = .ok (.aload_n 0, 1) := by decide +kernel
theorem dX4_share_1 : decode cX4_share 1 = .ok (.iload_n 1, 1) := by decide +kernel
theorem dX4_share_2 : decode cX4_share 2 = .ok (.iconst 0, 1) := by decide +kernel
theorem dX4_share_3 : decode cX4_share 3 = .ok (.bipush 100, 2) := by decide +kernel
theorem dX4_share_5 : decode cX4_share 5 = .ok (.invokestatic 188, 3) := by decide +kernel
theorem dX4_share_8 : decode cX4_share 8 = .ok (.ifCond .eq 7, 3) := by decide +kernel
theorem dX4_share_11 : decode cX4_share 11 = .ok (.iconst 1, 1) := by decide +kernel
theorem dX4_share_12 : decode cX4_share 12 = .ok (.goto 4, 3) := by decide +kernel
theorem dX4_share_15 : decode cX4_share 15 = .ok (.iconst 0, 1) := by decide +kernel
theorem dX4_share_16 : decode cX4_share 16 = .ok (.putfield 7, 3) := by decide +kernel
theorem dX4_share_19 : decode cX4_share 19 = .ok (.aload_n 0, 1) := by decide +kernel
theorem dX4_share_20 : decode cX4_share 20 = .ok (.getfield 7, 3) := by decide +kernel
theorem dX4_share_23 : decode cX4_share 23 = .ok (.ifCond .ne 8, 3) := by decide +kernel
theorem dX4_share_26 : decode cX4_share 26 = .ok (.aload_n 0, 1) := by decide +kernel
theorem dX4_share_27 : decode cX4_share 27 = .ok (.iload_n 1, 1) := by decide +kernel
theorem dX4_share_28 : decode cX4_share 28 = .ok (.putfield 35, 3) := by decide +kernel
theorem dX4_share_31 : decode cX4_share 31 = .ok (.return_, 1) := by decide +kernel
theorem dX4_solve_0 : decode cX4_solve 0 = .ok (.aload_n 0, 1) := by decide +kernel
theorem dX4_solve_1 : decode cX4_solve 1 = .ok (.iload_n 1, 1) := by decide +kernel
theorem dX4_solve_2 : decode cX4_solve 2 = .ok (.iconst 0, 1) := by decide +kernel
theorem dX4_solve_3 : decode cX4_solve 3 = .ok (.sipush 3000, 3) := by decide +kernel
theorem dX4_solve_6 : decode cX4_solve 6 = .ok (.invokestatic 188, 3) := by decide +kernel
theorem dX4_solve_9 : decode cX4_solve 9 = .ok (.ifCond .eq 7, 3) := by decide +kernel
theorem dX4_solve_12 : decode cX4_solve 12 = .ok (.iconst 1, 1) := by decide +kernel
theorem dX4_solve_13 : decode cX4_solve 13 = .ok (.goto 4, 3) := by decide +kernel
theorem dX4_solve_16 : decode cX4_solve 16 = .ok (.iconst 0, 1) := by decide +kernel
theorem dX4_solve_17 : decode cX4_solve 17 = .ok (.putfield 7, 3) := by decide +kernel
theorem dX4_solve_20 : decode cX4_solve 20 = .ok (.aload_n 0, 1) := by decide +kernel
theorem dX4_solve_21 : decode cX4_solve 21 = .ok (.getfield 7, 3) := by decide +kernel
theorem dX4_solve_24 : decode cX4_solve 24 = .ok (.ifCond .eq 5, 3) := by decide +kernel
theorem dX4_solve_27 : decode cX4_solve 27 = .ok (.iconst 0, 1) := by decide +kernel
theorem dX4_solve_28 : decode cX4_solve 28 = .ok (.ireturn, 1) := by decide +kernel
theorem dX4_solve_29 : decode cX4_solve 29 = .ok (.iconst 0, 1) := by decide +kernel
theorem dX4_solve_30 : decode cX4_solve 30 = .ok (.istore_n 2, 1) := by decide +kernel
theorem dX4_solve_31 : decode cX4_solve 31 = .ok (.iload_n 2, 1) := by decide +kernel
theorem dX4_solve_32 : decode cX4_solve 32 = .ok (.bipush 6, 2) := by decide +kernel
theorem dX4_solve_34 : decode cX4_solve 34 = .ok (.if_icmp .ge 16, 3) := by decide +kernel
theorem dX4_solve_37 : decode cX4_solve 37 = .ok (.aload_n 0, 1) := by decide +kernel
theorem dX4_solve_38 : decode cX4_solve 38 = .ok (.getfield 41, 3) := by decide +kernel
theorem dX4_solve_41 : decode cX4_solve 41 = .ok (.iload_n 2, 1) := by decide +kernel
theorem dX4_solve_42 : decode cX4_solve 42 = .ok (.iconst (-1), 1) := by decide +kernel
theorem dX4_solve_43 : decode cX4_solve 43 = .ok (.iastore, 1) := by decide +kernel
theorem dX4_solve_44 : decode cX4_solve 44 = .ok (.iinc 2 1, 3) := by decide +kernel
theorem dX4_solve_47 : decode cX4_solve 47 = .ok (.goto (-16), 3) := by decide +kernel
theorem dX4_solve_50 : decode cX4_solve 50 = .ok (.aload_n 0, 1) := by decide +kernel
theorem dX4_solve_51 : decode cX4_solve 51 = .ok (.invokevirtual 195, 3) := by decide +kernel
theorem dX4_solve_54 : decode cX4_solve 54 = .ok (.aload_n 0, 1) := by decide +kernel
theorem dX4_solve_55 : decode cX4_solve 55 = .ok (.iconst 0, 1) := by decide +kernel
theorem dX4_solve_56 : decode cX4_solve 56 = .ok (.putfield 62, 3) := by decide +kernel
theorem dX4_solve_59 : decode cX4_solve 59 = .ok (.aload_n 0, 1) := by decide +kernel
theorem dX4_solve_60 : decode cX4_solve 60 = .ok (.iconst 0, 1) := by decide +kernel
theorem dX4_solve_61 : decode cX4_solve 61 = .ok (.putfield 66, 3) := by decide +kernel
theorem dX4_solve_64 : decode cX4_solve 64 = .ok (.aload_n 0, 1) := by decide +kernel
theorem dX4_solve_65 : decode cX4_solve 65 = .ok (.iconst 0, 1) := by decide +kernel
theorem dX4_solve_66 : decode cX4_solve 66 = .ok (.putfield 81, 3) := by decide +kernel
theorem dX4_solve_69 : decode cX4_solve 69 = .ok (.iconst 0, 1) := by decide +kernel
theorem dX4_solve_70 : decode cX4_solve 70 = .ok (.istore_n 2, 1) := by decide +kernel
theorem dX4_solve_71 : decode cX4_solve 71 = .ok (.iload_n 2, 1) := by decide +kernel
theorem dX4_solve_72 : decode cX4_solve 72 = .ok (.bipush 6, 2) := by decide +kernel
theorem dX4_solve_74 : decode cX4_solve 74 = .ok (.if_icmp .ge 16, 3) := by decide +kernel
theorem dX4_solve_77 : decode cX4_solve 77 = .ok (.aload_n 0, 1) := by decide +kernel
theorem dX4_solve_78 : decode cX4_solve 78 = .ok (.getfield 69, 3) := by decide +kernel
theorem dX4_solve_81 : decode cX4_solve 81 = .ok (.iload_n 2, 1) := by decide +kernel
theorem dX4_solve_82 : decode cX4_solve 82 = .ok (.iconst (-1), 1) := by decide +kernel
theorem dX4_solve_83 : decode cX4_solve 83 = .ok (.iastore, 1) := by decide +kernel
theorem dX4_solve_84 : decode cX4_solve 84 = .ok (.iinc 2 1, 3) := by decide +kernel
theorem dX4_solve_87 : decode cX4_solve 87 = .ok (.goto (-16), 3) := by decide +kernel
theorem dX4_solve_90 : decode cX4_solve 90 = .ok (.aload_n 0, 1) := by decide +kernel
theorem dX4_solve_91 : decode cX4_solve 91 = .ok (.aload_n 0, 1) := by decide +kernel
theorem dX4_solve_92 : decode cX4_solve 92 = .ok (.iload_n 1, 1) := by decide +kernel
theorem dX4_solve_93 : decode cX4_solve 93 = .ok (.invokevirtual 198, 3) := by decide +kernel
theorem dX4_solve_96 : decode cX4_solve 96 = .ok (.putfield 84, 3) := by decide +kernel
theorem dX4_solve_99 : decode cX4_solve 99 = .ok (.iconst 0, 1) := by decide +kernel
theorem dX4_solve_100 : decode cX4_solve 100 = .ok (.istore_n 2, 1) := by decide +kernel
theorem dX4_solve_101 : decode cX4_solve 101 = .ok (.iload_n 2, 1) := by decide +kernel
theorem dX4_solve_102 : decode cX4_solve 102 = .ok (.bipush 6, 2) := by decide +kernel
theorem dX4_solve_104 : decode cX4_solve 104 = .ok (.if_icmp .ge 54, 3) := by decide +kernel
theorem dX4_solve_107 : decode cX4_solve 107 = .ok (.aload_n 0, 1) := by decide +kernel
theorem dX4_solve_108 : decode cX4_solve 108 = .ok (.getfield 41, 3) := by decide +kernel
theorem dX4_solve_111 : decode cX4_solve 111 = .ok (.iload_n 2, 1) := by decide +kernel
theorem dX4_solve_112 : decode cX4_solve 112 = .ok (.iconst (-1), 1) := by decide +kernel
theorem dX4_solve_113 : decode cX4_solve 113 = .ok (.iastore, 1) := by decide +kernel
theorem dX4_solve_114 : decode cX4_solve 114 = .ok (.aload_n 0, 1) := by decide +kernel
theorem dX4_solve_115 : decode cX4_solve 115 = .ok (.getfield 69, 3) := by decide +kernel
theorem dX4_solve_118 : decode cX4_solve 118 = .ok (.iload_n 2, 1) := by decide +kernel
theorem dX4_solve_119 : decode cX4_solve 119 = .ok (.iaload, 1) := by decide +kernel
theorem dX4_solve_120 : decode cX4_solve 120 = .ok (.ifCond .lt 32, 3) := by decide +kernel
theorem dX4_solve_123 : decode cX4_solve 123 = .ok (.aload_n 0, 1) := by decide +kernel
theorem dX4_solve_124 : decode cX4_solve 124 = .ok (.iload_n 2, 1) := by decide +kernel
theorem dX4_solve_125 : decode cX4_solve 125 = .ok (.aload_n 0, 1) := by decide +kernel
theorem dX4_solve_126 : decode cX4_solve 126 = .ok (.getfield 69, 3) := by decide +kernel
theorem dX4_solve_129 : decode cX4_solve 129 = .ok (.iload_n 2, 1) := by decide +kernel
theorem dX4_solve_130 : decode cX4_solve 130 = .ok (.iaload, 1) := by decide +kernel
theorem dX4_solve_131 : decode cX4_solve 131 = .ok (.aload_n 0, 1) := by decide +kernel
theorem dX4_solve_132 : decode cX4_solve 132 = .ok (.getfield 72, 3) := by decide +kernel
theorem dX4_solve_135 : decode cX4_solve 135 = .ok (.iload_n 2, 1) := by decide +kernel
theorem dX4_solve_136 : decode cX4_solve 136 = .ok (.iaload, 1) := by decide +kernel
theorem dX4_solve_137 : decode cX4_solve 137 = .ok (.aload_n 0, 1) := by decide +kernel
theorem dX4_solve_138 : decode cX4_solve 138 = .ok (.getfield 75, 3) := by decide +kernel
theorem dX4_solve_141 : decode cX4_solve 141 = .ok (.iload_n 2, 1) := by decide +kernel
theorem dX4_solve_142 : decode cX4_solve 142 = .ok (.iaload, 1) := by decide +kernel
theorem dX4_solve_143 : decode cX4_solve 143 = .ok (.aload_n 0, 1) := by decide +kernel
theorem dX4_solve_144 : decode cX4_solve 144 = .ok (.getfield 78, 3) := by decide +kernel
theorem dX4_solve_147 : decode cX4_solve 147 = .ok (.iload_n 2, 1) := by decide +kernel
theorem dX4_solve_148 : decode cX4_solve 148 = .ok (.iaload, 1) := by decide +kernel
theorem dX4_solve_149 : decode cX4_solve 149 = .ok (.invokevirtual 180, 3) := by decide +kernel
theorem dX4_solve_152 : decode cX4_solve 152 = .ok (.iinc 2 1, 3) := by decide +kernel
theorem dX4_solve_155 : decode cX4_solve 155 = .ok (.goto (-54), 3) := by decide +kernel
theorem dX4_solve_158 : decode cX4_solve 158 = .ok (.aload_n 0, 1) := by decide +kernel
theorem dX4_solve_159 : decode cX4_solve 159 = .ok (.getfield 66, 3) := by decide +kernel
theorem dX4_solve_162 : decode cX4_solve 162 = .ok (.ireturn, 1) := by decide +kernel
theorem dX4_exact_0 : decode cX4_exact 0 = .ok (.aload_n 0, 1) := by decide +kernel
theorem dX4_exact_1 : decode cX4_exact 1 = .ok (.iconst 0, 1) := by decide +kernel
theorem dX4_exact_2 : decode cX4_exact 2 = .ok (.putfield 7, 3) := by decide +kernel
theorem dX4_exact_5 : decode cX4_exact 5 = .ok (.aload_n 0, 1) := by decide +kernel
theorem dX4_exact_6 : decode cX4_exact 6 = .ok (.getfield 84, 3) := by decide +kernel
theorem dX4_exact_9 : decode cX4_exact 9 = .ok (.ireturn, 1) := by decide +kernel
theorem dX4_steps_0 : decode cX4_steps 0 = .ok (.aload_n 0, 1) := by decide +kernel
theorem dX4_steps_1 : decode cX4_steps 1 = .ok (.iconst 0, 1) := by decide +kernel
theorem dX4_steps_2 : decode cX4_steps 2 = .ok (.putfield 7, 3) := by decide +kernel
theorem dX4_steps_5 : decode cX4_steps 5 = .ok (.aload_n 0, 1) := by decide +kernel
theorem dX4_steps_6 : decode cX4_steps 6 = .ok (.getfield 81, 3) := by decide +kernel
theorem dX4_steps_9 : decode cX4_steps 9 = .ok (.ireturn, 1) := by decide +kernel
theorem dX4_goesIn_0 : decode cX4_goesIn 0 = .ok (.iconst 0, 1) := by decide +kernel
theorem dX4_goesIn_1 : decode cX4_goesIn 1 = .ok (.istore_n 2, 1) := by decide +kernel
theorem dX4_goesIn_2 : decode cX4_goesIn 2 = .ok (.iload_n 2, 1) := by decide +kernel
theorem dX4_goesIn_3 : decode cX4_goesIn 3 = .ok (.bipush 6, 2) := by decide +kernel
theorem dX4_goesIn_5 : decode cX4_goesIn 5 = .ok (.if_icmp .ge 62, 3) := by decide +kernel
theorem dX4_goesIn_8 : decode cX4_goesIn 8 = .ok (.aload_n 0, 1) := by decide +kernel
theorem dX4_goesIn_9 : decode cX4_goesIn 9 = .ok (.iload_n 1, 1) := by decide +kernel
theorem dX4_goesIn_10 : decode cX4_goesIn 10 = .ok (.iload_n 2, 1) := by decide +kernel
theorem dX4_goesIn_11 : decode cX4_goesIn 11 = .ok (.invokevirtual 162, 3) := by decide +kernel
theorem dX4_goesIn_14 : decode cX4_goesIn 14 = .ok (.ifCond .eq 47, 3) := by decide +kernel
theorem dX4_goesIn_17 : decode cX4_goesIn 17 = .ok (.aload_n 0, 1) := by decide +kernel
theorem dX4_goesIn_18 : decode cX4_goesIn 18 = .ok (.iload_n 1, 1) := by decide +kernel
theorem dX4_goesIn_19 : decode cX4_goesIn 19 = .ok (.iload_n 2, 1) := by decide +kernel
theorem dX4_goesIn_20 : decode cX4_goesIn 20 = .ok (.iconst 0, 1) := by decide +kernel
theorem dX4_goesIn_21 : decode cX4_goesIn 21 = .ok (.invokevirtual 135, 3) := by decide +kernel
theorem dX4_goesIn_24 : decode cX4_goesIn 24 = .ok (.aload_n 0, 1) := by decide +kernel
theorem dX4_goesIn_25 : decode cX4_goesIn 25 = .ok (.getfield 118, 3) := by decide +kernel
theorem dX4_goesIn_28 : decode cX4_goesIn 28 = .ok (.if_icmp .gt 33, 3) := by decide +kernel
theorem dX4_goesIn_31 : decode cX4_goesIn 31 = .ok (.aload_n 0, 1) := by decide +kernel
theorem dX4_goesIn_32 : decode cX4_goesIn 32 = .ok (.iload_n 1, 1) := by decide +kernel
theorem dX4_goesIn_33 : decode cX4_goesIn 33 = .ok (.iload_n 2, 1) := by decide +kernel
theorem dX4_goesIn_34 : decode cX4_goesIn 34 = .ok (.iconst 1, 1) := by decide +kernel
theorem dX4_goesIn_35 : decode cX4_goesIn 35 = .ok (.invokevirtual 135, 3) := by decide +kernel
theorem dX4_goesIn_38 : decode cX4_goesIn 38 = .ok (.aload_n 0, 1) := by decide +kernel
theorem dX4_goesIn_39 : decode cX4_goesIn 39 = .ok (.getfield 121, 3) := by decide +kernel
theorem dX4_goesIn_42 : decode cX4_goesIn 42 = .ok (.if_icmp .gt 19, 3) := by decide +kernel
theorem dX4_goesIn_45 : decode cX4_goesIn 45 = .ok (.aload_n 0, 1) := by decide +kernel
theorem dX4_goesIn_46 : decode cX4_goesIn 46 = .ok (.iload_n 1, 1) := by decide +kernel
theorem dX4_goesIn_47 : decode cX4_goesIn 47 = .ok (.iload_n 2, 1) := by decide +kernel
theorem dX4_goesIn_48 : decode cX4_goesIn 48 = .ok (.iconst 2, 1) := by decide +kernel
theorem dX4_goesIn_49 : decode cX4_goesIn 49 = .ok (.invokevirtual 135, 3) := by decide +kernel
theorem dX4_goesIn_52 : decode cX4_goesIn 52 = .ok (.aload_n 0, 1) := by decide +kernel
theorem dX4_goesIn_53 : decode cX4_goesIn 53 = .ok (.getfield 124, 3) := by decide +kernel
theorem dX4_goesIn_56 : decode cX4_goesIn 56 = .ok (.if_icmp .gt 5, 3) := by decide +kernel
theorem dX4_goesIn_59 : decode cX4_goesIn 59 = .ok (.iconst 1, 1) := by decide +kernel
theorem dX4_goesIn_60 : decode cX4_goesIn 60 = .ok (.ireturn, 1) := by decide +kernel
theorem dX4_goesIn_61 : decode cX4_goesIn 61 = .ok (.iinc 2 1, 3) := by decide +kernel
theorem dX4_goesIn_64 : decode cX4_goesIn 64 = .ok (.goto (-62), 3) := by decide +kernel
theorem dX4_goesIn_67 : decode cX4_goesIn 67 = .ok (.iconst 0, 1) := by decide +kernel
theorem dX4_goesIn_68 : decode cX4_goesIn 68 = .ok (.ireturn, 1) := by decide +kernel
theorem dX4_bound_0 : decode cX4_bound 0 = .ok (.aload_n 0, 1) := by decide +kernel
theorem dX4_bound_1 : decode cX4_bound 1 = .ok (.iconst 0, 1) := by decide +kernel
theorem dX4_bound_2 : decode cX4_bound 2 = .ok (.putfield 7, 3) := by decide +kernel
theorem dX4_bound_5 : decode cX4_bound 5 = .ok (.iconst 0, 1) := by decide +kernel
theorem dX4_bound_6 : decode cX4_bound 6 = .ok (.istore_n 1, 1) := by decide +kernel
theorem dX4_bound_7 : decode cX4_bound 7 = .ok (.iconst 0, 1) := by decide +kernel
theorem dX4_bound_8 : decode cX4_bound 8 = .ok (.istore_n 2, 1) := by decide +kernel
theorem dX4_bound_9 : decode cX4_bound 9 = .ok (.iload_n 2, 1) := by decide +kernel
theorem dX4_bound_10 : decode cX4_bound 10 = .ok (.aload_n 0, 1) := by decide +kernel
theorem dX4_bound_11 : decode cX4_bound 11 = .ok (.getfield 13, 3) := by decide +kernel
theorem dX4_bound_14 : decode cX4_bound 14 = .ok (.if_icmp .ge 38, 3) := by decide +kernel
theorem dX4_bound_17 : decode cX4_bound 17 = .ok (.iload_n 1, 1) := by decide +kernel
theorem dX4_bound_18 : decode cX4_bound 18 = .ok (.aload_n 0, 1) := by decide +kernel
theorem dX4_bound_19 : decode cX4_bound 19 = .ok (.getfield 32, 3) := by decide +kernel
theorem dX4_bound_22 : decode cX4_bound 22 = .ok (.iload_n 2, 1) := by decide +kernel
theorem dX4_bound_23 : decode cX4_bound 23 = .ok (.iaload, 1) := by decide +kernel
theorem dX4_bound_24 : decode cX4_bound 24 = .ok (.ifCond .ge 19, 3) := by decide +kernel
theorem dX4_bound_27 : decode cX4_bound 27 = .ok (.aload_n 0, 1) := by decide +kernel
theorem dX4_bound_28 : decode cX4_bound 28 = .ok (.iload_n 2, 1) := by decide +kernel
theorem dX4_bound_29 : decode cX4_bound 29 = .ok (.invokevirtual 201, 3) := by decide +kernel
theorem dX4_bound_32 : decode cX4_bound 32 = .ok (.ifCond .eq 11, 3) := by decide +kernel
theorem dX4_bound_35 : decode cX4_bound 35 = .ok (.aload_n 0, 1) := by decide +kernel
theorem dX4_bound_36 : decode cX4_bound 36 = .ok (.iload_n 2, 1) := by decide +kernel
theorem dX4_bound_37 : decode cX4_bound 37 = .ok (.invokevirtual 155, 3) := by decide +kernel
theorem dX4_bound_40 : decode cX4_bound 40 = .ok (.goto 4, 3) := by decide +kernel
theorem dX4_bound_43 : decode cX4_bound 43 = .ok (.iconst 0, 1) := by decide +kernel
theorem dX4_bound_44 : decode cX4_bound 44 = .ok (.iadd, 1) := by decide +kernel
theorem dX4_bound_45 : decode cX4_bound 45 = .ok (.istore_n 1, 1) := by decide +kernel
theorem dX4_bound_46 : decode cX4_bound 46 = .ok (.iinc 2 1, 3) := by decide +kernel
theorem dX4_bound_49 : decode cX4_bound 49 = .ok (.goto (-40), 3) := by decide +kernel
theorem dX4_bound_52 : decode cX4_bound 52 = .ok (.aload_n 0, 1) := by decide +kernel
theorem dX4_bound_53 : decode cX4_bound 53 = .ok (.getfield 118, 3) := by decide +kernel
theorem dX4_bound_56 : decode cX4_bound 56 = .ok (.aload_n 0, 1) := by decide +kernel
theorem dX4_bound_57 : decode cX4_bound 57 = .ok (.getfield 121, 3) := by decide +kernel
theorem dX4_bound_60 : decode cX4_bound 60 = .ok (.imul, 1) := by decide +kernel
theorem dX4_bound_61 : decode cX4_bound 61 = .ok (.aload_n 0, 1) := by decide +kernel
theorem dX4_bound_62 : decode cX4_bound 62 = .ok (.getfield 124, 3) := by decide +kernel
theorem dX4_bound_65 : decode cX4_bound 65 = .ok (.imul, 1) := by decide +kernel
theorem dX4_bound_66 : decode cX4_bound 66 = .ok (.istore_n 2, 1) := by decide +kernel
theorem dX4_bound_67 : decode cX4_bound 67 = .ok (.iload_n 1, 1) := by decide +kernel
theorem dX4_bound_68 : decode cX4_bound 68 = .ok (.iload_n 2, 1) := by decide +kernel
theorem dX4_bound_69 : decode cX4_bound 69 = .ok (.if_icmp .ge 7, 3) := by decide +kernel
theorem dX4_bound_72 : decode cX4_bound 72 = .ok (.iload_n 1, 1) := by decide +kernel
theorem dX4_bound_73 : decode cX4_bound 73 = .ok (.goto 4, 3) := by decide +kernel
theorem dX4_bound_76 : decode cX4_bound 76 = .ok (.iload_n 2, 1) := by decide +kernel
theorem dX4_bound_77 : decode cX4_bound 77 = .ok (.ireturn, 1) := by decide +kernel
theorem dX4_at_0 : decode cX4_at 0 = .ok (.aload_n 0, 1) := by decide +kernel
theorem dX4_at_1 : decode cX4_at 1 = .ok (.aload_n 0, 1) := by decide +kernel
theorem dX4_at_2 : decode cX4_at 2 = .ok (.iload_n 1, 1) := by decide +kernel
theorem dX4_at_3 : decode cX4_at 3 = .ok (.invokevirtual 192, 3) := by decide +kernel
theorem dX4_at_6 : decode cX4_at 6 = .ok (.ifCond .eq 7, 3) := by decide +kernel
theorem dX4_at_9 : decode cX4_at 9 = .ok (.iconst 1, 1) := by decide +kernel
theorem dX4_at_10 : decode cX4_at 10 = .ok (.goto 18, 3) := by decide +kernel
theorem dX4_at_13 : decode cX4_at 13 = .ok (.iload_n 2, 1) := by decide +kernel
theorem dX4_at_14 : decode cX4_at 14 = .ok (.iconst 0, 1) := by decide +kernel
theorem dX4_at_15 : decode cX4_at 15 = .ok (.bipush 6, 2) := by decide +kernel
theorem dX4_at_17 : decode cX4_at 17 = .ok (.invokestatic 188, 3) := by decide +kernel
theorem dX4_at_20 : decode cX4_at 20 = .ok (.ifCond .eq 7, 3) := by decide +kernel
theorem dX4_at_23 : decode cX4_at 23 = .ok (.iconst 2, 1) := by decide +kernel
theorem dX4_at_24 : decode cX4_at 24 = .ok (.goto 4, 3) := by decide +kernel
theorem dX4_at_27 : decode cX4_at 27 = .ok (.iconst 0, 1) := by decide +kernel
theorem dX4_at_28 : decode cX4_at 28 = .ok (.putfield 7, 3) := by decide +kernel
theorem dX4_at_31 : decode cX4_at 31 = .ok (.aload_n 0, 1) := by decide +kernel
theorem dX4_at_32 : decode cX4_at 32 = .ok (.getfield 7, 3) := by decide +kernel
theorem dX4_at_35 : decode cX4_at 35 = .ok (.ifCond .eq 5, 3) := by decide +kernel
theorem dX4_at_38 : decode cX4_at 38 = .ok (.iconst 0, 1) := by decide +kernel
theorem dX4_at_39 : decode cX4_at 39 = .ok (.ireturn, 1) := by decide +kernel
theorem dX4_at_40 : decode cX4_at 40 = .ok (.aload_n 0, 1) := by decide +kernel
theorem dX4_at_41 : decode cX4_at 41 = .ok (.getfield 41, 3) := by decide +kernel
theorem dX4_at_44 : decode cX4_at 44 = .ok (.iload_n 1, 1) := by decide +kernel
theorem dX4_at_45 : decode cX4_at 45 = .ok (.iaload, 1) := by decide +kernel
theorem dX4_at_46 : decode cX4_at 46 = .ok (.ifCond .ge 5, 3) := by decide +kernel
theorem dX4_at_49 : decode cX4_at 49 = .ok (.iconst (-1), 1) := by decide +kernel
theorem dX4_at_50 : decode cX4_at 50 = .ok (.ireturn, 1) := by decide +kernel
theorem dX4_at_51 : decode cX4_at 51 = .ok (.iload_n 2, 1) := by decide +kernel
theorem dX4_at_52 : decode cX4_at 52 = .ok (.tableswitch 82 0 5 #[40, 47, 54, 61, 68, 75], 40) := by decide +kernel
theorem dX4_at_92 : decode cX4_at 92 = .ok (.aload_n 0, 1) := by decide +kernel
theorem dX4_at_93 : decode cX4_at 93 = .ok (.getfield 44, 3) := by decide +kernel
theorem dX4_at_96 : decode cX4_at 96 = .ok (.iload_n 1, 1) := by decide +kernel
theorem dX4_at_97 : decode cX4_at 97 = .ok (.iaload, 1) := by decide +kernel
theorem dX4_at_98 : decode cX4_at 98 = .ok (.ireturn, 1) := by decide +kernel
theorem dX4_at_99 : decode cX4_at 99 = .ok (.aload_n 0, 1) := by decide +kernel
theorem dX4_at_100 : decode cX4_at 100 = .ok (.getfield 47, 3) := by decide +kernel
theorem dX4_at_103 : decode cX4_at 103 = .ok (.iload_n 1, 1) := by decide +kernel
theorem dX4_at_104 : decode cX4_at 104 = .ok (.iaload, 1) := by decide +kernel
theorem dX4_at_105 : decode cX4_at 105 = .ok (.ireturn, 1) := by decide +kernel
theorem dX4_at_106 : decode cX4_at 106 = .ok (.aload_n 0, 1) := by decide +kernel
theorem dX4_at_107 : decode cX4_at 107 = .ok (.getfield 50, 3) := by decide +kernel
theorem dX4_at_110 : decode cX4_at 110 = .ok (.iload_n 1, 1) := by decide +kernel
theorem dX4_at_111 : decode cX4_at 111 = .ok (.iaload, 1) := by decide +kernel
theorem dX4_at_112 : decode cX4_at 112 = .ok (.ireturn, 1) := by decide +kernel
theorem dX4_at_113 : decode cX4_at 113 = .ok (.aload_n 0, 1) := by decide +kernel
theorem dX4_at_114 : decode cX4_at 114 = .ok (.getfield 53, 3) := by decide +kernel
theorem dX4_at_117 : decode cX4_at 117 = .ok (.iload_n 1, 1) := by decide +kernel
theorem dX4_at_118 : decode cX4_at 118 = .ok (.iaload, 1) := by decide +kernel
theorem dX4_at_119 : decode cX4_at 119 = .ok (.ireturn, 1) := by decide +kernel
theorem dX4_at_120 : decode cX4_at 120 = .ok (.aload_n 0, 1) := by decide +kernel
theorem dX4_at_121 : decode cX4_at 121 = .ok (.getfield 56, 3) := by decide +kernel
theorem dX4_at_124 : decode cX4_at 124 = .ok (.iload_n 1, 1) := by decide +kernel
theorem dX4_at_125 : decode cX4_at 125 = .ok (.iaload, 1) := by decide +kernel
theorem dX4_at_126 : decode cX4_at 126 = .ok (.ireturn, 1) := by decide +kernel
theorem dX4_at_127 : decode cX4_at 127 = .ok (.aload_n 0, 1) := by decide +kernel
theorem dX4_at_128 : decode cX4_at 128 = .ok (.getfield 59, 3) := by decide +kernel
theorem dX4_at_131 : decode cX4_at 131 = .ok (.iload_n 1, 1) := by decide +kernel
theorem dX4_at_132 : decode cX4_at 132 = .ok (.iaload, 1) := by decide +kernel
theorem dX4_at_133 : decode cX4_at 133 = .ok (.ireturn, 1) := by decide +kernel
theorem dX4_at_134 : decode cX4_at 134 = .ok (.aload_n 0, 1) := by decide +kernel
theorem dX4_at_135 : decode cX4_at 135 = .ok (.getfield 41, 3) := by decide +kernel
theorem dX4_at_138 : decode cX4_at 138 = .ok (.iload_n 1, 1) := by decide +kernel
theorem dX4_at_139 : decode cX4_at 139 = .ok (.iaload, 1) := by decide +kernel
theorem dX4_at_140 : decode cX4_at 140 = .ok (.ireturn, 1) := by decide +kernel
theorem dX4_over_0 : decode cX4_over 0 = .ok (.aload_n 0, 1) := by decide +kernel
theorem dX4_over_1 : decode cX4_over 1 = .ok (.aload_n 0, 1) := by decide +kernel
theorem dX4_over_2 : decode cX4_over 2 = .ok (.iload_n 1, 1) := by decide +kernel
theorem dX4_over_3 : decode cX4_over 3 = .ok (.invokevirtual 192, 3) := by decide +kernel
theorem dX4_over_6 : decode cX4_over 6 = .ok (.ifCond .ne 11, 3) := by decide +kernel
theorem dX4_over_9 : decode cX4_over 9 = .ok (.aload_n 0, 1) := by decide +kernel
theorem dX4_over_10 : decode cX4_over 10 = .ok (.iload_n 2, 1) := by decide +kernel
theorem dX4_over_11 : decode cX4_over 11 = .ok (.invokevirtual 192, 3) := by decide +kernel
theorem dX4_over_14 : decode cX4_over 14 = .ok (.ifCond .eq 7, 3) := by decide +kernel
theorem dX4_over_17 : decode cX4_over 17 = .ok (.iconst 1, 1) := by decide +kernel
theorem dX4_over_18 : decode cX4_over 18 = .ok (.goto 31, 3) := by decide +kernel
theorem dX4_over_21 : decode cX4_over 21 = .ok (.iload_n 1, 1) := by decide +kernel
theorem dX4_over_22 : decode cX4_over 22 = .ok (.iload_n 2, 1) := by decide +kernel
theorem dX4_over_23 : decode cX4_over 23 = .ok (.if_icmp .eq 21, 3) := by decide +kernel
theorem dX4_over_26 : decode cX4_over 26 = .ok (.aload_n 0, 1) := by decide +kernel
theorem dX4_over_27 : decode cX4_over 27 = .ok (.getfield 41, 3) := by decide +kernel
theorem dX4_over_30 : decode cX4_over 30 = .ok (.iload_n 1, 1) := by decide +kernel
theorem dX4_over_31 : decode cX4_over 31 = .ok (.iaload, 1) := by decide +kernel
theorem dX4_over_32 : decode cX4_over 32 = .ok (.ifCond .lt 12, 3) := by decide +kernel
theorem dX4_over_35 : decode cX4_over 35 = .ok (.aload_n 0, 1) := by decide +kernel
theorem dX4_over_36 : decode cX4_over 36 = .ok (.getfield 41, 3) := by decide +kernel
theorem dX4_over_39 : decode cX4_over 39 = .ok (.iload_n 2, 1) := by decide +kernel
theorem dX4_over_40 : decode cX4_over 40 = .ok (.iaload, 1) := by decide +kernel
theorem dX4_over_41 : decode cX4_over 41 = .ok (.ifCond .ge 7, 3) := by decide +kernel
theorem dX4_over_44 : decode cX4_over 44 = .ok (.iconst 2, 1) := by decide +kernel
theorem dX4_over_45 : decode cX4_over 45 = .ok (.goto 4, 3) := by decide +kernel
theorem dX4_over_48 : decode cX4_over 48 = .ok (.iconst 0, 1) := by decide +kernel
theorem dX4_over_49 : decode cX4_over 49 = .ok (.putfield 7, 3) := by decide +kernel
theorem dX4_over_52 : decode cX4_over 52 = .ok (.aload_n 0, 1) := by decide +kernel
theorem dX4_over_53 : decode cX4_over 53 = .ok (.getfield 7, 3) := by decide +kernel
theorem dX4_over_56 : decode cX4_over 56 = .ok (.ifCond .ne 16, 3) := by decide +kernel
theorem dX4_over_59 : decode cX4_over 59 = .ok (.aload_n 0, 1) := by decide +kernel
theorem dX4_over_60 : decode cX4_over 60 = .ok (.iload_n 1, 1) := by decide +kernel
theorem dX4_over_61 : decode cX4_over 61 = .ok (.iload_n 2, 1) := by decide +kernel
theorem dX4_over_62 : decode cX4_over 62 = .ok (.invokevirtual 143, 3) := by decide +kernel
theorem dX4_over_65 : decode cX4_over 65 = .ok (.ifCond .le 7, 3) := by decide +kernel
theorem dX4_over_68 : decode cX4_over 68 = .ok (.iconst 1, 1) := by decide +kernel
theorem dX4_over_69 : decode cX4_over 69 = .ok (.goto 4, 3) := by decide +kernel
theorem dX4_over_72 : decode cX4_over 72 = .ok (.iconst 0, 1) := by decide +kernel
theorem dX4_over_73 : decode cX4_over 73 = .ok (.ireturn, 1) := by decide +kernel
theorem dX4_support_0 : decode cX4_support 0 = .ok (.aload_n 0, 1) := by decide +kernel
theorem dX4_support_1 : decode cX4_support 1 = .ok (.aload_n 0, 1) := by decide +kernel
theorem dX4_support_2 : decode cX4_support 2 = .ok (.iload_n 1, 1) := by decide +kernel
theorem dX4_support_3 : decode cX4_support 3 = .ok (.invokevirtual 192, 3) := by decide +kernel
theorem dX4_support_6 : decode cX4_support 6 = .ok (.ifCond .eq 7, 3) := by decide +kernel
theorem dX4_support_9 : decode cX4_support 9 = .ok (.iconst 1, 1) := by decide +kernel
theorem dX4_support_10 : decode cX4_support 10 = .ok (.goto 17, 3) := by decide +kernel
theorem dX4_support_13 : decode cX4_support 13 = .ok (.aload_n 0, 1) := by decide +kernel
theorem dX4_support_14 : decode cX4_support 14 = .ok (.getfield 41, 3) := by decide +kernel
theorem dX4_support_17 : decode cX4_support 17 = .ok (.iload_n 1, 1) := by decide +kernel
theorem dX4_support_18 : decode cX4_support 18 = .ok (.iaload, 1) := by decide +kernel
theorem dX4_support_19 : decode cX4_support 19 = .ok (.ifCond .ge 7, 3) := by decide +kernel
theorem dX4_support_22 : decode cX4_support 22 = .ok (.iconst 2, 1) := by decide +kernel
theorem dX4_support_23 : decode cX4_support 23 = .ok (.goto 4, 3) := by decide +kernel
theorem dX4_support_26 : decode cX4_support 26 = .ok (.iconst 0, 1) := by decide +kernel
theorem dX4_support_27 : decode cX4_support 27 = .ok (.putfield 7, 3) := by decide +kernel
theorem dX4_support_30 : decode cX4_support 30 = .ok (.aload_n 0, 1) := by decide +kernel
theorem dX4_support_31 : decode cX4_support 31 = .ok (.getfield 7, 3) := by decide +kernel
theorem dX4_support_34 : decode cX4_support 34 = .ok (.ifCond .eq 7, 3) := by decide +kernel
theorem dX4_support_37 : decode cX4_support 37 = .ok (.iconst 0, 1) := by decide +kernel
theorem dX4_support_38 : decode cX4_support 38 = .ok (.goto 25, 3) := by decide +kernel
theorem dX4_support_41 : decode cX4_support 41 = .ok (.bipush 100, 2) := by decide +kernel
theorem dX4_support_43 : decode cX4_support 43 = .ok (.aload_n 0, 1) := by decide +kernel
theorem dX4_support_44 : decode cX4_support 44 = .ok (.iload_n 1, 1) := by decide +kernel
theorem dX4_support_45 : decode cX4_support 45 = .ok (.invokevirtual 149, 3) := by decide +kernel
theorem dX4_support_48 : decode cX4_support 48 = .ok (.imul, 1) := by decide +kernel
theorem dX4_support_49 : decode cX4_support 49 = .ok (.aload_n 0, 1) := by decide +kernel
theorem dX4_support_50 : decode cX4_support 50 = .ok (.getfield 53, 3) := by decide +kernel
theorem dX4_support_53 : decode cX4_support 53 = .ok (.iload_n 1, 1) := by decide +kernel
theorem dX4_support_54 : decode cX4_support 54 = .ok (.iaload, 1) := by decide +kernel
theorem dX4_support_55 : decode cX4_support 55 = .ok (.aload_n 0, 1) := by decide +kernel
theorem dX4_support_56 : decode cX4_support 56 = .ok (.getfield 56, 3) := by decide +kernel
theorem dX4_support_59 : decode cX4_support 59 = .ok (.iload_n 1, 1) := by decide +kernel
theorem dX4_support_60 : decode cX4_support 60 = .ok (.iaload, 1) := by decide +kernel
theorem dX4_support_61 : decode cX4_support 61 = .ok (.imul, 1) := by decide +kernel
theorem dX4_support_62 : decode cX4_support 62 = .ok (.idiv, 1) := by decide +kernel
theorem dX4_support_63 : decode cX4_support 63 = .ok (.ireturn, 1) := by decide +kernel
theorem dX4_bears_0 : decode cX4_bears 0 = .ok (.aload_n 0, 1) := by decide +kernel
theorem dX4_bears_1 : decode cX4_bears 1 = .ok (.aload_n 0, 1) := by decide +kernel
theorem dX4_bears_2 : decode cX4_bears 2 = .ok (.iload_n 1, 1) := by decide +kernel
theorem dX4_bears_3 : decode cX4_bears 3 = .ok (.invokevirtual 192, 3) := by decide +kernel
theorem dX4_bears_6 : decode cX4_bears 6 = .ok (.ifCond .eq 7, 3) := by decide +kernel
theorem dX4_bears_9 : decode cX4_bears 9 = .ok (.iconst 1, 1) := by decide +kernel
theorem dX4_bears_10 : decode cX4_bears 10 = .ok (.goto 17, 3) := by decide +kernel
theorem dX4_bears_13 : decode cX4_bears 13 = .ok (.aload_n 0, 1) := by decide +kernel
theorem dX4_bears_14 : decode cX4_bears 14 = .ok (.getfield 41, 3) := by decide +kernel
theorem dX4_bears_17 : decode cX4_bears 17 = .ok (.iload_n 1, 1) := by decide +kernel
theorem dX4_bears_18 : decode cX4_bears 18 = .ok (.iaload, 1) := by decide +kernel
theorem dX4_bears_19 : decode cX4_bears 19 = .ok (.ifCond .ge 7, 3) := by decide +kernel
theorem dX4_bears_22 : decode cX4_bears 22 = .ok (.iconst 2, 1) := by decide +kernel
theorem dX4_bears_23 : decode cX4_bears 23 = .ok (.goto 4, 3) := by decide +kernel
theorem dX4_bears_26 : decode cX4_bears 26 = .ok (.iconst 0, 1) := by decide +kernel
theorem dX4_bears_27 : decode cX4_bears 27 = .ok (.putfield 7, 3) := by decide +kernel
theorem dX4_bears_30 : decode cX4_bears 30 = .ok (.aload_n 0, 1) := by decide +kernel
theorem dX4_bears_31 : decode cX4_bears 31 = .ok (.getfield 7, 3) := by decide +kernel
theorem dX4_bears_34 : decode cX4_bears 34 = .ok (.ifCond .eq 7, 3) := by decide +kernel
theorem dX4_bears_37 : decode cX4_bears 37 = .ok (.iconst 0, 1) := by decide +kernel
theorem dX4_bears_38 : decode cX4_bears 38 = .ok (.goto 8, 3) := by decide +kernel
theorem dX4_bears_41 : decode cX4_bears 41 = .ok (.aload_n 0, 1) := by decide +kernel
theorem dX4_bears_42 : decode cX4_bears 42 = .ok (.iload_n 1, 1) := by decide +kernel
theorem dX4_bears_43 : decode cX4_bears 43 = .ok (.invokevirtual 152, 3) := by decide +kernel
theorem dX4_bears_46 : decode cX4_bears 46 = .ok (.ireturn, 1) := by decide +kernel
theorem dX4_cell_0 : decode cX4_cell 0 = .ok (.aload_n 0, 1) := by decide +kernel
theorem dX4_cell_1 : decode cX4_cell 1 = .ok (.iload_n 1, 1) := by decide +kernel
theorem dX4_cell_2 : decode cX4_cell 2 = .ok (.iconst 0, 1) := by decide +kernel
theorem dX4_cell_3 : decode cX4_cell 3 = .ok (.aload_n 0, 1) := by decide +kernel
theorem dX4_cell_4 : decode cX4_cell 4 = .ok (.getfield 118, 3) := by decide +kernel
theorem dX4_cell_7 : decode cX4_cell 7 = .ok (.iconst 1, 1) := by decide +kernel
theorem dX4_cell_8 : decode cX4_cell 8 = .ok (.isub, 1) := by decide +kernel
theorem dX4_cell_9 : decode cX4_cell 9 = .ok (.invokestatic 188, 3) := by decide +kernel
theorem dX4_cell_12 : decode cX4_cell 12 = .ok (.ifCond .ne 31, 3) := by decide +kernel
theorem dX4_cell_15 : decode cX4_cell 15 = .ok (.iload_n 2, 1) := by decide +kernel
theorem dX4_cell_16 : decode cX4_cell 16 = .ok (.iconst 0, 1) := by decide +kernel
theorem dX4_cell_17 : decode cX4_cell 17 = .ok (.aload_n 0, 1) := by decide +kernel
theorem dX4_cell_18 : decode cX4_cell 18 = .ok (.getfield 121, 3) := by decide +kernel
theorem dX4_cell_21 : decode cX4_cell 21 = .ok (.iconst 1, 1) := by decide +kernel
theorem dX4_cell_22 : decode cX4_cell 22 = .ok (.isub, 1) := by decide +kernel
theorem dX4_cell_23 : decode cX4_cell 23 = .ok (.invokestatic 188, 3) := by decide +kernel
theorem dX4_cell_26 : decode cX4_cell 26 = .ok (.ifCond .ne 17, 3) := by decide +kernel
theorem dX4_cell_29 : decode cX4_cell 29 = .ok (.iload_n 3, 1) := by decide +kernel
theorem dX4_cell_30 : decode cX4_cell 30 = .ok (.iconst 0, 1) := by decide +kernel
theorem dX4_cell_31 : decode cX4_cell 31 = .ok (.aload_n 0, 1) := by decide +kernel
theorem dX4_cell_32 : decode cX4_cell 32 = .ok (.getfield 124, 3) := by decide +kernel
theorem dX4_cell_35 : decode cX4_cell 35 = .ok (.iconst 1, 1) := by decide +kernel
theorem dX4_cell_36 : decode cX4_cell 36 = .ok (.isub, 1) := by decide +kernel
theorem dX4_cell_37 : decode cX4_cell 37 = .ok (.invokestatic 188, 3) := by decide +kernel
theorem dX4_cell_40 : decode cX4_cell 40 = .ok (.ifCond .eq 7, 3) := by decide +kernel
theorem dX4_cell_43 : decode cX4_cell 43 = .ok (.iconst 1, 1) := by decide +kernel
theorem dX4_cell_44 : decode cX4_cell 44 = .ok (.goto 4, 3) := by decide +kernel
theorem dX4_cell_47 : decode cX4_cell 47 = .ok (.iconst 0, 1) := by decide +kernel
theorem dX4_cell_48 : decode cX4_cell 48 = .ok (.putfield 7, 3) := by decide +kernel
theorem dX4_cell_51 : decode cX4_cell 51 = .ok (.aload_n 0, 1) := by decide +kernel
theorem dX4_cell_52 : decode cX4_cell 52 = .ok (.getfield 7, 3) := by decide +kernel
theorem dX4_cell_55 : decode cX4_cell 55 = .ok (.ifCond .eq 5, 3) := by decide +kernel
theorem dX4_cell_58 : decode cX4_cell 58 = .ok (.iconst 0, 1) := by decide +kernel
theorem dX4_cell_59 : decode cX4_cell 59 = .ok (.ireturn, 1) := by decide +kernel
theorem dX4_cell_60 : decode cX4_cell 60 = .ok (.iconst 0, 1) := by decide +kernel
theorem dX4_cell_61 : decode cX4_cell 61 = .ok (.istore 4, 2) := by decide +kernel
theorem dX4_cell_63 : decode cX4_cell 63 = .ok (.iload 4, 2) := by decide +kernel
theorem dX4_cell_65 : decode cX4_cell 65 = .ok (.aload_n 0, 1) := by decide +kernel
theorem dX4_cell_66 : decode cX4_cell 66 = .ok (.getfield 13, 3) := by decide +kernel
theorem dX4_cell_69 : decode cX4_cell 69 = .ok (.if_icmp .ge 112, 3) := by decide +kernel
theorem dX4_cell_72 : decode cX4_cell 72 = .ok (.aload_n 0, 1) := by decide +kernel
theorem dX4_cell_73 : decode cX4_cell 73 = .ok (.getfield 41, 3) := by decide +kernel
theorem dX4_cell_76 : decode cX4_cell 76 = .ok (.iload 4, 2) := by decide +kernel
theorem dX4_cell_78 : decode cX4_cell 78 = .ok (.iaload, 1) := by decide +kernel
theorem dX4_cell_79 : decode cX4_cell 79 = .ok (.ifCond .lt 96, 3) := by decide +kernel
theorem dX4_cell_82 : decode cX4_cell 82 = .ok (.aload_n 0, 1) := by decide +kernel
theorem dX4_cell_83 : decode cX4_cell 83 = .ok (.getfield 44, 3) := by decide +kernel
theorem dX4_cell_86 : decode cX4_cell 86 = .ok (.iload 4, 2) := by decide +kernel
theorem dX4_cell_88 : decode cX4_cell 88 = .ok (.iaload, 1) := by decide +kernel
theorem dX4_cell_89 : decode cX4_cell 89 = .ok (.iload_n 1, 1) := by decide +kernel
theorem dX4_cell_90 : decode cX4_cell 90 = .ok (.if_icmp .gt 85, 3) := by decide +kernel
theorem dX4_cell_93 : decode cX4_cell 93 = .ok (.iload_n 1, 1) := by decide +kernel
theorem dX4_cell_94 : decode cX4_cell 94 = .ok (.aload_n 0, 1) := by decide +kernel
theorem dX4_cell_95 : decode cX4_cell 95 = .ok (.getfield 44, 3) := by decide +kernel
theorem dX4_cell_98 : decode cX4_cell 98 = .ok (.iload 4, 2) := by decide +kernel
theorem dX4_cell_100 : decode cX4_cell 100 = .ok (.iaload, 1) := by decide +kernel
theorem dX4_cell_101 : decode cX4_cell 101 = .ok (.aload_n 0, 1) := by decide +kernel
theorem dX4_cell_102 : decode cX4_cell 102 = .ok (.getfield 53, 3) := by decide +kernel
theorem dX4_cell_105 : decode cX4_cell 105 = .ok (.iload 4, 2) := by decide +kernel
theorem dX4_cell_107 : decode cX4_cell 107 = .ok (.iaload, 1) := by decide +kernel
theorem dX4_cell_108 : decode cX4_cell 108 = .ok (.iadd, 1) := by decide +kernel
theorem dX4_cell_109 : decode cX4_cell 109 = .ok (.if_icmp .ge 66, 3) := by decide +kernel
theorem dX4_cell_112 : decode cX4_cell 112 = .ok (.aload_n 0, 1) := by decide +kernel
theorem dX4_cell_113 : decode cX4_cell 113 = .ok (.getfield 47, 3) := by decide +kernel
theorem dX4_cell_116 : decode cX4_cell 116 = .ok (.iload 4, 2) := by decide +kernel
theorem dX4_cell_118 : decode cX4_cell 118 = .ok (.iaload, 1) := by decide +kernel
theorem dX4_cell_119 : decode cX4_cell 119 = .ok (.iload_n 2, 1) := by decide +kernel
theorem dX4_cell_120 : decode cX4_cell 120 = .ok (.if_icmp .gt 55, 3) := by decide +kernel
theorem dX4_cell_123 : decode cX4_cell 123 = .ok (.iload_n 2, 1) := by decide +kernel
theorem dX4_cell_124 : decode cX4_cell 124 = .ok (.aload_n 0, 1) := by decide +kernel
theorem dX4_cell_125 : decode cX4_cell 125 = .ok (.getfield 47, 3) := by decide +kernel
theorem dX4_cell_128 : decode cX4_cell 128 = .ok (.iload 4, 2) := by decide +kernel
theorem dX4_cell_130 : decode cX4_cell 130 = .ok (.iaload, 1) := by decide +kernel
theorem dX4_cell_131 : decode cX4_cell 131 = .ok (.aload_n 0, 1) := by decide +kernel
theorem dX4_cell_132 : decode cX4_cell 132 = .ok (.getfield 56, 3) := by decide +kernel
theorem dX4_cell_135 : decode cX4_cell 135 = .ok (.iload 4, 2) := by decide +kernel
theorem dX4_cell_137 : decode cX4_cell 137 = .ok (.iaload, 1) := by decide +kernel
theorem dX4_cell_138 : decode cX4_cell 138 = .ok (.iadd, 1) := by decide +kernel
theorem dX4_cell_139 : decode cX4_cell 139 = .ok (.if_icmp .ge 36, 3) := by decide +kernel
theorem dX4_cell_142 : decode cX4_cell 142 = .ok (.aload_n 0, 1) := by decide +kernel
theorem dX4_cell_143 : decode cX4_cell 143 = .ok (.getfield 50, 3) := by decide +kernel
theorem dX4_cell_146 : decode cX4_cell 146 = .ok (.iload 4, 2) := by decide +kernel
theorem dX4_cell_148 : decode cX4_cell 148 = .ok (.iaload, 1) := by decide +kernel
theorem dX4_cell_149 : decode cX4_cell 149 = .ok (.iload_n 3, 1) := by decide +kernel
theorem dX4_cell_150 : decode cX4_cell 150 = .ok (.if_icmp .gt 25, 3) := by decide +kernel
theorem dX4_cell_153 : decode cX4_cell 153 = .ok (.iload_n 3, 1) := by decide +kernel
theorem dX4_cell_154 : decode cX4_cell 154 = .ok (.aload_n 0, 1) := by decide +kernel
theorem dX4_cell_155 : decode cX4_cell 155 = .ok (.getfield 50, 3) := by decide +kernel
theorem dX4_cell_158 : decode cX4_cell 158 = .ok (.iload 4, 2) := by decide +kernel
theorem dX4_cell_160 : decode cX4_cell 160 = .ok (.iaload, 1) := by decide +kernel
theorem dX4_cell_161 : decode cX4_cell 161 = .ok (.aload_n 0, 1) := by decide +kernel
theorem dX4_cell_162 : decode cX4_cell 162 = .ok (.getfield 59, 3) := by decide +kernel
theorem dX4_cell_165 : decode cX4_cell 165 = .ok (.iload 4, 2) := by decide +kernel
theorem dX4_cell_167 : decode cX4_cell 167 = .ok (.iaload, 1) := by decide +kernel
theorem dX4_cell_168 : decode cX4_cell 168 = .ok (.iadd, 1) := by decide +kernel
theorem dX4_cell_169 : decode cX4_cell 169 = .ok (.if_icmp .ge 6, 3) := by decide +kernel
theorem dX4_cell_172 : decode cX4_cell 172 = .ok (.iload 4, 2) := by decide +kernel
theorem dX4_cell_174 : decode cX4_cell 174 = .ok (.ireturn, 1) := by decide +kernel
theorem dX4_cell_175 : decode cX4_cell 175 = .ok (.iinc 4 1, 3) := by decide +kernel
theorem dX4_cell_178 : decode cX4_cell 178 = .ok (.goto (-115), 3) := by decide +kernel
theorem dX4_cell_181 : decode cX4_cell 181 = .ok (.iconst (-1), 1) := by decide +kernel
theorem dX4_cell_182 : decode cX4_cell 182 = .ok (.ireturn, 1) := by decide +kernel
theorem dX4_close_0 : decode cX4_close 0 = .ok (.iconst 0, 1) := by decide +kernel
theorem dX4_close_1 : decode cX4_close 1 = .ok (.istore_n 1, 1) := by decide +kernel
theorem dX4_close_2 : decode cX4_close 2 = .ok (.iconst 0, 1) := by decide +kernel
theorem dX4_close_3 : decode cX4_close 3 = .ok (.istore_n 2, 1) := by decide +kernel
theorem dX4_close_4 : decode cX4_close 4 = .ok (.iload_n 2, 1) := by decide +kernel
theorem dX4_close_5 : decode cX4_close 5 = .ok (.aload_n 0, 1) := by decide +kernel
theorem dX4_close_6 : decode cX4_close 6 = .ok (.getfield 13, 3) := by decide +kernel
theorem dX4_close_9 : decode cX4_close 9 = .ok (.if_icmp .ge 28, 3) := by decide +kernel
theorem dX4_close_12 : decode cX4_close 12 = .ok (.iload_n 1, 1) := by decide +kernel
theorem dX4_close_13 : decode cX4_close 13 = .ok (.ifCond .ne 12, 3) := by decide +kernel
theorem dX4_close_16 : decode cX4_close 16 = .ok (.aload_n 0, 1) := by decide +kernel
theorem dX4_close_17 : decode cX4_close 17 = .ok (.getfield 41, 3) := by decide +kernel
theorem dX4_close_20 : decode cX4_close 20 = .ok (.iload_n 2, 1) := by decide +kernel
theorem dX4_close_21 : decode cX4_close 21 = .ok (.iaload, 1) := by decide +kernel
theorem dX4_close_22 : decode cX4_close 22 = .ok (.ifCond .lt 7, 3) := by decide +kernel
theorem dX4_close_25 : decode cX4_close 25 = .ok (.iconst 1, 1) := by decide +kernel
theorem dX4_close_26 : decode cX4_close 26 = .ok (.goto 4, 3) := by decide +kernel
theorem dX4_close_29 : decode cX4_close 29 = .ok (.iconst 0, 1) := by decide +kernel
theorem dX4_close_30 : decode cX4_close 30 = .ok (.istore_n 1, 1) := by decide +kernel
theorem dX4_close_31 : decode cX4_close 31 = .ok (.iinc 2 1, 3) := by decide +kernel
theorem dX4_close_34 : decode cX4_close 34 = .ok (.goto (-30), 3) := by decide +kernel
theorem dX4_close_37 : decode cX4_close 37 = .ok (.aload_n 0, 1) := by decide +kernel
theorem dX4_close_38 : decode cX4_close 38 = .ok (.iload_n 1, 1) := by decide +kernel
theorem dX4_close_39 : decode cX4_close 39 = .ok (.ifCond .eq 7, 3) := by decide +kernel
theorem dX4_close_42 : decode cX4_close 42 = .ok (.iconst 0, 1) := by decide +kernel
theorem dX4_close_43 : decode cX4_close 43 = .ok (.goto 4, 3) := by decide +kernel
theorem dX4_close_46 : decode cX4_close 46 = .ok (.iconst 1, 1) := by decide +kernel
theorem dX4_close_47 : decode cX4_close 47 = .ok (.putfield 7, 3) := by decide +kernel
theorem dX4_close_50 : decode cX4_close 50 = .ok (.aload_n 0, 1) := by decide +kernel
theorem dX4_close_51 : decode cX4_close 51 = .ok (.getfield 7, 3) := by decide +kernel
theorem dX4_close_54 : decode cX4_close 54 = .ok (.ifCond .eq 5, 3) := by decide +kernel
theorem dX4_close_57 : decode cX4_close 57 = .ok (.iconst 0, 1) := by decide +kernel
theorem dX4_close_58 : decode cX4_close 58 = .ok (.ireturn, 1) := by decide +kernel
theorem dX4_close_59 : decode cX4_close 59 = .ok (.iconst 0, 1) := by decide +kernel
theorem dX4_close_60 : decode cX4_close 60 = .ok (.istore_n 2, 1) := by decide +kernel
theorem dX4_close_61 : decode cX4_close 61 = .ok (.iload_n 2, 1) := by decide +kernel
theorem dX4_close_62 : decode cX4_close 62 = .ok (.aload_n 0, 1) := by decide +kernel
theorem dX4_close_63 : decode cX4_close 63 = .ok (.getfield 13, 3) := by decide +kernel
theorem dX4_close_66 : decode cX4_close 66 = .ok (.if_icmp .ge 35, 3) := by decide +kernel
theorem dX4_close_69 : decode cX4_close 69 = .ok (.aload_n 0, 1) := by decide +kernel
theorem dX4_close_70 : decode cX4_close 70 = .ok (.getfield 41, 3) := by decide +kernel
theorem dX4_close_73 : decode cX4_close 73 = .ok (.iload_n 2, 1) := by decide +kernel
theorem dX4_close_74 : decode cX4_close 74 = .ok (.iaload, 1) := by decide +kernel
theorem dX4_close_75 : decode cX4_close 75 = .ok (.ifCond .lt 13, 3) := by decide +kernel
theorem dX4_close_78 : decode cX4_close 78 = .ok (.aload_n 0, 1) := by decide +kernel
theorem dX4_close_79 : decode cX4_close 79 = .ok (.getfield 32, 3) := by decide +kernel
theorem dX4_close_82 : decode cX4_close 82 = .ok (.iload_n 2, 1) := by decide +kernel
theorem dX4_close_83 : decode cX4_close 83 = .ok (.aload_n 0, 1) := by decide +kernel
theorem dX4_close_84 : decode cX4_close 84 = .ok (.getfield 38, 3) := by decide +kernel
theorem dX4_close_87 : decode cX4_close 87 = .ok (.iastore, 1) := by decide +kernel
theorem dX4_close_88 : decode cX4_close 88 = .ok (.aload_n 0, 1) := by decide +kernel
theorem dX4_close_89 : decode cX4_close 89 = .ok (.getfield 41, 3) := by decide +kernel
theorem dX4_close_92 : decode cX4_close 92 = .ok (.iload_n 2, 1) := by decide +kernel
theorem dX4_close_93 : decode cX4_close 93 = .ok (.iconst (-1), 1) := by decide +kernel
theorem dX4_close_94 : decode cX4_close 94 = .ok (.iastore, 1) := by decide +kernel
theorem dX4_close_95 : decode cX4_close 95 = .ok (.iinc 2 1, 3) := by decide +kernel
theorem dX4_close_98 : decode cX4_close 98 = .ok (.goto (-37), 3) := by decide +kernel
theorem dX4_close_101 : decode cX4_close 101 = .ok (.aload_n 0, 1) := by decide +kernel
theorem dX4_close_102 : decode cX4_close 102 = .ok (.dup, 1) := by decide +kernel
theorem dX4_close_103 : decode cX4_close 103 = .ok (.getfield 38, 3) := by decide +kernel
theorem dX4_close_106 : decode cX4_close 106 = .ok (.iconst 1, 1) := by decide +kernel
theorem dX4_close_107 : decode cX4_close 107 = .ok (.iadd, 1) := by decide +kernel
theorem dX4_close_108 : decode cX4_close 108 = .ok (.putfield 38, 3) := by decide +kernel
theorem dX4_close_111 : decode cX4_close 111 = .ok (.aload_n 0, 1) := by decide +kernel
theorem dX4_close_112 : decode cX4_close 112 = .ok (.getfield 38, 3) := by decide +kernel
theorem dX4_close_115 : decode cX4_close 115 = .ok (.iconst 1, 1) := by decide +kernel
theorem dX4_close_116 : decode cX4_close 116 = .ok (.isub, 1) := by decide +kernel
theorem dX4_close_117 : decode cX4_close 117 = .ok (.ireturn, 1) := by decide +kernel
theorem dX4_box_0 : decode cX4_box 0 = .ok (.aload_n 0, 1) := by decide +kernel
theorem dX4_box_1 : decode cX4_box 1 = .ok (.aload_n 0, 1) := by decide +kernel
theorem dX4_box_2 : decode cX4_box 2 = .ok (.iload_n 1, 1) := by decide +kernel
theorem dX4_box_3 : decode cX4_box 3 = .ok (.invokevirtual 192, 3) := by decide +kernel
theorem dX4_box_6 : decode cX4_box 6 = .ok (.ifCond .eq 7, 3) := by decide +kernel
theorem dX4_box_9 : decode cX4_box 9 = .ok (.iconst 1, 1) := by decide +kernel
theorem dX4_box_10 : decode cX4_box 10 = .ok (.goto 4, 3) := by decide +kernel
theorem dX4_box_13 : decode cX4_box 13 = .ok (.iconst 0, 1) := by decide +kernel
theorem dX4_box_14 : decode cX4_box 14 = .ok (.putfield 7, 3) := by decide +kernel
theorem dX4_box_17 : decode cX4_box 17 = .ok (.aload_n 0, 1) := by decide +kernel
theorem dX4_box_18 : decode cX4_box 18 = .ok (.getfield 7, 3) := by decide +kernel
theorem dX4_box_21 : decode cX4_box 21 = .ok (.ifCond .eq 7, 3) := by decide +kernel
theorem dX4_box_24 : decode cX4_box 24 = .ok (.iconst 0, 1) := by decide +kernel
theorem dX4_box_25 : decode cX4_box 25 = .ok (.goto 9, 3) := by decide +kernel
theorem dX4_box_28 : decode cX4_box 28 = .ok (.aload_n 0, 1) := by decide +kernel
theorem dX4_box_29 : decode cX4_box 29 = .ok (.getfield 32, 3) := by decide +kernel
theorem dX4_box_32 : decode cX4_box 32 = .ok (.iload_n 1, 1) := by decide +kernel
theorem dX4_box_33 : decode cX4_box 33 = .ok (.iaload, 1) := by decide +kernel
theorem dX4_box_34 : decode cX4_box 34 = .ok (.ireturn, 1) := by decide +kernel
theorem dX4_count_0 : decode cX4_count 0 = .ok (.aload_n 0, 1) := by decide +kernel
theorem dX4_count_1 : decode cX4_count 1 = .ok (.iconst 0, 1) := by decide +kernel
theorem dX4_count_2 : decode cX4_count 2 = .ok (.putfield 7, 3) := by decide +kernel
theorem dX4_count_5 : decode cX4_count 5 = .ok (.iconst 0, 1) := by decide +kernel
theorem dX4_count_6 : decode cX4_count 6 = .ok (.istore_n 2, 1) := by decide +kernel
theorem dX4_count_7 : decode cX4_count 7 = .ok (.iconst 0, 1) := by decide +kernel
theorem dX4_count_8 : decode cX4_count 8 = .ok (.istore_n 3, 1) := by decide +kernel
theorem dX4_count_9 : decode cX4_count 9 = .ok (.iconst 0, 1) := by decide +kernel
theorem dX4_count_10 : decode cX4_count 10 = .ok (.istore 4, 2) := by decide +kernel
theorem dX4_count_12 : decode cX4_count 12 = .ok (.iconst 0, 1) := by decide +kernel
theorem dX4_count_13 : decode cX4_count 13 = .ok (.istore 5, 2) := by decide +kernel
theorem dX4_count_15 : decode cX4_count 15 = .ok (.iconst 0, 1) := by decide +kernel
theorem dX4_count_16 : decode cX4_count 16 = .ok (.istore 6, 2) := by decide +kernel
theorem dX4_count_18 : decode cX4_count 18 = .ok (.iload 6, 2) := by decide +kernel
theorem dX4_count_20 : decode cX4_count 20 = .ok (.aload_n 0, 1) := by decide +kernel
theorem dX4_count_21 : decode cX4_count 21 = .ok (.getfield 13, 3) := by decide +kernel
theorem dX4_count_24 : decode cX4_count 24 = .ok (.if_icmp .ge 89, 3) := by decide +kernel
theorem dX4_count_27 : decode cX4_count 27 = .ok (.iload_n 3, 1) := by decide +kernel
theorem dX4_count_28 : decode cX4_count 28 = .ok (.aload_n 0, 1) := by decide +kernel
theorem dX4_count_29 : decode cX4_count 29 = .ok (.getfield 32, 3) := by decide +kernel
theorem dX4_count_32 : decode cX4_count 32 = .ok (.iload 6, 2) := by decide +kernel
theorem dX4_count_34 : decode cX4_count 34 = .ok (.iaload, 1) := by decide +kernel
theorem dX4_count_35 : decode cX4_count 35 = .ok (.ifCond .ge 7, 3) := by decide +kernel
theorem dX4_count_38 : decode cX4_count 38 = .ok (.iconst 1, 1) := by decide +kernel
theorem dX4_count_39 : decode cX4_count 39 = .ok (.goto 4, 3) := by decide +kernel
theorem dX4_count_42 : decode cX4_count 42 = .ok (.iconst 0, 1) := by decide +kernel
theorem dX4_count_43 : decode cX4_count 43 = .ok (.iadd, 1) := by decide +kernel
theorem dX4_count_44 : decode cX4_count 44 = .ok (.istore_n 3, 1) := by decide +kernel
theorem dX4_count_45 : decode cX4_count 45 = .ok (.aload_n 0, 1) := by decide +kernel
theorem dX4_count_46 : decode cX4_count 46 = .ok (.getfield 41, 3) := by decide +kernel
theorem dX4_count_49 : decode cX4_count 49 = .ok (.iload 6, 2) := by decide +kernel
theorem dX4_count_51 : decode cX4_count 51 = .ok (.iaload, 1) := by decide +kernel
theorem dX4_count_52 : decode cX4_count 52 = .ok (.ifCond .lt 55, 3) := by decide +kernel
theorem dX4_count_55 : decode cX4_count 55 = .ok (.iinc 2 1, 3) := by decide +kernel
theorem dX4_count_58 : decode cX4_count 58 = .ok (.iload 4, 2) := by decide +kernel
theorem dX4_count_60 : decode cX4_count 60 = .ok (.aload_n 0, 1) := by decide +kernel
theorem dX4_count_61 : decode cX4_count 61 = .ok (.getfield 20, 3) := by decide +kernel
theorem dX4_count_64 : decode cX4_count 64 = .ok (.iload 6, 2) := by decide +kernel
theorem dX4_count_66 : decode cX4_count 66 = .ok (.iaload, 1) := by decide +kernel
theorem dX4_count_67 : decode cX4_count 67 = .ok (.iadd, 1) := by decide +kernel
theorem dX4_count_68 : decode cX4_count 68 = .ok (.istore 4, 2) := by decide +kernel
theorem dX4_count_70 : decode cX4_count 70 = .ok (.aload_n 0, 1) := by decide +kernel
theorem dX4_count_71 : decode cX4_count 71 = .ok (.getfield 50, 3) := by decide +kernel
theorem dX4_count_74 : decode cX4_count 74 = .ok (.iload 6, 2) := by decide +kernel
theorem dX4_count_76 : decode cX4_count 76 = .ok (.iaload, 1) := by decide +kernel
theorem dX4_count_77 : decode cX4_count 77 = .ok (.aload_n 0, 1) := by decide +kernel
theorem dX4_count_78 : decode cX4_count 78 = .ok (.getfield 59, 3) := by decide +kernel
theorem dX4_count_81 : decode cX4_count 81 = .ok (.iload 6, 2) := by decide +kernel
theorem dX4_count_83 : decode cX4_count 83 = .ok (.iaload, 1) := by decide +kernel
theorem dX4_count_84 : decode cX4_count 84 = .ok (.iadd, 1) := by decide +kernel
theorem dX4_count_85 : decode cX4_count 85 = .ok (.iload 5, 2) := by decide +kernel
theorem dX4_count_87 : decode cX4_count 87 = .ok (.if_icmp .le 20, 3) := by decide +kernel
theorem dX4_count_90 : decode cX4_count 90 = .ok (.aload_n 0, 1) := by decide +kernel
theorem dX4_count_91 : decode cX4_count 91 = .ok (.getfield 50, 3) := by decide +kernel
theorem dX4_count_94 : decode cX4_count 94 = .ok (.iload 6, 2) := by decide +kernel
theorem dX4_count_96 : decode cX4_count 96 = .ok (.iaload, 1) := by decide +kernel
theorem dX4_count_97 : decode cX4_count 97 = .ok (.aload_n 0, 1) := by decide +kernel
theorem dX4_count_98 : decode cX4_count 98 = .ok (.getfield 59, 3) := by decide +kernel
theorem dX4_count_101 : decode cX4_count 101 = .ok (.iload 6, 2) := by decide +kernel
theorem dX4_count_103 : decode cX4_count 103 = .ok (.iaload, 1) := by decide +kernel
theorem dX4_count_104 : decode cX4_count 104 = .ok (.iadd, 1) := by decide +kernel
theorem dX4_count_105 : decode cX4_count 105 = .ok (.istore 5, 2) := by decide +kernel
theorem dX4_count_107 : decode cX4_count 107 = .ok (.iinc 6 1, 3) := by decide +kernel
theorem dX4_count_110 : decode cX4_count 110 = .ok (.goto (-92), 3) := by decide +kernel
theorem dX4_count_113 : decode cX4_count 113 = .ok (.iload_n 1, 1) := by decide +kernel
theorem dX4_count_114 : decode cX4_count 114 = .ok (.tableswitch 67 0 6 #[42, 47, 49, 51, 56, 61, 64], 42) := by decide +kernel
theorem dX4_count_156 : decode cX4_count 156 = .ok (.aload_n 0, 1) := by decide +kernel
theorem dX4_count_157 : decode cX4_count 157 = .ok (.getfield 13, 3) := by decide +kernel
theorem dX4_count_160 : decode cX4_count 160 = .ok (.ireturn, 1) := by decide +kernel
theorem dX4_count_161 : decode cX4_count 161 = .ok (.iload_n 2, 1) := by decide +kernel
theorem dX4_count_162 : decode cX4_count 162 = .ok (.ireturn, 1) := by decide +kernel
theorem dX4_count_163 : decode cX4_count 163 = .ok (.iload_n 3, 1) := by decide +kernel
theorem dX4_count_164 : decode cX4_count 164 = .ok (.ireturn, 1) := by decide +kernel
theorem dX4_count_165 : decode cX4_count 165 = .ok (.aload_n 0, 1) := by decide +kernel
theorem dX4_count_166 : decode cX4_count 166 = .ok (.getfield 38, 3) := by decide +kernel
theorem dX4_count_169 : decode cX4_count 169 = .ok (.ireturn, 1) := by decide +kernel
theorem dX4_count_170 : decode cX4_count 170 = .ok (.aload_n 0, 1) := by decide +kernel
theorem dX4_count_171 : decode cX4_count 171 = .ok (.invokevirtual 165, 3) := by decide +kernel
theorem dX4_count_174 : decode cX4_count 174 = .ok (.ireturn, 1) := by decide +kernel
theorem dX4_count_175 : decode cX4_count 175 = .ok (.iload 4, 2) := by decide +kernel
theorem dX4_count_177 : decode cX4_count 177 = .ok (.ireturn, 1) := by decide +kernel
theorem dX4_count_178 : decode cX4_count 178 = .ok (.iload 5, 2) := by decide +kernel
theorem dX4_count_180 : decode cX4_count 180 = .ok (.ireturn, 1) := by decide +kernel
theorem dX4_count_181 : decode cX4_count 181 = .ok (.iconst (-1), 1) := by decide +kernel
theorem dX4_count_182 : decode cX4_count 182 = .ok (.ireturn, 1) := by decide +kernel
end
section
theorem dJ6_bitCount_0f7a4_0 : decode cJ6_bitCount_0f7a4 0 = .ok (.iload_n 0, 1) := by decide +kernel
theorem dJ6_bitCount_0f7a4_1 : decode cJ6_bitCount_0f7a4 1 = .ok (.iload_n 0, 1) := by decide +kernel
theorem dJ6_bitCount_0f7a4_2 : decode cJ6_bitCount_0f7a4 2 = .ok (.iconst 1, 1) := by decide +kernel
theorem dJ6_bitCount_0f7a4_3 : decode cJ6_bitCount_0f7a4 3 = .ok (.iushr, 1) := by decide +kernel
theorem dJ6_bitCount_0f7a4_4 : decode cJ6_bitCount_0f7a4 4 = .ok (.ldc_w 265, 3) := by decide +kernel
theorem dJ6_bitCount_0f7a4_7 : decode cJ6_bitCount_0f7a4 7 = .ok (.iand, 1) := by decide +kernel
theorem dJ6_bitCount_0f7a4_8 : decode cJ6_bitCount_0f7a4 8 = .ok (.isub, 1) := by decide +kernel
theorem dJ6_bitCount_0f7a4_9 : decode cJ6_bitCount_0f7a4 9 = .ok (.istore_n 0, 1) := by decide +kernel
theorem dJ6_bitCount_0f7a4_10 : decode cJ6_bitCount_0f7a4 10 = .ok (.iload_n 0, 1) := by decide +kernel
theorem dJ6_bitCount_0f7a4_11 : decode cJ6_bitCount_0f7a4 11 = .ok (.ldc_w 266, 3) := by decide +kernel
theorem dJ6_bitCount_0f7a4_14 : decode cJ6_bitCount_0f7a4 14 = .ok (.iand, 1) := by decide +kernel
theorem dJ6_bitCount_0f7a4_15 : decode cJ6_bitCount_0f7a4 15 = .ok (.iload_n 0, 1) := by decide +kernel
theorem dJ6_bitCount_0f7a4_16 : decode cJ6_bitCount_0f7a4 16 = .ok (.iconst 2, 1) := by decide +kernel
theorem dJ6_bitCount_0f7a4_17 : decode cJ6_bitCount_0f7a4 17 = .ok (.iushr, 1) := by decide +kernel
theorem dJ6_bitCount_0f7a4_18 : decode cJ6_bitCount_0f7a4 18 = .ok (.ldc_w 266, 3) := by decide +kernel
theorem dJ6_bitCount_0f7a4_21 : decode cJ6_bitCount_0f7a4 21 = .ok (.iand, 1) := by decide +kernel
theorem dJ6_bitCount_0f7a4_22 : decode cJ6_bitCount_0f7a4 22 = .ok (.iadd, 1) := by decide +kernel
theorem dJ6_bitCount_0f7a4_23 : decode cJ6_bitCount_0f7a4 23 = .ok (.istore_n 0, 1) := by decide +kernel
theorem dJ6_bitCount_0f7a4_24 : decode cJ6_bitCount_0f7a4 24 = .ok (.iload_n 0, 1) := by decide +kernel
theorem dJ6_bitCount_0f7a4_25 : decode cJ6_bitCount_0f7a4 25 = .ok (.iload_n 0, 1) := by decide +kernel
theorem dJ6_bitCount_0f7a4_26 : decode cJ6_bitCount_0f7a4 26 = .ok (.iconst 4, 1) := by decide +kernel
theorem dJ6_bitCount_0f7a4_27 : decode cJ6_bitCount_0f7a4 27 = .ok (.iushr, 1) := by decide +kernel
theorem dJ6_bitCount_0f7a4_28 : decode cJ6_bitCount_0f7a4 28 = .ok (.iadd, 1) := by decide +kernel
theorem dJ6_bitCount_0f7a4_29 : decode cJ6_bitCount_0f7a4 29 = .ok (.ldc_w 267, 3) := by decide +kernel
theorem dJ6_bitCount_0f7a4_32 : decode cJ6_bitCount_0f7a4 32 = .ok (.iand, 1) := by decide +kernel
theorem dJ6_bitCount_0f7a4_33 : decode cJ6_bitCount_0f7a4 33 = .ok (.istore_n 0, 1) := by decide +kernel
theorem dJ6_bitCount_0f7a4_34 : decode cJ6_bitCount_0f7a4 34 = .ok (.iload_n 0, 1) := by decide +kernel
theorem dJ6_bitCount_0f7a4_35 : decode cJ6_bitCount_0f7a4 35 = .ok (.iload_n 0, 1) := by decide +kernel
theorem dJ6_bitCount_0f7a4_36 : decode cJ6_bitCount_0f7a4 36 = .ok (.bipush 8, 2) := by decide +kernel
theorem dJ6_bitCount_0f7a4_38 : decode cJ6_bitCount_0f7a4 38 = .ok (.iushr, 1) := by decide +kernel
theorem dJ6_bitCount_0f7a4_39 : decode cJ6_bitCount_0f7a4 39 = .ok (.iadd, 1) := by decide +kernel
theorem dJ6_bitCount_0f7a4_40 : decode cJ6_bitCount_0f7a4 40 = .ok (.istore_n 0, 1) := by decide +kernel
theorem dJ6_bitCount_0f7a4_41 : decode cJ6_bitCount_0f7a4 41 = .ok (.iload_n 0, 1) := by decide +kernel
theorem dJ6_bitCount_0f7a4_42 : decode cJ6_bitCount_0f7a4 42 = .ok (.iload_n 0, 1) := by decide +kernel
theorem dJ6_bitCount_0f7a4_43 : decode cJ6_bitCount_0f7a4 43 = .ok (.bipush 16, 2) := by decide +kernel
theorem dJ6_bitCount_0f7a4_45 : decode cJ6_bitCount_0f7a4 45 = .ok (.iushr, 1) := by decide +kernel
theorem dJ6_bitCount_0f7a4_46 : decode cJ6_bitCount_0f7a4 46 = .ok (.iadd, 1) := by decide +kernel
theorem dJ6_bitCount_0f7a4_47 : decode cJ6_bitCount_0f7a4 47 = .ok (.istore_n 0, 1) := by decide +kernel
theorem dJ6_bitCount_0f7a4_48 : decode cJ6_bitCount_0f7a4 48 = .ok (.iload_n 0, 1) := by decide +kernel
theorem dJ6_bitCount_0f7a4_49 : decode cJ6_bitCount_0f7a4 49 = .ok (.bipush 63, 2) := by decide +kernel
theorem dJ6_bitCount_0f7a4_51 : decode cJ6_bitCount_0f7a4 51 = .ok (.iand, 1) := by decide +kernel
theorem dJ6_bitCount_0f7a4_52 : decode cJ6_bitCount_0f7a4 52 = .ok (.ireturn, 1) := by decide +kernel
theorem dJ9_max_7cf53_0 : decode cJ9_max_7cf53 0 = .ok (.iload_n 0, 1) := by decide +kernel
theorem dJ9_max_7cf53_1 : decode cJ9_max_7cf53 1 = .ok (.iload_n 1, 1) := by decide +kernel
theorem dJ9_max_7cf53_2 : decode cJ9_max_7cf53 2 = .ok (.if_icmp .lt 7, 3) := by decide +kernel
theorem dJ9_max_7cf53_5 : decode cJ9_max_7cf53 5 = .ok (.iload_n 0, 1) := by decide +kernel
theorem dJ9_max_7cf53_6 : decode cJ9_max_7cf53 6 = .ok (.goto 4, 3) := by decide +kernel
theorem dJ9_max_7cf53_9 : decode cJ9_max_7cf53 9 = .ok (.iload_n 1, 1) := by decide +kernel
theorem dJ9_max_7cf53_10 : decode cJ9_max_7cf53 10 = .ok (.ireturn, 1) := by decide +kernel
theorem dJ9_min_7cf53_0 : decode cJ9_min_7cf53 0 = .ok (.iload_n 0, 1) := by decide +kernel
theorem dJ9_min_7cf53_1 : decode cJ9_min_7cf53 1 = .ok (.iload_n 1, 1) := by decide +kernel
theorem dJ9_min_7cf53_2 : decode cJ9_min_7cf53 2 = .ok (.if_icmp .gt 7, 3) := by decide +kernel
theorem dJ9_min_7cf53_5 : decode cJ9_min_7cf53 5 = .ok (.iload_n 0, 1) := by decide +kernel
theorem dJ9_min_7cf53_6 : decode cJ9_min_7cf53 6 = .ok (.goto 4, 3) := by decide +kernel
theorem dJ9_min_7cf53_9 : decode cJ9_min_7cf53 9 = .ok (.iload_n 1, 1) := by decide +kernel
theorem dJ9_min_7cf53_10 : decode cJ9_min_7cf53 10 = .ok (.ireturn, 1) := by decide +kernel
end
section
/-! for the printed functions and walks -/
theorem lf0 : lfew [] [] := trivial
theorem lfS {a : Option Value} {r q : List (Option Value)} (h : lfew r q) : lfew (a :: r) (a :: q) := ⟨Or.inr rfl, h⟩
theorem lfN {a : Option Value} {r q : List (Option Value)} (h : lfew r q) : lfew (a :: r) (none :: q) := ⟨Or.inl rfl, h⟩
theorem cc0 : ∀ v ∈ ([] : List Value), v.category = 1 := fun _ h => nomatch h
theorem ccI {x : Int32} {l : List Value} (h : ∀ v ∈ l, v.category = 1) : ∀ v ∈ Value.int x :: l, v.category = 1 := fun v hv => (List.mem_cons.mp hv).elim (fun e => by rw [e]; rfl) (h v)
theorem ccR {x : Nat} {l : List Value} (h : ∀ v ∈ l, v.category = 1) : ∀ v ∈ Value.ref x :: l, v.category = 1 := fun v hv => (List.mem_cons.mp hv).elim (fun e => by rw [e]; rfl) (h v)
theorem s_st {p : Program} {l : Launch} {e : Env} {R : Room} {s : State} {m : MethodId} {args : Array Value} {below : List Frame} {meth : Method} {c : Code} {cells slots : Nat} {Q : State → Prop} {A : Nat → Prop} {D : va_G} {ca : Nat → ClassId} {ad : Nat → Nat} {sh : List sO} {pc : Nat} {lo : List (Option Value)} {st st' : List Value} {σ : St} (h : st = st') (k : WW p l e R s m args below meth c cells slots Q A D ca ad sh pc lo st' σ) : WW p l e R s m args below meth c cells slots Q A D ca ad sh pc lo st σ := h ▸ k
theorem cM.intro2 {l : Launch} {y : MethodName} {cc : ByteArray} {nL : Nat} {ret : Option FieldType} {rm : Room} {D : va_G} {ca : Nat → ClassId} {ad : Nat → Nat} {sh : List sO} {av : List Value} {σ : St} {ov : Option Value} {τ : St} {own : String} {lo : List (Option Value)}
    (hy : plainName y.cls = true) (hown : y.cls = own) (hc : ∀ v ∈ av, v.category = 1) (hn : av.length ≤ nL) (hlo : lo0 av nL = lo)
    (k : ∀ (p : Program) (e : Env) (s : State) (m : MethodId) (args : Array Value) (below : List Frame) (meth : Method) (c : Code) (A : Nat → Prop), CX p s m args c D ca A own cc nL → meth.sig.returnType = ret → meth.locks = false →
      WW p l e rm s m args below meth c 0 0 (EQ D ca ad sh A below args s ov τ) A D ca ad sh 0 lo [] σ) : cM l y (.code y cc nL ret) rm D ca ad sh av σ ov τ := cM.intro hy hown hc hn (by rw [hlo]; exact k)
theorem SH_0 : SH[0]? = some oPS := rfl
theorem SH_1 : SH[1]? = some (.inr (1, 6, some (some 5))) := rfl
theorem SH_4 : SH[4]? = some (.inr (0, 6, none)) := rfl
theorem SH_25 : SH[25]? = some oM := rfl
theorem SH_26 : SH[26]? = some (.inr (0, 18, none)) := rfl
theorem SH_27 : SH[27]? = some (.inr (0, 6, none)) := rfl
theorem SH_28 : SH[28]? = some (.inr (0, 6, none)) := rfl
theorem SH_29 : SH[29]? = some (.inr (0, 6, none)) := rfl
theorem SH_30 : SH[30]? = some (.inr (0, 6, none)) := rfl
theorem SH_31 : SH[31]? = some (.inr (0, 6, none)) := rfl
theorem SH_32 : SH[32]? = some (.inr (0, 6, none)) := rfl
theorem SH_33 : SH[33]? = some (.inr (0, 6, none)) := rfl
theorem SH_34 : SH[34]? = some (.inr (0, 6, none)) := rfl
theorem SH_35 : SH[35]? = some (.inr (0, 6, none)) := rfl
theorem SH_36 : SH[36]? = some (.inr (0, 6, none)) := rfl
theorem SH_37 : SH[37]? = some (.inr (0, 6, none)) := rfl
theorem SH_38 : SH[38]? = some (.inr (0, 6, none)) := rfl
theorem SH_39 : SH[39]? = some (.inr (0, 6, none)) := rfl
theorem SH_40 : SH[40]? = some (.inr (0, 6, none)) := rfl
theorem SH_41 : SH[41]? = some (.inr (0, 6, none)) := rfl
theorem SH_42 : SH[42]? = some (.inr (0, 6, none)) := rfl
theorem SH_43 : SH[43]? = some (.inr (0, 6, none)) := rfl
theorem SH_44 : SH[44]? = some (.inr (0, 7, none)) := rfl
theorem SH_45 : SH[45]? = some (.inr (0, 7, none)) := rfl
theorem SH_46 : SH[46]? = some (.inr (0, 7, none)) := rfl
theorem SH_47 : SH[47]? = some (.inr (0, 7, none)) := rfl
theorem SH_48 : SH[48]? = some (.inr (0, 168, none)) := rfl
theorem SH_49 : SH[49]? = some (.inr (0, 21, none)) := rfl
theorem SH_50 : SH[50]? = some (.inr (0, 8, none)) := rfl
theorem SH_51 : SH[51]? = some (.inr (3, 1, some none)) := rfl
end
section
def f_J6_bitCount_0f7a4 (N : Nat) (a0 : Int32) (σ : St) : Option (Int32 × St) :=
  some (((((((((a0 - ((iush a0 1) &&& 1431655765)) &&& 858993459) + ((iush (a0 - ((iush a0 1) &&& 1431655765)) 2) &&& 858993459)) + (iush (((a0 - ((iush a0 1) &&& 1431655765)) &&& 858993459) + ((iush (a0 - ((iush a0 1) &&& 1431655765)) 2) &&& 858993459)) 4)) &&& 252645135) + (iush (((((a0 - ((iush a0 1) &&& 1431655765)) &&& 858993459) + ((iush (a0 - ((iush a0 1) &&& 1431655765)) 2) &&& 858993459)) + (iush (((a0 - ((iush a0 1) &&& 1431655765)) &&& 858993459) + ((iush (a0 - ((iush a0 1) &&& 1431655765)) 2) &&& 858993459)) 4)) &&& 252645135) 8)) + (iush ((((((a0 - ((iush a0 1) &&& 1431655765)) &&& 858993459) + ((iush (a0 - ((iush a0 1) &&& 1431655765)) 2) &&& 858993459)) + (iush (((a0 - ((iush a0 1) &&& 1431655765)) &&& 858993459) + ((iush (a0 - ((iush a0 1) &&& 1431655765)) 2) &&& 858993459)) 4)) &&& 252645135) + (iush (((((a0 - ((iush a0 1) &&& 1431655765)) &&& 858993459) + ((iush (a0 - ((iush a0 1) &&& 1431655765)) 2) &&& 858993459)) + (iush (((a0 - ((iush a0 1) &&& 1431655765)) &&& 858993459) + ((iush (a0 - ((iush a0 1) &&& 1431655765)) 2) &&& 858993459)) 4)) &&& 252645135) 8)) 16)) &&& 63), σ)
set_option maxRecDepth 100000 in
set_option maxHeartbeats 4000000 in
theorem c_J6_bitCount_0f7a4 (l : Launch) (D : va_G) (ca : Nat → ClassId) (ad : Nat → Nat) (N : Nat) (a0 : Int32) (σ : St) (r : Int32) (τ : St) (hf : f_J6_bitCount_0f7a4 N a0 σ = some (r, τ)) : cM l yJ6_bitCount_0f7a4 (.code yJ6_bitCount_0f7a4 cJ6_bitCount_0f7a4 1 (some .int)) (rmk 0) D ca ad SH [.int a0] σ (some (.int r)) τ := by
  refine cM.intro2 (own := RJ6) (lo := [some (.int a0)]) (by decide) rfl (ccI cc0) (Nat.le_of_ble_eq_true rfl) rfl ?_
  intro p e s m args below meth c A C hr hlk
  unfold f_J6_bitCount_0f7a4 at hf
  refine s_iloadn (pc := 0) C dJ6_bitCount_0f7a4_0 rfl ?_
  refine s_iloadn (pc := 1) C dJ6_bitCount_0f7a4_1 rfl ?_
  refine s_iconst (pc := 2) (v := 1) C dJ6_bitCount_0f7a4_2 (by decide) ?_
  refine s_ush (pc := 3) C dJ6_bitCount_0f7a4_3 ?_
  refine s_ldcw (pc := 4) (v := 1431655765) C hc_J6_265 dJ6_bitCount_0f7a4_4 ?_
  refine s_iand (pc := 7) C dJ6_bitCount_0f7a4_7 ?_
  refine s_isub (pc := 8) C dJ6_bitCount_0f7a4_8 ?_
  refine s_istoren (pc := 9) (lo' := [some (.int (a0 - ((iush a0 1) &&& 1431655765)))]) C dJ6_bitCount_0f7a4_9 (Nat.le_of_ble_eq_true rfl) rfl ?_
  refine s_iloadn (pc := 10) C dJ6_bitCount_0f7a4_10 rfl ?_
  refine s_ldcw (pc := 11) (v := 858993459) C hc_J6_266 dJ6_bitCount_0f7a4_11 ?_
  refine s_iand (pc := 14) C dJ6_bitCount_0f7a4_14 ?_
  refine s_iloadn (pc := 15) C dJ6_bitCount_0f7a4_15 rfl ?_
  refine s_iconst (pc := 16) (v := 2) C dJ6_bitCount_0f7a4_16 (by decide) ?_
  refine s_ush (pc := 17) C dJ6_bitCount_0f7a4_17 ?_
  refine s_ldcw (pc := 18) (v := 858993459) C hc_J6_266 dJ6_bitCount_0f7a4_18 ?_
  refine s_iand (pc := 21) C dJ6_bitCount_0f7a4_21 ?_
  refine s_iadd (pc := 22) C dJ6_bitCount_0f7a4_22 ?_
  refine s_istoren (pc := 23) (lo' := [some (.int (((a0 - ((iush a0 1) &&& 1431655765)) &&& 858993459) + ((iush (a0 - ((iush a0 1) &&& 1431655765)) 2) &&& 858993459)))]) C dJ6_bitCount_0f7a4_23 (Nat.le_of_ble_eq_true rfl) rfl ?_
  refine s_iloadn (pc := 24) C dJ6_bitCount_0f7a4_24 rfl ?_
  refine s_iloadn (pc := 25) C dJ6_bitCount_0f7a4_25 rfl ?_
  refine s_iconst (pc := 26) (v := 4) C dJ6_bitCount_0f7a4_26 (by decide) ?_
  refine s_ush (pc := 27) C dJ6_bitCount_0f7a4_27 ?_
  refine s_iadd (pc := 28) C dJ6_bitCount_0f7a4_28 ?_
  refine s_ldcw (pc := 29) (v := 252645135) C hc_J6_267 dJ6_bitCount_0f7a4_29 ?_
  refine s_iand (pc := 32) C dJ6_bitCount_0f7a4_32 ?_
  refine s_istoren (pc := 33) (lo' := [some (.int (((((a0 - ((iush a0 1) &&& 1431655765)) &&& 858993459) + ((iush (a0 - ((iush a0 1) &&& 1431655765)) 2) &&& 858993459)) + (iush (((a0 - ((iush a0 1) &&& 1431655765)) &&& 858993459) + ((iush (a0 - ((iush a0 1) &&& 1431655765)) 2) &&& 858993459)) 4)) &&& 252645135))]) C dJ6_bitCount_0f7a4_33 (Nat.le_of_ble_eq_true rfl) rfl ?_
  refine s_iloadn (pc := 34) C dJ6_bitCount_0f7a4_34 rfl ?_
  refine s_iloadn (pc := 35) C dJ6_bitCount_0f7a4_35 rfl ?_
  refine s_bipush (pc := 36) (v := 8) C dJ6_bitCount_0f7a4_36 (by decide) ?_
  refine s_ush (pc := 38) C dJ6_bitCount_0f7a4_38 ?_
  refine s_iadd (pc := 39) C dJ6_bitCount_0f7a4_39 ?_
  refine s_istoren (pc := 40) (lo' := [some (.int ((((((a0 - ((iush a0 1) &&& 1431655765)) &&& 858993459) + ((iush (a0 - ((iush a0 1) &&& 1431655765)) 2) &&& 858993459)) + (iush (((a0 - ((iush a0 1) &&& 1431655765)) &&& 858993459) + ((iush (a0 - ((iush a0 1) &&& 1431655765)) 2) &&& 858993459)) 4)) &&& 252645135) + (iush (((((a0 - ((iush a0 1) &&& 1431655765)) &&& 858993459) + ((iush (a0 - ((iush a0 1) &&& 1431655765)) 2) &&& 858993459)) + (iush (((a0 - ((iush a0 1) &&& 1431655765)) &&& 858993459) + ((iush (a0 - ((iush a0 1) &&& 1431655765)) 2) &&& 858993459)) 4)) &&& 252645135) 8)))]) C dJ6_bitCount_0f7a4_40 (Nat.le_of_ble_eq_true rfl) rfl ?_
  refine s_iloadn (pc := 41) C dJ6_bitCount_0f7a4_41 rfl ?_
  refine s_iloadn (pc := 42) C dJ6_bitCount_0f7a4_42 rfl ?_
  refine s_bipush (pc := 43) (v := 16) C dJ6_bitCount_0f7a4_43 (by decide) ?_
  refine s_ush (pc := 45) C dJ6_bitCount_0f7a4_45 ?_
  refine s_iadd (pc := 46) C dJ6_bitCount_0f7a4_46 ?_
  refine s_istoren (pc := 47) (lo' := [some (.int (((((((a0 - ((iush a0 1) &&& 1431655765)) &&& 858993459) + ((iush (a0 - ((iush a0 1) &&& 1431655765)) 2) &&& 858993459)) + (iush (((a0 - ((iush a0 1) &&& 1431655765)) &&& 858993459) + ((iush (a0 - ((iush a0 1) &&& 1431655765)) 2) &&& 858993459)) 4)) &&& 252645135) + (iush (((((a0 - ((iush a0 1) &&& 1431655765)) &&& 858993459) + ((iush (a0 - ((iush a0 1) &&& 1431655765)) 2) &&& 858993459)) + (iush (((a0 - ((iush a0 1) &&& 1431655765)) &&& 858993459) + ((iush (a0 - ((iush a0 1) &&& 1431655765)) 2) &&& 858993459)) 4)) &&& 252645135) 8)) + (iush ((((((a0 - ((iush a0 1) &&& 1431655765)) &&& 858993459) + ((iush (a0 - ((iush a0 1) &&& 1431655765)) 2) &&& 858993459)) + (iush (((a0 - ((iush a0 1) &&& 1431655765)) &&& 858993459) + ((iush (a0 - ((iush a0 1) &&& 1431655765)) 2) &&& 858993459)) 4)) &&& 252645135) + (iush (((((a0 - ((iush a0 1) &&& 1431655765)) &&& 858993459) + ((iush (a0 - ((iush a0 1) &&& 1431655765)) 2) &&& 858993459)) + (iush (((a0 - ((iush a0 1) &&& 1431655765)) &&& 858993459) + ((iush (a0 - ((iush a0 1) &&& 1431655765)) 2) &&& 858993459)) 4)) &&& 252645135) 8)) 16)))]) C dJ6_bitCount_0f7a4_47 (Nat.le_of_ble_eq_true rfl) rfl ?_
  refine s_iloadn (pc := 48) C dJ6_bitCount_0f7a4_48 rfl ?_
  refine s_bipush (pc := 49) (v := 63) C dJ6_bitCount_0f7a4_49 (by decide) ?_
  refine s_iand (pc := 51) C dJ6_bitCount_0f7a4_51 ?_
  exact s_iret (pc := 52) C hr hlk dJ6_bitCount_0f7a4_52 (congrArg (fun z => some (Value.int z)) (rt hf).1) (rt hf).2
end
section
def f_X3_isIn (N : Nat) (a0 : Int32) (a1 : Int32) (σ : St) : Option (Int32 × St) :=
  if ((a0 >>> (a1 &&& 31)) &&& 1) = 1 then
    some (1, σ)
  else
    some (0, σ)
set_option maxRecDepth 100000 in
set_option maxHeartbeats 4000000 in
theorem c_X3_isIn (l : Launch) (D : va_G) (ca : Nat → ClassId) (ad : Nat → Nat) (N : Nat) (a0 : Int32) (a1 : Int32) (σ : St) (r : Int32) (τ : St) (hf : f_X3_isIn N a0 a1 σ = some (r, τ)) : cM l yX3_isIn (.code yX3_isIn cX3_isIn 2 (some .boolean)) (rmk 0) D ca ad SH [.int a0, .int a1] σ (some (.int r)) τ := by
  refine cM.intro2 (own := RX3) (lo := [some (.int a0), some (.int a1)]) (by decide) rfl (ccI (ccI cc0)) (Nat.le_of_ble_eq_true rfl) rfl ?_
  intro p e s m args below meth c A C hr hlk
  unfold f_X3_isIn at hf
  refine s_iloadn (pc := 0) C dX3_isIn_0 rfl ?_
  refine s_iloadn (pc := 1) C dX3_isIn_1 rfl ?_
  refine s_ishr (pc := 2) C dX3_isIn_2 ?_
  refine s_iconst (pc := 3) (v := 1) C dX3_isIn_3 (by decide) ?_
  refine s_iand (pc := 4) C dX3_isIn_4 ?_
  refine s_iconst (pc := 5) (v := 1) C dX3_isIn_5 (by decide) ?_
  refine s_icmp_ne (pc := 6) (tgt := 13) C dX3_isIn_6 (by decide) (fun h_1 => ?_) (fun h_1 => ?_)
  · replace hf := ifn h_1 hf
    refine s_iconst (pc := 13) (v := 0) C dX3_isIn_13 (by decide) ?_
    exact s_zret (pc := 14) C hr hlk dX3_isIn_14 (by decide) (congrArg (fun z => some (Value.int z)) (rt hf).1) (rt hf).2
  · replace hf := ifp h_1 hf
    refine s_iconst (pc := 9) (v := 1) C dX3_isIn_9 (by decide) ?_
    refine s_goto (pc := 10) (tgt := 14) C dX3_isIn_10 (by decide) ?_
    exact s_zret (pc := 14) C hr hlk dX3_isIn_14 (by decide) (congrArg (fun z => some (Value.int z)) (rt hf).1) (rt hf).2
def f_X0_become (N : Nat) (q0 : Nat) (a1 : Int32) (a2 : Int32) (a3 : Int32) (a4 : Int32) (σ : St) : Option (St) :=
  some (su (su (su (su σ q0 0 a1) q0 1 a2) q0 2 a3) q0 3 a4)
set_option maxRecDepth 100000 in
set_option maxHeartbeats 4000000 in
theorem c_X0_become (l : Launch) (D : va_G) (ca : Nat → ClassId) (ad : Nat → Nat) (N : Nat) (q0 : Nat) (hq0 : SH[q0]? = some oPiece) (a1 : Int32) (a2 : Int32) (a3 : Int32) (a4 : Int32) (σ : St) (τ : St) (hf : f_X0_become N q0 a1 a2 a3 a4 σ = some τ) : cM l yX0_become (.code yX0_become cX0_become 5 none) (rmk 0) D ca ad SH [.ref (ad q0), .int a1, .int a2, .int a3, .int a4] σ none τ := by
  refine cM.intro2 (own := RX0) (lo := [some (.ref (ad q0)), some (.int a1), some (.int a2), some (.int a3), some (.int a4)]) (by decide) rfl (ccR (ccI (ccI (ccI (ccI cc0))))) (Nat.le_of_ble_eq_true rfl) rfl ?_
  intro p e s m args below meth c A C hr hlk
  unfold f_X0_become at hf
  refine s_aloadn (pc := 0) C dX0_become_0 rfl ?_
  refine s_iloadn (pc := 1) C dX0_become_1 rfl ?_
  refine s_putI (pc := 2) C fp_X0_21 hq0 rfl dX0_become_2 ?_
  refine s_aloadn (pc := 5) C dX0_become_5 rfl ?_
  refine s_iloadn (pc := 6) C dX0_become_6 rfl ?_
  refine s_putI (pc := 7) C fp_X0_24 hq0 rfl dX0_become_7 ?_
  refine s_aloadn (pc := 10) C dX0_become_10 rfl ?_
  refine s_iloadn (pc := 11) C dX0_become_11 rfl ?_
  refine s_putI (pc := 12) C fp_X0_27 hq0 rfl dX0_become_12 ?_
  refine s_aloadn (pc := 15) C dX0_become_15 rfl ?_
  refine s_iload (pc := 16) C dX0_become_16 rfl ?_
  refine s_putI (pc := 18) C fp_X0_30 hq0 rfl dX0_become_18 ?_
  exact s_vret (pc := 21) C hr hlk dX0_become_21 rfl (rtv hf)
def f_X0_isPacked (N : Nat) (q0 : Nat) (σ : St) : Option (Int32 × St) :=
  if (σ q0 7) = (-1) then
    some (0, σ)
  else
    some (1, σ)
set_option maxRecDepth 100000 in
set_option maxHeartbeats 4000000 in
theorem c_X0_isPacked (l : Launch) (D : va_G) (ca : Nat → ClassId) (ad : Nat → Nat) (N : Nat) (q0 : Nat) (hq0 : SH[q0]? = some oPiece) (σ : St) (r : Int32) (τ : St) (hf : f_X0_isPacked N q0 σ = some (r, τ)) : cM l yX0_isPacked (.code yX0_isPacked cX0_isPacked 1 (some .boolean)) (rmk 0) D ca ad SH [.ref (ad q0)] σ (some (.int r)) τ := by
  refine cM.intro2 (own := RX0) (lo := [some (.ref (ad q0))]) (by decide) rfl (ccR cc0) (Nat.le_of_ble_eq_true rfl) rfl ?_
  intro p e s m args below meth c A C hr hlk
  unfold f_X0_isPacked at hf
  refine s_aloadn (pc := 0) C dX0_isPacked_0 rfl ?_
  refine s_getI (pc := 1) C fl_X0_18 hq0 rfl dX0_isPacked_1 ?_
  refine s_iconst (pc := 4) (v := (-1)) C dX0_isPacked_4 (by decide) ?_
  refine s_icmp_eq (pc := 5) (tgt := 12) C dX0_isPacked_5 (by decide) (fun h_1 => ?_) (fun h_1 => ?_)
  · replace hf := ifp h_1 hf
    refine s_iconst (pc := 12) (v := 0) C dX0_isPacked_12 (by decide) ?_
    exact s_zret (pc := 13) C hr hlk dX0_isPacked_13 (by decide) (congrArg (fun z => some (Value.int z)) (rt hf).1) (rt hf).2
  · replace hf := ifn h_1 hf
    refine s_iconst (pc := 8) (v := 1) C dX0_isPacked_8 (by decide) ?_
    refine s_goto (pc := 9) (tgt := 13) C dX0_isPacked_9 (by decide) ?_
    exact s_zret (pc := 13) C hr hlk dX0_isPacked_13 (by decide) (congrArg (fun z => some (Value.int z)) (rt hf).1) (rt hf).2
def f_X0_volume (N : Nat) (q0 : Nat) (σ : St) : Option (Int32 × St) :=
  some ((((σ q0 0) * (σ q0 1)) * (σ q0 2)), σ)
set_option maxRecDepth 100000 in
set_option maxHeartbeats 4000000 in
theorem c_X0_volume (l : Launch) (D : va_G) (ca : Nat → ClassId) (ad : Nat → Nat) (N : Nat) (q0 : Nat) (hq0 : SH[q0]? = some oPiece) (σ : St) (r : Int32) (τ : St) (hf : f_X0_volume N q0 σ = some (r, τ)) : cM l yX0_volume (.code yX0_volume cX0_volume 1 (some .int)) (rmk 0) D ca ad SH [.ref (ad q0)] σ (some (.int r)) τ := by
  refine cM.intro2 (own := RX0) (lo := [some (.ref (ad q0))]) (by decide) rfl (ccR cc0) (Nat.le_of_ble_eq_true rfl) rfl ?_
  intro p e s m args below meth c A C hr hlk
  unfold f_X0_volume at hf
  refine s_aloadn (pc := 0) C dX0_volume_0 rfl ?_
  refine s_getI (pc := 1) C fl_X0_21 hq0 rfl dX0_volume_1 ?_
  refine s_aloadn (pc := 4) C dX0_volume_4 rfl ?_
  refine s_getI (pc := 5) C fl_X0_24 hq0 rfl dX0_volume_5 ?_
  refine s_imul (pc := 8) C dX0_volume_8 ?_
  refine s_aloadn (pc := 9) C dX0_volume_9 rfl ?_
  refine s_getI (pc := 10) C fl_X0_27 hq0 rfl dX0_volume_10 ?_
  refine s_imul (pc := 13) C dX0_volume_13 ?_
  exact s_iret (pc := 14) C hr hlk dX0_volume_14 (congrArg (fun z => some (Value.int z)) (rt hf).1) (rt hf).2
def f_X0_lets (N : Nat) (q0 : Nat) (a1 : Int32) (σ : St) : Option (Int32 × St) :=
  bn (f_X3_isIn N (σ q0 4) a1 σ) fun r_1 τ_1 =>
  if r_1 = 0 ∨ r_1 = 1 then some (r_1, τ_1) else none
set_option maxRecDepth 100000 in
set_option maxHeartbeats 4000000 in
theorem c_X0_lets (l : Launch) (D : va_G) (ca : Nat → ClassId) (ad : Nat → Nat) (N : Nat) (q0 : Nat) (hq0 : SH[q0]? = some oPiece) (a1 : Int32) (σ : St) (r : Int32) (τ : St) (hf : f_X0_lets N q0 a1 σ = some (r, τ)) : cM l yX0_lets (.code yX0_lets cX0_lets 2 (some .boolean)) (rmk 1) D ca ad SH [.ref (ad q0), .int a1] σ (some (.int r)) τ := by
  refine cM.intro2 (own := RX0) (lo := [some (.ref (ad q0)), some (.int a1)]) (by decide) rfl (ccR (ccI cc0)) (Nat.le_of_ble_eq_true rfl) rfl ?_
  intro p e s m args below meth c A C hr hlk
  unfold f_X0_lets at hf
  refine s_aloadn (pc := 0) C dX0_lets_0 rfl ?_
  refine s_getI (pc := 1) C fl_X0_9 hq0 rfl dX0_lets_1 ?_
  refine s_iloadn (pc := 4) C dX0_lets_4 rfl ?_
  obtain ⟨r_1, τ_1, e_1, hf⟩ := bnd hf
  refine s_callN (pc := 5) (rest := []) C rfl (c_X3_isIn l D ca ad N (σ q0 4) a1 σ r_1 τ_1 e_1) kn_X0_33 ⟨rfl, rfl⟩ (by decide) rfl rfl (Nat.le_of_ble_eq_true rfl) dX0_lets_5 ⟨Nat.zero_le _, Nat.zero_le _⟩ ?_
  refine s_st (st' := [.int r_1]) rfl ?_
  obtain ⟨g_1, hf⟩ := gd hf
  exact s_zret (pc := 8) C hr hlk dX0_lets_8 g_1 (congrArg (fun z => some (Value.int z)) (rt hf).1) (rt hf).2
def f_X0_wayCount (N : Nat) (q0 : Nat) (σ : St) : Option (Int32 × St) :=
  bn (f_J6_bitCount_0f7a4 N (σ q0 4) σ) fun r_1 τ_1 =>
  some (r_1, τ_1)
set_option maxRecDepth 100000 in
set_option maxHeartbeats 4000000 in
theorem c_X0_wayCount (l : Launch) (D : va_G) (ca : Nat → ClassId) (ad : Nat → Nat) (N : Nat) (q0 : Nat) (hq0 : SH[q0]? = some oPiece) (σ : St) (r : Int32) (τ : St) (hf : f_X0_wayCount N q0 σ = some (r, τ)) : cM l yX0_wayCount (.code yX0_wayCount cX0_wayCount 1 (some .int)) (rmk 1) D ca ad SH [.ref (ad q0)] σ (some (.int r)) τ := by
  refine cM.intro2 (own := RX0) (lo := [some (.ref (ad q0))]) (by decide) rfl (ccR cc0) (Nat.le_of_ble_eq_true rfl) rfl ?_
  intro p e s m args below meth c A C hr hlk
  unfold f_X0_wayCount at hf
  refine s_aloadn (pc := 0) C dX0_wayCount_0 rfl ?_
  refine s_getI (pc := 1) C fl_X0_9 hq0 rfl dX0_wayCount_1 ?_
  obtain ⟨r_1, τ_1, e_1, hf⟩ := bnd hf
  refine s_callO (pc := 4) (rest := []) C rfl (c_J6_bitCount_0f7a4 l D ca ad N (σ q0 4) σ r_1 τ_1 e_1) ko_X0_37 ⟨rfl, rfl⟩ (by decide) rfl rfl (Nat.le_of_ble_eq_true rfl) dX0_wayCount_4 ⟨Nat.zero_le _, Nat.zero_le _⟩ ?_
  refine s_st (st' := [.int r_1]) rfl ?_
  exact s_iret (pc := 7) C hr hlk dX0_wayCount_7 (congrArg (fun z => some (Value.int z)) (rt hf).1) (rt hf).2
def f_X0_marksFor (N : Nat) (a0 : Int32) (σ : St) : Option (Int32 × St) :=
  if a0 = 0 then
    some (0, σ)
  else
    if a0 = 1 then
      some (1, σ)
    else
      if a0 = 2 then
        some (2, σ)
      else
        if a0 = 3 then
          some (3, σ)
        else
          if a0 = 4 then
            some (2, σ)
          else
            some (3, σ)
set_option maxRecDepth 100000 in
set_option maxHeartbeats 4000000 in
theorem c_X0_marksFor (l : Launch) (D : va_G) (ca : Nat → ClassId) (ad : Nat → Nat) (N : Nat) (a0 : Int32) (σ : St) (r : Int32) (τ : St) (hf : f_X0_marksFor N a0 σ = some (r, τ)) : cM l yX0_marksFor (.code yX0_marksFor cX0_marksFor 1 (some .int)) (rmk 0) D ca ad SH [.int a0] σ (some (.int r)) τ := by
  refine cM.intro2 (own := RX0) (lo := [some (.int a0)]) (by decide) rfl (ccI cc0) (Nat.le_of_ble_eq_true rfl) rfl ?_
  intro p e s m args below meth c A C hr hlk
  unfold f_X0_marksFor at hf
  refine s_iloadn (pc := 0) C dX0_marksFor_0 rfl ?_
  by_cases h_1 : a0 = 0
  · replace hf := ifp h_1 hf
    refine s_tsw (pc := 1) (off := 35) (tgt := 36) C h_1 dX0_marksFor_1 (by decide) ?_
    refine s_iconst (pc := 36) (v := 0) C dX0_marksFor_36 (by decide) ?_
    exact s_iret (pc := 37) C hr hlk dX0_marksFor_37 (congrArg (fun z => some (Value.int z)) (rt hf).1) (rt hf).2
  · replace hf := ifn h_1 hf
    by_cases h_2 : a0 = 1
    · replace hf := ifp h_2 hf
      refine s_tsw (pc := 1) (off := 37) (tgt := 38) C h_2 dX0_marksFor_1 (by decide) ?_
      refine s_iconst (pc := 38) (v := 1) C dX0_marksFor_38 (by decide) ?_
      exact s_iret (pc := 39) C hr hlk dX0_marksFor_39 (congrArg (fun z => some (Value.int z)) (rt hf).1) (rt hf).2
    · replace hf := ifn h_2 hf
      by_cases h_3 : a0 = 2
      · replace hf := ifp h_3 hf
        refine s_tsw (pc := 1) (off := 39) (tgt := 40) C h_3 dX0_marksFor_1 (by decide) ?_
        refine s_iconst (pc := 40) (v := 2) C dX0_marksFor_40 (by decide) ?_
        exact s_iret (pc := 41) C hr hlk dX0_marksFor_41 (congrArg (fun z => some (Value.int z)) (rt hf).1) (rt hf).2
      · replace hf := ifn h_3 hf
        by_cases h_4 : a0 = 3
        · replace hf := ifp h_4 hf
          refine s_tsw (pc := 1) (off := 41) (tgt := 42) C h_4 dX0_marksFor_1 (by decide) ?_
          refine s_iconst (pc := 42) (v := 3) C dX0_marksFor_42 (by decide) ?_
          exact s_iret (pc := 43) C hr hlk dX0_marksFor_43 (congrArg (fun z => some (Value.int z)) (rt hf).1) (rt hf).2
        · replace hf := ifn h_4 hf
          by_cases h_5 : a0 = 4
          · replace hf := ifp h_5 hf
            refine s_tsw (pc := 1) (off := 39) (tgt := 40) C h_5 dX0_marksFor_1 (by decide) ?_
            refine s_iconst (pc := 40) (v := 2) C dX0_marksFor_40 (by decide) ?_
            exact s_iret (pc := 41) C hr hlk dX0_marksFor_41 (congrArg (fun z => some (Value.int z)) (rt hf).1) (rt hf).2
          · replace hf := ifn h_5 hf
            have ho : (Int32.toInt a0) < 0 ∨ 4 < Int32.toInt a0 := by
              have z0 := lv_neT h_1 (a := 0) (by decide)
              have z1 := lv_neT h_2 (a := 1) (by decide)
              have z2 := lv_neT h_3 (a := 2) (by decide)
              have z3 := lv_neT h_4 (a := 3) (by decide)
              have z4 := lv_neT h_5 (a := 4) (by decide)
              omega
            refine s_tswD (pc := 1) (tgt := 42) C ho dX0_marksFor_1 (by decide) ?_
            refine s_iconst (pc := 42) (v := 3) C dX0_marksFor_42 (by decide) ?_
            exact s_iret (pc := 43) C hr hlk dX0_marksFor_43 (congrArg (fun z => some (Value.int z)) (rt hf).1) (rt hf).2
def f_X0_widthIn (N : Nat) (q0 : Nat) (a1 : Int32) (σ : St) : Option (Int32 × St) :=
  if a1 = 0 then
    some ((σ q0 0), σ)
  else
    if a1 = 1 then
      some ((σ q0 1), σ)
    else
      if a1 = 2 then
        some ((σ q0 0), σ)
      else
        if a1 = 3 then
          some ((σ q0 2), σ)
        else
          if a1 = 4 then
            some ((σ q0 1), σ)
          else
            some ((σ q0 2), σ)
set_option maxRecDepth 100000 in
set_option maxHeartbeats 4000000 in
theorem c_X0_widthIn (l : Launch) (D : va_G) (ca : Nat → ClassId) (ad : Nat → Nat) (N : Nat) (q0 : Nat) (hq0 : SH[q0]? = some oPiece) (a1 : Int32) (σ : St) (r : Int32) (τ : St) (hf : f_X0_widthIn N q0 a1 σ = some (r, τ)) : cM l yX0_widthIn (.code yX0_widthIn cX0_widthIn 2 (some .int)) (rmk 0) D ca ad SH [.ref (ad q0), .int a1] σ (some (.int r)) τ := by
  refine cM.intro2 (own := RX0) (lo := [some (.ref (ad q0)), some (.int a1)]) (by decide) rfl (ccR (ccI cc0)) (Nat.le_of_ble_eq_true rfl) rfl ?_
  intro p e s m args below meth c A C hr hlk
  unfold f_X0_widthIn at hf
  refine s_iloadn (pc := 0) C dX0_widthIn_0 rfl ?_
  by_cases h_1 : a1 = 0
  · replace hf := ifp h_1 hf
    refine s_tsw (pc := 1) (off := 35) (tgt := 36) C h_1 dX0_widthIn_1 (by decide) ?_
    refine s_aloadn (pc := 36) C dX0_widthIn_36 rfl ?_
    refine s_getI (pc := 37) C fl_X0_21 hq0 rfl dX0_widthIn_37 ?_
    exact s_iret (pc := 40) C hr hlk dX0_widthIn_40 (congrArg (fun z => some (Value.int z)) (rt hf).1) (rt hf).2
  · replace hf := ifn h_1 hf
    by_cases h_2 : a1 = 1
    · replace hf := ifp h_2 hf
      refine s_tsw (pc := 1) (off := 40) (tgt := 41) C h_2 dX0_widthIn_1 (by decide) ?_
      refine s_aloadn (pc := 41) C dX0_widthIn_41 rfl ?_
      refine s_getI (pc := 42) C fl_X0_24 hq0 rfl dX0_widthIn_42 ?_
      exact s_iret (pc := 45) C hr hlk dX0_widthIn_45 (congrArg (fun z => some (Value.int z)) (rt hf).1) (rt hf).2
    · replace hf := ifn h_2 hf
      by_cases h_3 : a1 = 2
      · replace hf := ifp h_3 hf
        refine s_tsw (pc := 1) (off := 35) (tgt := 36) C h_3 dX0_widthIn_1 (by decide) ?_
        refine s_aloadn (pc := 36) C dX0_widthIn_36 rfl ?_
        refine s_getI (pc := 37) C fl_X0_21 hq0 rfl dX0_widthIn_37 ?_
        exact s_iret (pc := 40) C hr hlk dX0_widthIn_40 (congrArg (fun z => some (Value.int z)) (rt hf).1) (rt hf).2
      · replace hf := ifn h_3 hf
        by_cases h_4 : a1 = 3
        · replace hf := ifp h_4 hf
          refine s_tsw (pc := 1) (off := 45) (tgt := 46) C h_4 dX0_widthIn_1 (by decide) ?_
          refine s_aloadn (pc := 46) C dX0_widthIn_46 rfl ?_
          refine s_getI (pc := 47) C fl_X0_27 hq0 rfl dX0_widthIn_47 ?_
          exact s_iret (pc := 50) C hr hlk dX0_widthIn_50 (congrArg (fun z => some (Value.int z)) (rt hf).1) (rt hf).2
        · replace hf := ifn h_4 hf
          by_cases h_5 : a1 = 4
          · replace hf := ifp h_5 hf
            refine s_tsw (pc := 1) (off := 40) (tgt := 41) C h_5 dX0_widthIn_1 (by decide) ?_
            refine s_aloadn (pc := 41) C dX0_widthIn_41 rfl ?_
            refine s_getI (pc := 42) C fl_X0_24 hq0 rfl dX0_widthIn_42 ?_
            exact s_iret (pc := 45) C hr hlk dX0_widthIn_45 (congrArg (fun z => some (Value.int z)) (rt hf).1) (rt hf).2
          · replace hf := ifn h_5 hf
            have ho : (Int32.toInt a1) < 0 ∨ 4 < Int32.toInt a1 := by
              have z0 := lv_neT h_1 (a := 0) (by decide)
              have z1 := lv_neT h_2 (a := 1) (by decide)
              have z2 := lv_neT h_3 (a := 2) (by decide)
              have z3 := lv_neT h_4 (a := 3) (by decide)
              have z4 := lv_neT h_5 (a := 4) (by decide)
              omega
            refine s_tswD (pc := 1) (tgt := 46) C ho dX0_widthIn_1 (by decide) ?_
            refine s_aloadn (pc := 46) C dX0_widthIn_46 rfl ?_
            refine s_getI (pc := 47) C fl_X0_27 hq0 rfl dX0_widthIn_47 ?_
            exact s_iret (pc := 50) C hr hlk dX0_widthIn_50 (congrArg (fun z => some (Value.int z)) (rt hf).1) (rt hf).2
def f_X0_depthIn (N : Nat) (q0 : Nat) (a1 : Int32) (σ : St) : Option (Int32 × St) :=
  if a1 = 0 then
    some ((σ q0 1), σ)
  else
    if a1 = 1 then
      some ((σ q0 0), σ)
    else
      if a1 = 2 then
        some ((σ q0 2), σ)
      else
        if a1 = 3 then
          some ((σ q0 0), σ)
        else
          if a1 = 4 then
            some ((σ q0 2), σ)
          else
            if a1 = 5 then
              some ((σ q0 1), σ)
            else
              some ((σ q0 2), σ)
set_option maxRecDepth 100000 in
set_option maxHeartbeats 4000000 in
theorem c_X0_depthIn (l : Launch) (D : va_G) (ca : Nat → ClassId) (ad : Nat → Nat) (N : Nat) (q0 : Nat) (hq0 : SH[q0]? = some oPiece) (a1 : Int32) (σ : St) (r : Int32) (τ : St) (hf : f_X0_depthIn N q0 a1 σ = some (r, τ)) : cM l yX0_depthIn (.code yX0_depthIn cX0_depthIn 2 (some .int)) (rmk 0) D ca ad SH [.ref (ad q0), .int a1] σ (some (.int r)) τ := by
  refine cM.intro2 (own := RX0) (lo := [some (.ref (ad q0)), some (.int a1)]) (by decide) rfl (ccR (ccI cc0)) (Nat.le_of_ble_eq_true rfl) rfl ?_
  intro p e s m args below meth c A C hr hlk
  unfold f_X0_depthIn at hf
  refine s_iloadn (pc := 0) C dX0_depthIn_0 rfl ?_
  by_cases h_1 : a1 = 0
  · replace hf := ifp h_1 hf
    refine s_tsw (pc := 1) (off := 44) (tgt := 45) C h_1 dX0_depthIn_1 (by decide) ?_
    refine s_aloadn (pc := 45) C dX0_depthIn_45 rfl ?_
    refine s_getI (pc := 46) C fl_X0_24 hq0 rfl dX0_depthIn_46 ?_
    exact s_iret (pc := 49) C hr hlk dX0_depthIn_49 (congrArg (fun z => some (Value.int z)) (rt hf).1) (rt hf).2
  · replace hf := ifn h_1 hf
    by_cases h_2 : a1 = 1
    · replace hf := ifp h_2 hf
      refine s_tsw (pc := 1) (off := 39) (tgt := 40) C h_2 dX0_depthIn_1 (by decide) ?_
      refine s_aloadn (pc := 40) C dX0_depthIn_40 rfl ?_
      refine s_getI (pc := 41) C fl_X0_21 hq0 rfl dX0_depthIn_41 ?_
      exact s_iret (pc := 44) C hr hlk dX0_depthIn_44 (congrArg (fun z => some (Value.int z)) (rt hf).1) (rt hf).2
    · replace hf := ifn h_2 hf
      by_cases h_3 : a1 = 2
      · replace hf := ifp h_3 hf
        refine s_tsw (pc := 1) (off := 49) (tgt := 50) C h_3 dX0_depthIn_1 (by decide) ?_
        refine s_aloadn (pc := 50) C dX0_depthIn_50 rfl ?_
        refine s_getI (pc := 51) C fl_X0_27 hq0 rfl dX0_depthIn_51 ?_
        exact s_iret (pc := 54) C hr hlk dX0_depthIn_54 (congrArg (fun z => some (Value.int z)) (rt hf).1) (rt hf).2
      · replace hf := ifn h_3 hf
        by_cases h_4 : a1 = 3
        · replace hf := ifp h_4 hf
          refine s_tsw (pc := 1) (off := 39) (tgt := 40) C h_4 dX0_depthIn_1 (by decide) ?_
          refine s_aloadn (pc := 40) C dX0_depthIn_40 rfl ?_
          refine s_getI (pc := 41) C fl_X0_21 hq0 rfl dX0_depthIn_41 ?_
          exact s_iret (pc := 44) C hr hlk dX0_depthIn_44 (congrArg (fun z => some (Value.int z)) (rt hf).1) (rt hf).2
        · replace hf := ifn h_4 hf
          by_cases h_5 : a1 = 4
          · replace hf := ifp h_5 hf
            refine s_tsw (pc := 1) (off := 49) (tgt := 50) C h_5 dX0_depthIn_1 (by decide) ?_
            refine s_aloadn (pc := 50) C dX0_depthIn_50 rfl ?_
            refine s_getI (pc := 51) C fl_X0_27 hq0 rfl dX0_depthIn_51 ?_
            exact s_iret (pc := 54) C hr hlk dX0_depthIn_54 (congrArg (fun z => some (Value.int z)) (rt hf).1) (rt hf).2
          · replace hf := ifn h_5 hf
            by_cases h_6 : a1 = 5
            · replace hf := ifp h_6 hf
              refine s_tsw (pc := 1) (off := 44) (tgt := 45) C h_6 dX0_depthIn_1 (by decide) ?_
              refine s_aloadn (pc := 45) C dX0_depthIn_45 rfl ?_
              refine s_getI (pc := 46) C fl_X0_24 hq0 rfl dX0_depthIn_46 ?_
              exact s_iret (pc := 49) C hr hlk dX0_depthIn_49 (congrArg (fun z => some (Value.int z)) (rt hf).1) (rt hf).2
            · replace hf := ifn h_6 hf
              have ho : (Int32.toInt a1) < 0 ∨ 5 < Int32.toInt a1 := by
                have z0 := lv_neT h_1 (a := 0) (by decide)
                have z1 := lv_neT h_2 (a := 1) (by decide)
                have z2 := lv_neT h_3 (a := 2) (by decide)
                have z3 := lv_neT h_4 (a := 3) (by decide)
                have z4 := lv_neT h_5 (a := 4) (by decide)
                have z5 := lv_neT h_6 (a := 5) (by decide)
                omega
              refine s_tswD (pc := 1) (tgt := 50) C ho dX0_depthIn_1 (by decide) ?_
              refine s_aloadn (pc := 50) C dX0_depthIn_50 rfl ?_
              refine s_getI (pc := 51) C fl_X0_27 hq0 rfl dX0_depthIn_51 ?_
              exact s_iret (pc := 54) C hr hlk dX0_depthIn_54 (congrArg (fun z => some (Value.int z)) (rt hf).1) (rt hf).2
def f_X0_heightIn (N : Nat) (q0 : Nat) (a1 : Int32) (σ : St) : Option (Int32 × St) :=
  if a1 = 2 then
    some ((σ q0 1), σ)
  else
    if a1 = 3 then
      some ((σ q0 1), σ)
    else
      if a1 = 4 then
        some ((σ q0 0), σ)
      else
        if a1 = 5 then
          some ((σ q0 0), σ)
        else
          some ((σ q0 2), σ)
set_option maxRecDepth 100000 in
set_option maxHeartbeats 4000000 in
theorem c_X0_heightIn (l : Launch) (D : va_G) (ca : Nat → ClassId) (ad : Nat → Nat) (N : Nat) (q0 : Nat) (hq0 : SH[q0]? = some oPiece) (a1 : Int32) (σ : St) (r : Int32) (τ : St) (hf : f_X0_heightIn N q0 a1 σ = some (r, τ)) : cM l yX0_heightIn (.code yX0_heightIn cX0_heightIn 2 (some .int)) (rmk 0) D ca ad SH [.ref (ad q0), .int a1] σ (some (.int r)) τ := by
  refine cM.intro2 (own := RX0) (lo := [some (.ref (ad q0)), some (.int a1)]) (by decide) rfl (ccR (ccI cc0)) (Nat.le_of_ble_eq_true rfl) rfl ?_
  intro p e s m args below meth c A C hr hlk
  unfold f_X0_heightIn at hf
  refine s_iloadn (pc := 0) C dX0_heightIn_0 rfl ?_
  by_cases h_1 : a1 = 2
  · replace hf := ifp h_1 hf
    refine s_tsw (pc := 1) (off := 36) (tgt := 37) C h_1 dX0_heightIn_1 (by decide) ?_
    refine s_aloadn (pc := 37) C dX0_heightIn_37 rfl ?_
    refine s_getI (pc := 38) C fl_X0_24 hq0 rfl dX0_heightIn_38 ?_
    exact s_iret (pc := 41) C hr hlk dX0_heightIn_41 (congrArg (fun z => some (Value.int z)) (rt hf).1) (rt hf).2
  · replace hf := ifn h_1 hf
    by_cases h_2 : a1 = 3
    · replace hf := ifp h_2 hf
      refine s_tsw (pc := 1) (off := 36) (tgt := 37) C h_2 dX0_heightIn_1 (by decide) ?_
      refine s_aloadn (pc := 37) C dX0_heightIn_37 rfl ?_
      refine s_getI (pc := 38) C fl_X0_24 hq0 rfl dX0_heightIn_38 ?_
      exact s_iret (pc := 41) C hr hlk dX0_heightIn_41 (congrArg (fun z => some (Value.int z)) (rt hf).1) (rt hf).2
    · replace hf := ifn h_2 hf
      by_cases h_3 : a1 = 4
      · replace hf := ifp h_3 hf
        refine s_tsw (pc := 1) (off := 31) (tgt := 32) C h_3 dX0_heightIn_1 (by decide) ?_
        refine s_aloadn (pc := 32) C dX0_heightIn_32 rfl ?_
        refine s_getI (pc := 33) C fl_X0_21 hq0 rfl dX0_heightIn_33 ?_
        exact s_iret (pc := 36) C hr hlk dX0_heightIn_36 (congrArg (fun z => some (Value.int z)) (rt hf).1) (rt hf).2
      · replace hf := ifn h_3 hf
        by_cases h_4 : a1 = 5
        · replace hf := ifp h_4 hf
          refine s_tsw (pc := 1) (off := 31) (tgt := 32) C h_4 dX0_heightIn_1 (by decide) ?_
          refine s_aloadn (pc := 32) C dX0_heightIn_32 rfl ?_
          refine s_getI (pc := 33) C fl_X0_21 hq0 rfl dX0_heightIn_33 ?_
          exact s_iret (pc := 36) C hr hlk dX0_heightIn_36 (congrArg (fun z => some (Value.int z)) (rt hf).1) (rt hf).2
        · replace hf := ifn h_4 hf
          have ho : (Int32.toInt a1) < 2 ∨ 5 < Int32.toInt a1 := by
            have z2 := lv_neT h_1 (a := 2) (by decide)
            have z3 := lv_neT h_2 (a := 3) (by decide)
            have z4 := lv_neT h_3 (a := 4) (by decide)
            have z5 := lv_neT h_4 (a := 5) (by decide)
            omega
          refine s_tswD (pc := 1) (tgt := 42) C ho dX0_heightIn_1 (by decide) ?_
          refine s_aloadn (pc := 42) C dX0_heightIn_42 rfl ?_
          refine s_getI (pc := 43) C fl_X0_27 hq0 rfl dX0_heightIn_43 ?_
          exact s_iret (pc := 46) C hr hlk dX0_heightIn_46 (congrArg (fun z => some (Value.int z)) (rt hf).1) (rt hf).2
def lp_X0_isLikeOneLet_2 (N : Nat) (q0 : Nat) (a1 : Int32) : Nat → Int32 → Int32 → St → Option (Int32 × St)
  | 0, _, _, _ => none
  | n + 1, v1, v2, σ =>
    if v1 ≤ v2 then
      some (0, σ)
    else
      bn (f_X0_lets N q0 v2 σ) fun r_1 τ_1 =>
      if r_1 = 0 then
        lp_X0_isLikeOneLet_2 N q0 a1  n v1 (v2 + 1) τ_1
      else
        bn (f_X0_widthIn N q0 v2 τ_1) fun r_2 τ_2 =>
        bn (f_X0_widthIn N q0 v1 τ_2) fun r_3 τ_3 =>
        if r_2 = r_3 then
          bn (f_X0_depthIn N q0 v2 τ_3) fun r_4 τ_4 =>
          bn (f_X0_depthIn N q0 v1 τ_4) fun r_5 τ_5 =>
          if r_4 = r_5 then
            bn (f_X0_heightIn N q0 v2 τ_5) fun r_6 τ_6 =>
            bn (f_X0_heightIn N q0 v1 τ_6) fun r_7 τ_7 =>
            if r_6 = r_7 then
              some (1, τ_7)
            else
              lp_X0_isLikeOneLet_2 N q0 a1  n v1 (v2 + 1) τ_7
          else
            lp_X0_isLikeOneLet_2 N q0 a1  n v1 (v2 + 1) τ_5
        else
          lp_X0_isLikeOneLet_2 N q0 a1  n v1 (v2 + 1) τ_3
set_option maxRecDepth 100000 in
set_option maxHeartbeats 4000000 in
theorem w_X0_isLikeOneLet_2 {l : Launch} {D : va_G} {ca : Nat → ClassId} {ad : Nat → Nat} {p : Program} {e : Env} {s : State} {m : MethodId} {args : Array Value} {below : List Frame} {meth : Method} {c : Code} {A : Nat → Prop} (C : CX p s m args c D ca A RX0 cX0_isLikeOneLet 3) (hr : meth.sig.returnType = (some .boolean)) (hlk : meth.locks = false) (N : Nat) (q0 : Nat) (hq0 : SH[q0]? = some oPiece) (a1 : Int32) (r : Int32) (τ : St)  : ∀ (n : Nat) (v1 v2 : Int32) (σ : St), lp_X0_isLikeOneLet_2 N q0 a1  n v1 v2 σ = some (r, τ) → WW p l e (rmk 2) s m args below meth c 0 0 (EQ D ca ad SH A below args s (some (.int r)) τ) A D ca ad SH 2 [some (.ref (ad q0)), some (.int v1), some (.int v2)] [] σ := by
  intro n
  induction n with
  | zero => intro v1 v2 σ hf; cases hf
  | succ n ih =>
    intro v1 v2 σ hf
    rw [lp_X0_isLikeOneLet_2] at hf
    refine s_iloadn (pc := 2) C dX0_isLikeOneLet_2 rfl ?_
    refine s_iloadn (pc := 3) C dX0_isLikeOneLet_3 rfl ?_
    refine s_icmp_ge (pc := 4) (tgt := 62) C dX0_isLikeOneLet_4 (by decide) (fun h_1 => ?_) (fun h_1 => ?_)
    · replace hf := ifp h_1 hf
      refine s_iconst (pc := 62) (v := 0) C dX0_isLikeOneLet_62 (by decide) ?_
      exact s_zret (pc := 63) C hr hlk dX0_isLikeOneLet_63 (by decide) (congrArg (fun z => some (Value.int z)) (rt hf).1) (rt hf).2
    · replace hf := ifn h_1 hf
      refine s_aloadn (pc := 7) C dX0_isLikeOneLet_7 rfl ?_
      refine s_iloadn (pc := 8) C dX0_isLikeOneLet_8 rfl ?_
      obtain ⟨r_1, τ_1, e_1, hf⟩ := bnd hf
      refine s_callV (pc := 9) (rest := []) C rfl (c_X0_lets l D ca ad N q0 hq0 v2 σ r_1 τ_1 e_1) kv_X0_50 ⟨rfl, rfl⟩ (by decide) hq0 ⟨_, rfl, rfl⟩ rfl rfl (Nat.le_of_ble_eq_true rfl) dX0_isLikeOneLet_9 ⟨Nat.zero_le _, Nat.zero_le _⟩ ?_
      refine s_st (st' := [.int r_1]) rfl ?_
      refine s_if_eq (pc := 12) (tgt := 56) C dX0_isLikeOneLet_12 (by decide) (fun h_2 => ?_) (fun h_2 => ?_)
      · replace hf := ifp h_2 hf
        refine s_iinc (pc := 56) (v := (v2 + 1)) (lo' := [some (.ref (ad q0)), some (.int v1), some (.int (v2 + 1))]) C dX0_isLikeOneLet_56 rfl rfl rfl ?_
        refine s_goto (pc := 59) (tgt := 2) C dX0_isLikeOneLet_59 (by decide) ?_
        refine s_few (lo' := [some (.ref (ad q0)), some (.int v1), some (.int (v2 + 1))]) (lfS (lfS (lfS lf0))) ?_
        exact ih v1 (v2 + 1) τ_1 hf
      · replace hf := ifn h_2 hf
        refine s_aloadn (pc := 15) C dX0_isLikeOneLet_15 rfl ?_
        refine s_iloadn (pc := 16) C dX0_isLikeOneLet_16 rfl ?_
        obtain ⟨r_2, τ_2, e_2, hf⟩ := bnd hf
        refine s_callV (pc := 17) (rest := []) C rfl (c_X0_widthIn l D ca ad N q0 hq0 v2 τ_1 r_2 τ_2 e_2) kv_X0_53 ⟨rfl, rfl⟩ (by decide) hq0 ⟨_, rfl, rfl⟩ rfl rfl (Nat.le_of_ble_eq_true rfl) dX0_isLikeOneLet_17 ⟨Nat.zero_le _, Nat.zero_le _⟩ ?_
        refine s_st (st' := [.int r_2]) rfl ?_
        refine s_aloadn (pc := 20) C dX0_isLikeOneLet_20 rfl ?_
        refine s_iloadn (pc := 21) C dX0_isLikeOneLet_21 rfl ?_
        obtain ⟨r_3, τ_3, e_3, hf⟩ := bnd hf
        refine s_callV (pc := 22) (rest := [.int r_2]) C rfl (c_X0_widthIn l D ca ad N q0 hq0 v1 τ_2 r_3 τ_3 e_3) kv_X0_53 ⟨rfl, rfl⟩ (by decide) hq0 ⟨_, rfl, rfl⟩ rfl rfl (Nat.le_of_ble_eq_true rfl) dX0_isLikeOneLet_22 ⟨Nat.zero_le _, Nat.zero_le _⟩ ?_
        refine s_st (st' := [.int r_3, .int r_2]) rfl ?_
        refine s_icmp_ne (pc := 25) (tgt := 56) C dX0_isLikeOneLet_25 (by decide) (fun h_3 => ?_) (fun h_3 => ?_)
        · replace hf := ifn h_3 hf
          refine s_iinc (pc := 56) (v := (v2 + 1)) (lo' := [some (.ref (ad q0)), some (.int v1), some (.int (v2 + 1))]) C dX0_isLikeOneLet_56 rfl rfl rfl ?_
          refine s_goto (pc := 59) (tgt := 2) C dX0_isLikeOneLet_59 (by decide) ?_
          refine s_few (lo' := [some (.ref (ad q0)), some (.int v1), some (.int (v2 + 1))]) (lfS (lfS (lfS lf0))) ?_
          exact ih v1 (v2 + 1) τ_3 hf
        · replace hf := ifp h_3 hf
          refine s_aloadn (pc := 28) C dX0_isLikeOneLet_28 rfl ?_
          refine s_iloadn (pc := 29) C dX0_isLikeOneLet_29 rfl ?_
          obtain ⟨r_4, τ_4, e_4, hf⟩ := bnd hf
          refine s_callV (pc := 30) (rest := []) C rfl (c_X0_depthIn l D ca ad N q0 hq0 v2 τ_3 r_4 τ_4 e_4) kv_X0_56 ⟨rfl, rfl⟩ (by decide) hq0 ⟨_, rfl, rfl⟩ rfl rfl (Nat.le_of_ble_eq_true rfl) dX0_isLikeOneLet_30 ⟨Nat.zero_le _, Nat.zero_le _⟩ ?_
          refine s_st (st' := [.int r_4]) rfl ?_
          refine s_aloadn (pc := 33) C dX0_isLikeOneLet_33 rfl ?_
          refine s_iloadn (pc := 34) C dX0_isLikeOneLet_34 rfl ?_
          obtain ⟨r_5, τ_5, e_5, hf⟩ := bnd hf
          refine s_callV (pc := 35) (rest := [.int r_4]) C rfl (c_X0_depthIn l D ca ad N q0 hq0 v1 τ_4 r_5 τ_5 e_5) kv_X0_56 ⟨rfl, rfl⟩ (by decide) hq0 ⟨_, rfl, rfl⟩ rfl rfl (Nat.le_of_ble_eq_true rfl) dX0_isLikeOneLet_35 ⟨Nat.zero_le _, Nat.zero_le _⟩ ?_
          refine s_st (st' := [.int r_5, .int r_4]) rfl ?_
          refine s_icmp_ne (pc := 38) (tgt := 56) C dX0_isLikeOneLet_38 (by decide) (fun h_4 => ?_) (fun h_4 => ?_)
          · replace hf := ifn h_4 hf
            refine s_iinc (pc := 56) (v := (v2 + 1)) (lo' := [some (.ref (ad q0)), some (.int v1), some (.int (v2 + 1))]) C dX0_isLikeOneLet_56 rfl rfl rfl ?_
            refine s_goto (pc := 59) (tgt := 2) C dX0_isLikeOneLet_59 (by decide) ?_
            refine s_few (lo' := [some (.ref (ad q0)), some (.int v1), some (.int (v2 + 1))]) (lfS (lfS (lfS lf0))) ?_
            exact ih v1 (v2 + 1) τ_5 hf
          · replace hf := ifp h_4 hf
            refine s_aloadn (pc := 41) C dX0_isLikeOneLet_41 rfl ?_
            refine s_iloadn (pc := 42) C dX0_isLikeOneLet_42 rfl ?_
            obtain ⟨r_6, τ_6, e_6, hf⟩ := bnd hf
            refine s_callV (pc := 43) (rest := []) C rfl (c_X0_heightIn l D ca ad N q0 hq0 v2 τ_5 r_6 τ_6 e_6) kv_X0_59 ⟨rfl, rfl⟩ (by decide) hq0 ⟨_, rfl, rfl⟩ rfl rfl (Nat.le_of_ble_eq_true rfl) dX0_isLikeOneLet_43 ⟨Nat.zero_le _, Nat.zero_le _⟩ ?_
            refine s_st (st' := [.int r_6]) rfl ?_
            refine s_aloadn (pc := 46) C dX0_isLikeOneLet_46 rfl ?_
            refine s_iloadn (pc := 47) C dX0_isLikeOneLet_47 rfl ?_
            obtain ⟨r_7, τ_7, e_7, hf⟩ := bnd hf
            refine s_callV (pc := 48) (rest := [.int r_6]) C rfl (c_X0_heightIn l D ca ad N q0 hq0 v1 τ_6 r_7 τ_7 e_7) kv_X0_59 ⟨rfl, rfl⟩ (by decide) hq0 ⟨_, rfl, rfl⟩ rfl rfl (Nat.le_of_ble_eq_true rfl) dX0_isLikeOneLet_48 ⟨Nat.zero_le _, Nat.zero_le _⟩ ?_
            refine s_st (st' := [.int r_7, .int r_6]) rfl ?_
            refine s_icmp_ne (pc := 51) (tgt := 56) C dX0_isLikeOneLet_51 (by decide) (fun h_5 => ?_) (fun h_5 => ?_)
            · replace hf := ifn h_5 hf
              refine s_iinc (pc := 56) (v := (v2 + 1)) (lo' := [some (.ref (ad q0)), some (.int v1), some (.int (v2 + 1))]) C dX0_isLikeOneLet_56 rfl rfl rfl ?_
              refine s_goto (pc := 59) (tgt := 2) C dX0_isLikeOneLet_59 (by decide) ?_
              refine s_few (lo' := [some (.ref (ad q0)), some (.int v1), some (.int (v2 + 1))]) (lfS (lfS (lfS lf0))) ?_
              exact ih v1 (v2 + 1) τ_7 hf
            · replace hf := ifp h_5 hf
              refine s_iconst (pc := 54) (v := 1) C dX0_isLikeOneLet_54 (by decide) ?_
              exact s_zret (pc := 55) C hr hlk dX0_isLikeOneLet_55 (by decide) (congrArg (fun z => some (Value.int z)) (rt hf).1) (rt hf).2
def f_X0_isLikeOneLet (N : Nat) (q0 : Nat) (a1 : Int32) (σ : St) : Option (Int32 × St) :=
  lp_X0_isLikeOneLet_2 N q0 a1 N a1 0 σ
set_option maxRecDepth 100000 in
set_option maxHeartbeats 4000000 in
theorem c_X0_isLikeOneLet (l : Launch) (D : va_G) (ca : Nat → ClassId) (ad : Nat → Nat) (N : Nat) (q0 : Nat) (hq0 : SH[q0]? = some oPiece) (a1 : Int32) (σ : St) (r : Int32) (τ : St) (hf : f_X0_isLikeOneLet N q0 a1 σ = some (r, τ)) : cM l yX0_isLikeOneLet (.code yX0_isLikeOneLet cX0_isLikeOneLet 3 (some .boolean)) (rmk 2) D ca ad SH [.ref (ad q0), .int a1] σ (some (.int r)) τ := by
  refine cM.intro2 (own := RX0) (lo := [some (.ref (ad q0)), some (.int a1), none]) (by decide) rfl (ccR (ccI cc0)) (Nat.le_of_ble_eq_true rfl) rfl ?_
  intro p e s m args below meth c A C hr hlk
  unfold f_X0_isLikeOneLet at hf
  refine s_iconst (pc := 0) (v := 0) C dX0_isLikeOneLet_0 (by decide) ?_
  refine s_istoren (pc := 1) (lo' := [some (.ref (ad q0)), some (.int a1), some (.int 0)]) C dX0_isLikeOneLet_1 (Nat.le_of_ble_eq_true rfl) rfl ?_
  refine s_few (lo' := [some (.ref (ad q0)), some (.int a1), some (.int 0)]) (lfS (lfS (lfS lf0))) ?_
  exact w_X0_isLikeOneLet_2 C hr hlk N q0 hq0 a1 r τ  N a1 0 σ hf
def lp_X0_mark_7 (N : Nat) (q0 : Nat) (a1 : Int32) : Nat → Int32 → Int32 → St → Option (St)
  | 0, _, _, _ => none
  | n + 1, v1, v2, σ =>
    if 6 ≤ v2 then
      some σ
    else
      bn (f_X0_marksFor N v2 σ) fun r_1 τ_1 =>
      if (v1 &&& r_1) = r_1 then
        bn (f_X0_isLikeOneLet N q0 v2 τ_1) fun r_2 τ_2 =>
        if r_2 = 0 then
          lp_X0_mark_7 N q0 a1  n v1 (v2 + 1) (su τ_2 q0 4 ((τ_2 q0 4) ||| (1 <<< (v2 &&& 31))))
        else
          lp_X0_mark_7 N q0 a1  n v1 (v2 + 1) τ_2
      else
        lp_X0_mark_7 N q0 a1  n v1 (v2 + 1) τ_1
set_option maxRecDepth 100000 in
set_option maxHeartbeats 4000000 in
theorem w_X0_mark_7 {l : Launch} {D : va_G} {ca : Nat → ClassId} {ad : Nat → Nat} {p : Program} {e : Env} {s : State} {m : MethodId} {args : Array Value} {below : List Frame} {meth : Method} {c : Code} {A : Nat → Prop} (C : CX p s m args c D ca A RX0 cX0_mark 4) (hr : meth.sig.returnType = none) (hlk : meth.locks = false) (N : Nat) (q0 : Nat) (hq0 : SH[q0]? = some oPiece) (a1 : Int32) (τ : St)  : ∀ (n : Nat) (v1 v2 : Int32) (σ : St), lp_X0_mark_7 N q0 a1  n v1 v2 σ = some τ → WW p l e (rmk 3) s m args below meth c 0 0 (EQ D ca ad SH A below args s none τ) A D ca ad SH 7 [some (.ref (ad q0)), some (.int v1), some (.int v2), none] [] σ := by
  intro n
  induction n with
  | zero => intro v1 v2 σ hf; cases hf
  | succ n ih =>
    intro v1 v2 σ hf
    rw [lp_X0_mark_7] at hf
    refine s_iloadn (pc := 7) C dX0_mark_7 rfl ?_
    refine s_bipush (pc := 8) (v := 6) C dX0_mark_8 (by decide) ?_
    refine s_icmp_ge (pc := 10) (tgt := 51) C dX0_mark_10 (by decide) (fun h_1 => ?_) (fun h_1 => ?_)
    · replace hf := ifp h_1 hf
      exact s_vret (pc := 51) C hr hlk dX0_mark_51 rfl (rtv hf)
    · replace hf := ifn h_1 hf
      refine s_iloadn (pc := 13) C dX0_mark_13 rfl ?_
      obtain ⟨r_1, τ_1, e_1, hf⟩ := bnd hf
      refine s_callO (pc := 14) (rest := []) C rfl (c_X0_marksFor l D ca ad N v2 σ r_1 τ_1 e_1) ko_X0_43 ⟨rfl, rfl⟩ (by decide) rfl rfl (Nat.le_of_ble_eq_true rfl) dX0_mark_14 ⟨Nat.zero_le _, Nat.zero_le _⟩ ?_
      refine s_st (st' := [.int r_1]) rfl ?_
      refine s_istoren (pc := 17) (lo' := [some (.ref (ad q0)), some (.int v1), some (.int v2), some (.int r_1)]) C dX0_mark_17 (Nat.le_of_ble_eq_true rfl) rfl ?_
      refine s_iloadn (pc := 18) C dX0_mark_18 rfl ?_
      refine s_iloadn (pc := 19) C dX0_mark_19 rfl ?_
      refine s_iand (pc := 20) C dX0_mark_20 ?_
      refine s_iloadn (pc := 21) C dX0_mark_21 rfl ?_
      refine s_icmp_ne (pc := 22) (tgt := 45) C dX0_mark_22 (by decide) (fun h_2 => ?_) (fun h_2 => ?_)
      · replace hf := ifn h_2 hf
        refine s_iinc (pc := 45) (v := (v2 + 1)) (lo' := [some (.ref (ad q0)), some (.int v1), some (.int (v2 + 1)), some (.int r_1)]) C dX0_mark_45 rfl rfl rfl ?_
        refine s_goto (pc := 48) (tgt := 7) C dX0_mark_48 (by decide) ?_
        refine s_few (lo' := [some (.ref (ad q0)), some (.int v1), some (.int (v2 + 1)), none]) (lfS (lfS (lfS (lfN lf0)))) ?_
        exact ih v1 (v2 + 1) τ_1 hf
      · replace hf := ifp h_2 hf
        refine s_aloadn (pc := 25) C dX0_mark_25 rfl ?_
        refine s_iloadn (pc := 26) C dX0_mark_26 rfl ?_
        obtain ⟨r_2, τ_2, e_2, hf⟩ := bnd hf
        refine s_callV (pc := 27) (rest := []) C rfl (c_X0_isLikeOneLet l D ca ad N q0 hq0 v2 τ_1 r_2 τ_2 e_2) kv_X0_46 ⟨rfl, rfl⟩ (by decide) hq0 ⟨_, rfl, rfl⟩ rfl rfl (Nat.le_of_ble_eq_true rfl) dX0_mark_27 ⟨Nat.zero_le _, Nat.zero_le _⟩ ?_
        refine s_st (st' := [.int r_2]) rfl ?_
        refine s_if_ne (pc := 30) (tgt := 45) C dX0_mark_30 (by decide) (fun h_3 => ?_) (fun h_3 => ?_)
        · replace hf := ifn h_3 hf
          refine s_iinc (pc := 45) (v := (v2 + 1)) (lo' := [some (.ref (ad q0)), some (.int v1), some (.int (v2 + 1)), some (.int r_1)]) C dX0_mark_45 rfl rfl rfl ?_
          refine s_goto (pc := 48) (tgt := 7) C dX0_mark_48 (by decide) ?_
          refine s_few (lo' := [some (.ref (ad q0)), some (.int v1), some (.int (v2 + 1)), none]) (lfS (lfS (lfS (lfN lf0)))) ?_
          exact ih v1 (v2 + 1) τ_2 hf
        · replace hf := ifp h_3 hf
          refine s_aloadn (pc := 33) C dX0_mark_33 rfl ?_
          refine s_dup (pc := 34) C dX0_mark_34 rfl ?_
          refine s_getI (pc := 35) C fl_X0_9 hq0 rfl dX0_mark_35 ?_
          refine s_iconst (pc := 38) (v := 1) C dX0_mark_38 (by decide) ?_
          refine s_iloadn (pc := 39) C dX0_mark_39 rfl ?_
          refine s_ishl (pc := 40) C dX0_mark_40 ?_
          refine s_ior (pc := 41) C dX0_mark_41 ?_
          refine s_putI (pc := 42) C fp_X0_9 hq0 rfl dX0_mark_42 ?_
          refine s_iinc (pc := 45) (v := (v2 + 1)) (lo' := [some (.ref (ad q0)), some (.int v1), some (.int (v2 + 1)), some (.int r_1)]) C dX0_mark_45 rfl rfl rfl ?_
          refine s_goto (pc := 48) (tgt := 7) C dX0_mark_48 (by decide) ?_
          refine s_few (lo' := [some (.ref (ad q0)), some (.int v1), some (.int (v2 + 1)), none]) (lfS (lfS (lfS (lfN lf0)))) ?_
          exact ih v1 (v2 + 1) (su τ_2 q0 4 ((τ_2 q0 4) ||| (1 <<< (v2 &&& 31)))) hf
def f_X0_mark (N : Nat) (q0 : Nat) (a1 : Int32) (σ : St) : Option (St) :=
  lp_X0_mark_7 N q0 a1 N a1 0 (su σ q0 4 0)
set_option maxRecDepth 100000 in
set_option maxHeartbeats 4000000 in
theorem c_X0_mark (l : Launch) (D : va_G) (ca : Nat → ClassId) (ad : Nat → Nat) (N : Nat) (q0 : Nat) (hq0 : SH[q0]? = some oPiece) (a1 : Int32) (σ : St) (τ : St) (hf : f_X0_mark N q0 a1 σ = some τ) : cM l yX0_mark (.code yX0_mark cX0_mark 4 none) (rmk 3) D ca ad SH [.ref (ad q0), .int a1] σ none τ := by
  refine cM.intro2 (own := RX0) (lo := [some (.ref (ad q0)), some (.int a1), none, none]) (by decide) rfl (ccR (ccI cc0)) (Nat.le_of_ble_eq_true rfl) rfl ?_
  intro p e s m args below meth c A C hr hlk
  unfold f_X0_mark at hf
  refine s_aloadn (pc := 0) C dX0_mark_0 rfl ?_
  refine s_iconst (pc := 1) (v := 0) C dX0_mark_1 (by decide) ?_
  refine s_putI (pc := 2) C fp_X0_9 hq0 rfl dX0_mark_2 ?_
  refine s_iconst (pc := 5) (v := 0) C dX0_mark_5 (by decide) ?_
  refine s_istoren (pc := 6) (lo' := [some (.ref (ad q0)), some (.int a1), some (.int 0), none]) C dX0_mark_6 (Nat.le_of_ble_eq_true rfl) rfl ?_
  refine s_few (lo' := [some (.ref (ad q0)), some (.int a1), some (.int 0), none]) (lfS (lfS (lfS (lfN lf0)))) ?_
  exact w_X0_mark_7 C hr hlk N q0 hq0 a1 τ  N a1 0 (su σ q0 4 0) hf
end
section
def f_X2_stand (N : Nat) (q0 : Nat) (q1 : Nat) (a2 : Int32) (a3 : Int32) (a4 : Int32) (a5 : Int32) (σ : St) : Option (St) :=
  bn (f_X0_widthIn N q1 a2 (su (su (su (su σ q0 0 1) q0 1 a3) q0 2 a4) q0 3 a5)) fun r_1 τ_1 =>
  bn (f_X0_depthIn N q1 a2 (su τ_1 q0 4 r_1)) fun r_2 τ_2 =>
  bn (f_X0_heightIn N q1 a2 (su τ_2 q0 5 r_2)) fun r_3 τ_3 =>
  some (su (su (su (su τ_3 q0 6 r_3) q0 7 a2) q0 8 ((su (su τ_3 q0 6 r_3) q0 7 a2) q1 3)) q0 9 ((su (su (su τ_3 q0 6 r_3) q0 7 a2) q0 8 ((su (su τ_3 q0 6 r_3) q0 7 a2) q1 3)) q1 5))
set_option maxRecDepth 100000 in
set_option maxHeartbeats 4000000 in
theorem c_X2_stand (l : Launch) (D : va_G) (ca : Nat → ClassId) (ad : Nat → Nat) (N : Nat) (q0 : Nat) (hq0 : SH[q0]? = some oSpot) (q1 : Nat) (hq1 : SH[q1]? = some oPiece) (a2 : Int32) (a3 : Int32) (a4 : Int32) (a5 : Int32) (σ : St) (τ : St) (hf : f_X2_stand N q0 q1 a2 a3 a4 a5 σ = some τ) : cM l yX2_stand (.code yX2_stand cX2_stand 6 none) (rmk 1) D ca ad SH [.ref (ad q0), .ref (ad q1), .int a2, .int a3, .int a4, .int a5] σ none τ := by
  refine cM.intro2 (own := RX2) (lo := [some (.ref (ad q0)), some (.ref (ad q1)), some (.int a2), some (.int a3), some (.int a4), some (.int a5)]) (by decide) rfl (ccR (ccR (ccI (ccI (ccI (ccI cc0)))))) (Nat.le_of_ble_eq_true rfl) rfl ?_
  intro p e s m args below meth c A C hr hlk
  unfold f_X2_stand at hf
  refine s_aloadn (pc := 0) C dX2_stand_0 rfl ?_
  refine s_iconst (pc := 1) (v := 1) C dX2_stand_1 (by decide) ?_
  refine s_putZ (pc := 2) C fp_X2_9 hq0 rfl (by decide) dX2_stand_2 ?_
  refine s_aloadn (pc := 5) C dX2_stand_5 rfl ?_
  refine s_iloadn (pc := 6) C dX2_stand_6 rfl ?_
  refine s_putI (pc := 7) C fp_X2_15 hq0 rfl dX2_stand_7 ?_
  refine s_aloadn (pc := 10) C dX2_stand_10 rfl ?_
  refine s_iload (pc := 11) C dX2_stand_11 rfl ?_
  refine s_putI (pc := 13) C fp_X2_19 hq0 rfl dX2_stand_13 ?_
  refine s_aloadn (pc := 16) C dX2_stand_16 rfl ?_
  refine s_iload (pc := 17) C dX2_stand_17 rfl ?_
  refine s_putI (pc := 19) C fp_X2_22 hq0 rfl dX2_stand_19 ?_
  refine s_aloadn (pc := 22) C dX2_stand_22 rfl ?_
  refine s_aloadn (pc := 23) C dX2_stand_23 rfl ?_
  refine s_iloadn (pc := 24) C dX2_stand_24 rfl ?_
  obtain ⟨r_1, τ_1, e_1, hf⟩ := bnd hf
  refine s_callV (pc := 25) (rest := [.ref (ad q0)]) C rfl (c_X0_widthIn l D ca ad N q1 hq1 a2 (su (su (su (su σ q0 0 1) q0 1 a3) q0 2 a4) q0 3 a5) r_1 τ_1 e_1) kv_X2_25 ⟨rfl, rfl⟩ (by decide) hq1 ⟨_, rfl, rfl⟩ rfl rfl (Nat.le_of_ble_eq_true rfl) dX2_stand_25 ⟨Nat.zero_le _, Nat.zero_le _⟩ ?_
  refine s_st (st' := [.int r_1, .ref (ad q0)]) rfl ?_
  refine s_putI (pc := 28) C fp_X2_31 hq0 rfl dX2_stand_28 ?_
  refine s_aloadn (pc := 31) C dX2_stand_31 rfl ?_
  refine s_aloadn (pc := 32) C dX2_stand_32 rfl ?_
  refine s_iloadn (pc := 33) C dX2_stand_33 rfl ?_
  obtain ⟨r_2, τ_2, e_2, hf⟩ := bnd hf
  refine s_callV (pc := 34) (rest := [.ref (ad q0)]) C rfl (c_X0_depthIn l D ca ad N q1 hq1 a2 (su τ_1 q0 4 r_1) r_2 τ_2 e_2) kv_X2_34 ⟨rfl, rfl⟩ (by decide) hq1 ⟨_, rfl, rfl⟩ rfl rfl (Nat.le_of_ble_eq_true rfl) dX2_stand_34 ⟨Nat.zero_le _, Nat.zero_le _⟩ ?_
  refine s_st (st' := [.int r_2, .ref (ad q0)]) rfl ?_
  refine s_putI (pc := 37) C fp_X2_37 hq0 rfl dX2_stand_37 ?_
  refine s_aloadn (pc := 40) C dX2_stand_40 rfl ?_
  refine s_aloadn (pc := 41) C dX2_stand_41 rfl ?_
  refine s_iloadn (pc := 42) C dX2_stand_42 rfl ?_
  obtain ⟨r_3, τ_3, e_3, hf⟩ := bnd hf
  refine s_callV (pc := 43) (rest := [.ref (ad q0)]) C rfl (c_X0_heightIn l D ca ad N q1 hq1 a2 (su τ_2 q0 5 r_2) r_3 τ_3 e_3) kv_X2_40 ⟨rfl, rfl⟩ (by decide) hq1 ⟨_, rfl, rfl⟩ rfl rfl (Nat.le_of_ble_eq_true rfl) dX2_stand_43 ⟨Nat.zero_le _, Nat.zero_le _⟩ ?_
  refine s_st (st' := [.int r_3, .ref (ad q0)]) rfl ?_
  refine s_putI (pc := 46) C fp_X2_43 hq0 rfl dX2_stand_46 ?_
  refine s_aloadn (pc := 49) C dX2_stand_49 rfl ?_
  refine s_iloadn (pc := 50) C dX2_stand_50 rfl ?_
  refine s_putI (pc := 51) C fp_X2_46 hq0 rfl dX2_stand_51 ?_
  refine s_aloadn (pc := 54) C dX2_stand_54 rfl ?_
  refine s_aloadn (pc := 55) C dX2_stand_55 rfl ?_
  refine s_getI (pc := 56) C fl_X2_49 hq1 rfl dX2_stand_56 ?_
  refine s_putI (pc := 59) C fp_X2_52 hq0 rfl dX2_stand_59 ?_
  refine s_aloadn (pc := 62) C dX2_stand_62 rfl ?_
  refine s_aloadn (pc := 63) C dX2_stand_63 rfl ?_
  refine s_getI (pc := 64) C fl_X2_53 hq1 rfl dX2_stand_64 ?_
  refine s_putI (pc := 67) C fp_X2_56 hq0 rfl dX2_stand_67 ?_
  exact s_vret (pc := 70) C hr hlk dX2_stand_70 rfl (rtv hf)
def f_X2_leave (N : Nat) (q0 : Nat) (σ : St) : Option (St) :=
  some (su σ q0 0 0)
set_option maxRecDepth 100000 in
set_option maxHeartbeats 4000000 in
theorem c_X2_leave (l : Launch) (D : va_G) (ca : Nat → ClassId) (ad : Nat → Nat) (N : Nat) (q0 : Nat) (hq0 : SH[q0]? = some oSpot) (σ : St) (τ : St) (hf : f_X2_leave N q0 σ = some τ) : cM l yX2_leave (.code yX2_leave cX2_leave 1 none) (rmk 0) D ca ad SH [.ref (ad q0)] σ none τ := by
  refine cM.intro2 (own := RX2) (lo := [some (.ref (ad q0))]) (by decide) rfl (ccR cc0) (Nat.le_of_ble_eq_true rfl) rfl ?_
  intro p e s m args below meth c A C hr hlk
  unfold f_X2_leave at hf
  refine s_aloadn (pc := 0) C dX2_leave_0 rfl ?_
  refine s_iconst (pc := 1) (v := 0) C dX2_leave_1 (by decide) ?_
  refine s_putZ (pc := 2) C fp_X2_9 hq0 rfl (by decide) dX2_leave_2 ?_
  exact s_vret (pc := 5) C hr hlk dX2_leave_5 rfl (rtv hf)
def f_X2_copyFrom (N : Nat) (q0 : Nat) (q1 : Nat) (σ : St) : Option (St) :=
  if (σ q1 0 &&& 1) = 0 ∨ (σ q1 0 &&& 1) = 1 then
  some (su (su (su (su (su (su (su (su (su (su σ q0 0 (σ q1 0 &&& 1)) q0 1 ((su σ q0 0 (σ q1 0 &&& 1)) q1 1)) q0 2 ((su (su σ q0 0 (σ q1 0 &&& 1)) q0 1 ((su σ q0 0 (σ q1 0 &&& 1)) q1 1)) q1 2)) q0 3 ((su (su (su σ q0 0 (σ q1 0 &&& 1)) q0 1 ((su σ q0 0 (σ q1 0 &&& 1)) q1 1)) q0 2 ((su (su σ q0 0 (σ q1 0 &&& 1)) q0 1 ((su σ q0 0 (σ q1 0 &&& 1)) q1 1)) q1 2)) q1 3)) q0 4 ((su (su (su (su σ q0 0 (σ q1 0 &&& 1)) q0 1 ((su σ q0 0 (σ q1 0 &&& 1)) q1 1)) q0 2 ((su (su σ q0 0 (σ q1 0 &&& 1)) q0 1 ((su σ q0 0 (σ q1 0 &&& 1)) q1 1)) q1 2)) q0 3 ((su (su (su σ q0 0 (σ q1 0 &&& 1)) q0 1 ((su σ q0 0 (σ q1 0 &&& 1)) q1 1)) q0 2 ((su (su σ q0 0 (σ q1 0 &&& 1)) q0 1 ((su σ q0 0 (σ q1 0 &&& 1)) q1 1)) q1 2)) q1 3)) q1 4)) q0 5 ((su (su (su (su (su σ q0 0 (σ q1 0 &&& 1)) q0 1 ((su σ q0 0 (σ q1 0 &&& 1)) q1 1)) q0 2 ((su (su σ q0 0 (σ q1 0 &&& 1)) q0 1 ((su σ q0 0 (σ q1 0 &&& 1)) q1 1)) q1 2)) q0 3 ((su (su (su σ q0 0 (σ q1 0 &&& 1)) q0 1 ((su σ q0 0 (σ q1 0 &&& 1)) q1 1)) q0 2 ((su (su σ q0 0 (σ q1 0 &&& 1)) q0 1 ((su σ q0 0 (σ q1 0 &&& 1)) q1 1)) q1 2)) q1 3)) q0 4 ((su (su (su (su σ q0 0 (σ q1 0 &&& 1)) q0 1 ((su σ q0 0 (σ q1 0 &&& 1)) q1 1)) q0 2 ((su (su σ q0 0 (σ q1 0 &&& 1)) q0 1 ((su σ q0 0 (σ q1 0 &&& 1)) q1 1)) q1 2)) q0 3 ((su (su (su σ q0 0 (σ q1 0 &&& 1)) q0 1 ((su σ q0 0 (σ q1 0 &&& 1)) q1 1)) q0 2 ((su (su σ q0 0 (σ q1 0 &&& 1)) q0 1 ((su σ q0 0 (σ q1 0 &&& 1)) q1 1)) q1 2)) q1 3)) q1 4)) q1 5)) q0 6 ((su (su (su (su (su (su σ q0 0 (σ q1 0 &&& 1)) q0 1 ((su σ q0 0 (σ q1 0 &&& 1)) q1 1)) q0 2 ((su (su σ q0 0 (σ q1 0 &&& 1)) q0 1 ((su σ q0 0 (σ q1 0 &&& 1)) q1 1)) q1 2)) q0 3 ((su (su (su σ q0 0 (σ q1 0 &&& 1)) q0 1 ((su σ q0 0 (σ q1 0 &&& 1)) q1 1)) q0 2 ((su (su σ q0 0 (σ q1 0 &&& 1)) q0 1 ((su σ q0 0 (σ q1 0 &&& 1)) q1 1)) q1 2)) q1 3)) q0 4 ((su (su (su (su σ q0 0 (σ q1 0 &&& 1)) q0 1 ((su σ q0 0 (σ q1 0 &&& 1)) q1 1)) q0 2 ((su (su σ q0 0 (σ q1 0 &&& 1)) q0 1 ((su σ q0 0 (σ q1 0 &&& 1)) q1 1)) q1 2)) q0 3 ((su (su (su σ q0 0 (σ q1 0 &&& 1)) q0 1 ((su σ q0 0 (σ q1 0 &&& 1)) q1 1)) q0 2 ((su (su σ q0 0 (σ q1 0 &&& 1)) q0 1 ((su σ q0 0 (σ q1 0 &&& 1)) q1 1)) q1 2)) q1 3)) q1 4)) q0 5 ((su (su (su (su (su σ q0 0 (σ q1 0 &&& 1)) q0 1 ((su σ q0 0 (σ q1 0 &&& 1)) q1 1)) q0 2 ((su (su σ q0 0 (σ q1 0 &&& 1)) q0 1 ((su σ q0 0 (σ q1 0 &&& 1)) q1 1)) q1 2)) q0 3 ((su (su (su σ q0 0 (σ q1 0 &&& 1)) q0 1 ((su σ q0 0 (σ q1 0 &&& 1)) q1 1)) q0 2 ((su (su σ q0 0 (σ q1 0 &&& 1)) q0 1 ((su σ q0 0 (σ q1 0 &&& 1)) q1 1)) q1 2)) q1 3)) q0 4 ((su (su (su (su σ q0 0 (σ q1 0 &&& 1)) q0 1 ((su σ q0 0 (σ q1 0 &&& 1)) q1 1)) q0 2 ((su (su σ q0 0 (σ q1 0 &&& 1)) q0 1 ((su σ q0 0 (σ q1 0 &&& 1)) q1 1)) q1 2)) q0 3 ((su (su (su σ q0 0 (σ q1 0 &&& 1)) q0 1 ((su σ q0 0 (σ q1 0 &&& 1)) q1 1)) q0 2 ((su (su σ q0 0 (σ q1 0 &&& 1)) q0 1 ((su σ q0 0 (σ q1 0 &&& 1)) q1 1)) q1 2)) q1 3)) q1 4)) q1 5)) q1 6)) q0 7 ((su (su (su (su (su (su (su σ q0 0 (σ q1 0 &&& 1)) q0 1 ((su σ q0 0 (σ q1 0 &&& 1)) q1 1)) q0 2 ((su (su σ q0 0 (σ q1 0 &&& 1)) q0 1 ((su σ q0 0 (σ q1 0 &&& 1)) q1 1)) q1 2)) q0 3 ((su (su (su σ q0 0 (σ q1 0 &&& 1)) q0 1 ((su σ q0 0 (σ q1 0 &&& 1)) q1 1)) q0 2 ((su (su σ q0 0 (σ q1 0 &&& 1)) q0 1 ((su σ q0 0 (σ q1 0 &&& 1)) q1 1)) q1 2)) q1 3)) q0 4 ((su (su (su (su σ q0 0 (σ q1 0 &&& 1)) q0 1 ((su σ q0 0 (σ q1 0 &&& 1)) q1 1)) q0 2 ((su (su σ q0 0 (σ q1 0 &&& 1)) q0 1 ((su σ q0 0 (σ q1 0 &&& 1)) q1 1)) q1 2)) q0 3 ((su (su (su σ q0 0 (σ q1 0 &&& 1)) q0 1 ((su σ q0 0 (σ q1 0 &&& 1)) q1 1)) q0 2 ((su (su σ q0 0 (σ q1 0 &&& 1)) q0 1 ((su σ q0 0 (σ q1 0 &&& 1)) q1 1)) q1 2)) q1 3)) q1 4)) q0 5 ((su (su (su (su (su σ q0 0 (σ q1 0 &&& 1)) q0 1 ((su σ q0 0 (σ q1 0 &&& 1)) q1 1)) q0 2 ((su (su σ q0 0 (σ q1 0 &&& 1)) q0 1 ((su σ q0 0 (σ q1 0 &&& 1)) q1 1)) q1 2)) q0 3 ((su (su (su σ q0 0 (σ q1 0 &&& 1)) q0 1 ((su σ q0 0 (σ q1 0 &&& 1)) q1 1)) q0 2 ((su (su σ q0 0 (σ q1 0 &&& 1)) q0 1 ((su σ q0 0 (σ q1 0 &&& 1)) q1 1)) q1 2)) q1 3)) q0 4 ((su (su (su (su σ q0 0 (σ q1 0 &&& 1)) q0 1 ((su σ q0 0 (σ q1 0 &&& 1)) q1 1)) q0 2 ((su (su σ q0 0 (σ q1 0 &&& 1)) q0 1 ((su σ q0 0 (σ q1 0 &&& 1)) q1 1)) q1 2)) q0 3 ((su (su (su σ q0 0 (σ q1 0 &&& 1)) q0 1 ((su σ q0 0 (σ q1 0 &&& 1)) q1 1)) q0 2 ((su (su σ q0 0 (σ q1 0 &&& 1)) q0 1 ((su σ q0 0 (σ q1 0 &&& 1)) q1 1)) q1 2)) q1 3)) q1 4)) q1 5)) q0 6 ((su (su (su (su (su (su σ q0 0 (σ q1 0 &&& 1)) q0 1 ((su σ q0 0 (σ q1 0 &&& 1)) q1 1)) q0 2 ((su (su σ q0 0 (σ q1 0 &&& 1)) q0 1 ((su σ q0 0 (σ q1 0 &&& 1)) q1 1)) q1 2)) q0 3 ((su (su (su σ q0 0 (σ q1 0 &&& 1)) q0 1 ((su σ q0 0 (σ q1 0 &&& 1)) q1 1)) q0 2 ((su (su σ q0 0 (σ q1 0 &&& 1)) q0 1 ((su σ q0 0 (σ q1 0 &&& 1)) q1 1)) q1 2)) q1 3)) q0 4 ((su (su (su (su σ q0 0 (σ q1 0 &&& 1)) q0 1 ((su σ q0 0 (σ q1 0 &&& 1)) q1 1)) q0 2 ((su (su σ q0 0 (σ q1 0 &&& 1)) q0 1 ((su σ q0 0 (σ q1 0 &&& 1)) q1 1)) q1 2)) q0 3 ((su (su (su σ q0 0 (σ q1 0 &&& 1)) q0 1 ((su σ q0 0 (σ q1 0 &&& 1)) q1 1)) q0 2 ((su (su σ q0 0 (σ q1 0 &&& 1)) q0 1 ((su σ q0 0 (σ q1 0 &&& 1)) q1 1)) q1 2)) q1 3)) q1 4)) q0 5 ((su (su (su (su (su σ q0 0 (σ q1 0 &&& 1)) q0 1 ((su σ q0 0 (σ q1 0 &&& 1)) q1 1)) q0 2 ((su (su σ q0 0 (σ q1 0 &&& 1)) q0 1 ((su σ q0 0 (σ q1 0 &&& 1)) q1 1)) q1 2)) q0 3 ((su (su (su σ q0 0 (σ q1 0 &&& 1)) q0 1 ((su σ q0 0 (σ q1 0 &&& 1)) q1 1)) q0 2 ((su (su σ q0 0 (σ q1 0 &&& 1)) q0 1 ((su σ q0 0 (σ q1 0 &&& 1)) q1 1)) q1 2)) q1 3)) q0 4 ((su (su (su (su σ q0 0 (σ q1 0 &&& 1)) q0 1 ((su σ q0 0 (σ q1 0 &&& 1)) q1 1)) q0 2 ((su (su σ q0 0 (σ q1 0 &&& 1)) q0 1 ((su σ q0 0 (σ q1 0 &&& 1)) q1 1)) q1 2)) q0 3 ((su (su (su σ q0 0 (σ q1 0 &&& 1)) q0 1 ((su σ q0 0 (σ q1 0 &&& 1)) q1 1)) q0 2 ((su (su σ q0 0 (σ q1 0 &&& 1)) q0 1 ((su σ q0 0 (σ q1 0 &&& 1)) q1 1)) q1 2)) q1 3)) q1 4)) q1 5)) q1 6)) q1 7)) q0 8 ((su (su (su (su (su (su (su (su σ q0 0 (σ q1 0 &&& 1)) q0 1 ((su σ q0 0 (σ q1 0 &&& 1)) q1 1)) q0 2 ((su (su σ q0 0 (σ q1 0 &&& 1)) q0 1 ((su σ q0 0 (σ q1 0 &&& 1)) q1 1)) q1 2)) q0 3 ((su (su (su σ q0 0 (σ q1 0 &&& 1)) q0 1 ((su σ q0 0 (σ q1 0 &&& 1)) q1 1)) q0 2 ((su (su σ q0 0 (σ q1 0 &&& 1)) q0 1 ((su σ q0 0 (σ q1 0 &&& 1)) q1 1)) q1 2)) q1 3)) q0 4 ((su (su (su (su σ q0 0 (σ q1 0 &&& 1)) q0 1 ((su σ q0 0 (σ q1 0 &&& 1)) q1 1)) q0 2 ((su (su σ q0 0 (σ q1 0 &&& 1)) q0 1 ((su σ q0 0 (σ q1 0 &&& 1)) q1 1)) q1 2)) q0 3 ((su (su (su σ q0 0 (σ q1 0 &&& 1)) q0 1 ((su σ q0 0 (σ q1 0 &&& 1)) q1 1)) q0 2 ((su (su σ q0 0 (σ q1 0 &&& 1)) q0 1 ((su σ q0 0 (σ q1 0 &&& 1)) q1 1)) q1 2)) q1 3)) q1 4)) q0 5 ((su (su (su (su (su σ q0 0 (σ q1 0 &&& 1)) q0 1 ((su σ q0 0 (σ q1 0 &&& 1)) q1 1)) q0 2 ((su (su σ q0 0 (σ q1 0 &&& 1)) q0 1 ((su σ q0 0 (σ q1 0 &&& 1)) q1 1)) q1 2)) q0 3 ((su (su (su σ q0 0 (σ q1 0 &&& 1)) q0 1 ((su σ q0 0 (σ q1 0 &&& 1)) q1 1)) q0 2 ((su (su σ q0 0 (σ q1 0 &&& 1)) q0 1 ((su σ q0 0 (σ q1 0 &&& 1)) q1 1)) q1 2)) q1 3)) q0 4 ((su (su (su (su σ q0 0 (σ q1 0 &&& 1)) q0 1 ((su σ q0 0 (σ q1 0 &&& 1)) q1 1)) q0 2 ((su (su σ q0 0 (σ q1 0 &&& 1)) q0 1 ((su σ q0 0 (σ q1 0 &&& 1)) q1 1)) q1 2)) q0 3 ((su (su (su σ q0 0 (σ q1 0 &&& 1)) q0 1 ((su σ q0 0 (σ q1 0 &&& 1)) q1 1)) q0 2 ((su (su σ q0 0 (σ q1 0 &&& 1)) q0 1 ((su σ q0 0 (σ q1 0 &&& 1)) q1 1)) q1 2)) q1 3)) q1 4)) q1 5)) q0 6 ((su (su (su (su (su (su σ q0 0 (σ q1 0 &&& 1)) q0 1 ((su σ q0 0 (σ q1 0 &&& 1)) q1 1)) q0 2 ((su (su σ q0 0 (σ q1 0 &&& 1)) q0 1 ((su σ q0 0 (σ q1 0 &&& 1)) q1 1)) q1 2)) q0 3 ((su (su (su σ q0 0 (σ q1 0 &&& 1)) q0 1 ((su σ q0 0 (σ q1 0 &&& 1)) q1 1)) q0 2 ((su (su σ q0 0 (σ q1 0 &&& 1)) q0 1 ((su σ q0 0 (σ q1 0 &&& 1)) q1 1)) q1 2)) q1 3)) q0 4 ((su (su (su (su σ q0 0 (σ q1 0 &&& 1)) q0 1 ((su σ q0 0 (σ q1 0 &&& 1)) q1 1)) q0 2 ((su (su σ q0 0 (σ q1 0 &&& 1)) q0 1 ((su σ q0 0 (σ q1 0 &&& 1)) q1 1)) q1 2)) q0 3 ((su (su (su σ q0 0 (σ q1 0 &&& 1)) q0 1 ((su σ q0 0 (σ q1 0 &&& 1)) q1 1)) q0 2 ((su (su σ q0 0 (σ q1 0 &&& 1)) q0 1 ((su σ q0 0 (σ q1 0 &&& 1)) q1 1)) q1 2)) q1 3)) q1 4)) q0 5 ((su (su (su (su (su σ q0 0 (σ q1 0 &&& 1)) q0 1 ((su σ q0 0 (σ q1 0 &&& 1)) q1 1)) q0 2 ((su (su σ q0 0 (σ q1 0 &&& 1)) q0 1 ((su σ q0 0 (σ q1 0 &&& 1)) q1 1)) q1 2)) q0 3 ((su (su (su σ q0 0 (σ q1 0 &&& 1)) q0 1 ((su σ q0 0 (σ q1 0 &&& 1)) q1 1)) q0 2 ((su (su σ q0 0 (σ q1 0 &&& 1)) q0 1 ((su σ q0 0 (σ q1 0 &&& 1)) q1 1)) q1 2)) q1 3)) q0 4 ((su (su (su (su σ q0 0 (σ q1 0 &&& 1)) q0 1 ((su σ q0 0 (σ q1 0 &&& 1)) q1 1)) q0 2 ((su (su σ q0 0 (σ q1 0 &&& 1)) q0 1 ((su σ q0 0 (σ q1 0 &&& 1)) q1 1)) q1 2)) q0 3 ((su (su (su σ q0 0 (σ q1 0 &&& 1)) q0 1 ((su σ q0 0 (σ q1 0 &&& 1)) q1 1)) q0 2 ((su (su σ q0 0 (σ q1 0 &&& 1)) q0 1 ((su σ q0 0 (σ q1 0 &&& 1)) q1 1)) q1 2)) q1 3)) q1 4)) q1 5)) q1 6)) q0 7 ((su (su (su (su (su (su (su σ q0 0 (σ q1 0 &&& 1)) q0 1 ((su σ q0 0 (σ q1 0 &&& 1)) q1 1)) q0 2 ((su (su σ q0 0 (σ q1 0 &&& 1)) q0 1 ((su σ q0 0 (σ q1 0 &&& 1)) q1 1)) q1 2)) q0 3 ((su (su (su σ q0 0 (σ q1 0 &&& 1)) q0 1 ((su σ q0 0 (σ q1 0 &&& 1)) q1 1)) q0 2 ((su (su σ q0 0 (σ q1 0 &&& 1)) q0 1 ((su σ q0 0 (σ q1 0 &&& 1)) q1 1)) q1 2)) q1 3)) q0 4 ((su (su (su (su σ q0 0 (σ q1 0 &&& 1)) q0 1 ((su σ q0 0 (σ q1 0 &&& 1)) q1 1)) q0 2 ((su (su σ q0 0 (σ q1 0 &&& 1)) q0 1 ((su σ q0 0 (σ q1 0 &&& 1)) q1 1)) q1 2)) q0 3 ((su (su (su σ q0 0 (σ q1 0 &&& 1)) q0 1 ((su σ q0 0 (σ q1 0 &&& 1)) q1 1)) q0 2 ((su (su σ q0 0 (σ q1 0 &&& 1)) q0 1 ((su σ q0 0 (σ q1 0 &&& 1)) q1 1)) q1 2)) q1 3)) q1 4)) q0 5 ((su (su (su (su (su σ q0 0 (σ q1 0 &&& 1)) q0 1 ((su σ q0 0 (σ q1 0 &&& 1)) q1 1)) q0 2 ((su (su σ q0 0 (σ q1 0 &&& 1)) q0 1 ((su σ q0 0 (σ q1 0 &&& 1)) q1 1)) q1 2)) q0 3 ((su (su (su σ q0 0 (σ q1 0 &&& 1)) q0 1 ((su σ q0 0 (σ q1 0 &&& 1)) q1 1)) q0 2 ((su (su σ q0 0 (σ q1 0 &&& 1)) q0 1 ((su σ q0 0 (σ q1 0 &&& 1)) q1 1)) q1 2)) q1 3)) q0 4 ((su (su (su (su σ q0 0 (σ q1 0 &&& 1)) q0 1 ((su σ q0 0 (σ q1 0 &&& 1)) q1 1)) q0 2 ((su (su σ q0 0 (σ q1 0 &&& 1)) q0 1 ((su σ q0 0 (σ q1 0 &&& 1)) q1 1)) q1 2)) q0 3 ((su (su (su σ q0 0 (σ q1 0 &&& 1)) q0 1 ((su σ q0 0 (σ q1 0 &&& 1)) q1 1)) q0 2 ((su (su σ q0 0 (σ q1 0 &&& 1)) q0 1 ((su σ q0 0 (σ q1 0 &&& 1)) q1 1)) q1 2)) q1 3)) q1 4)) q1 5)) q0 6 ((su (su (su (su (su (su σ q0 0 (σ q1 0 &&& 1)) q0 1 ((su σ q0 0 (σ q1 0 &&& 1)) q1 1)) q0 2 ((su (su σ q0 0 (σ q1 0 &&& 1)) q0 1 ((su σ q0 0 (σ q1 0 &&& 1)) q1 1)) q1 2)) q0 3 ((su (su (su σ q0 0 (σ q1 0 &&& 1)) q0 1 ((su σ q0 0 (σ q1 0 &&& 1)) q1 1)) q0 2 ((su (su σ q0 0 (σ q1 0 &&& 1)) q0 1 ((su σ q0 0 (σ q1 0 &&& 1)) q1 1)) q1 2)) q1 3)) q0 4 ((su (su (su (su σ q0 0 (σ q1 0 &&& 1)) q0 1 ((su σ q0 0 (σ q1 0 &&& 1)) q1 1)) q0 2 ((su (su σ q0 0 (σ q1 0 &&& 1)) q0 1 ((su σ q0 0 (σ q1 0 &&& 1)) q1 1)) q1 2)) q0 3 ((su (su (su σ q0 0 (σ q1 0 &&& 1)) q0 1 ((su σ q0 0 (σ q1 0 &&& 1)) q1 1)) q0 2 ((su (su σ q0 0 (σ q1 0 &&& 1)) q0 1 ((su σ q0 0 (σ q1 0 &&& 1)) q1 1)) q1 2)) q1 3)) q1 4)) q0 5 ((su (su (su (su (su σ q0 0 (σ q1 0 &&& 1)) q0 1 ((su σ q0 0 (σ q1 0 &&& 1)) q1 1)) q0 2 ((su (su σ q0 0 (σ q1 0 &&& 1)) q0 1 ((su σ q0 0 (σ q1 0 &&& 1)) q1 1)) q1 2)) q0 3 ((su (su (su σ q0 0 (σ q1 0 &&& 1)) q0 1 ((su σ q0 0 (σ q1 0 &&& 1)) q1 1)) q0 2 ((su (su σ q0 0 (σ q1 0 &&& 1)) q0 1 ((su σ q0 0 (σ q1 0 &&& 1)) q1 1)) q1 2)) q1 3)) q0 4 ((su (su (su (su σ q0 0 (σ q1 0 &&& 1)) q0 1 ((su σ q0 0 (σ q1 0 &&& 1)) q1 1)) q0 2 ((su (su σ q0 0 (σ q1 0 &&& 1)) q0 1 ((su σ q0 0 (σ q1 0 &&& 1)) q1 1)) q1 2)) q0 3 ((su (su (su σ q0 0 (σ q1 0 &&& 1)) q0 1 ((su σ q0 0 (σ q1 0 &&& 1)) q1 1)) q0 2 ((su (su σ q0 0 (σ q1 0 &&& 1)) q0 1 ((su σ q0 0 (σ q1 0 &&& 1)) q1 1)) q1 2)) q1 3)) q1 4)) q1 5)) q1 6)) q1 7)) q1 8)) q0 9 ((su (su (su (su (su (su (su (su (su σ q0 0 (σ q1 0 &&& 1)) q0 1 ((su σ q0 0 (σ q1 0 &&& 1)) q1 1)) q0 2 ((su (su σ q0 0 (σ q1 0 &&& 1)) q0 1 ((su σ q0 0 (σ q1 0 &&& 1)) q1 1)) q1 2)) q0 3 ((su (su (su σ q0 0 (σ q1 0 &&& 1)) q0 1 ((su σ q0 0 (σ q1 0 &&& 1)) q1 1)) q0 2 ((su (su σ q0 0 (σ q1 0 &&& 1)) q0 1 ((su σ q0 0 (σ q1 0 &&& 1)) q1 1)) q1 2)) q1 3)) q0 4 ((su (su (su (su σ q0 0 (σ q1 0 &&& 1)) q0 1 ((su σ q0 0 (σ q1 0 &&& 1)) q1 1)) q0 2 ((su (su σ q0 0 (σ q1 0 &&& 1)) q0 1 ((su σ q0 0 (σ q1 0 &&& 1)) q1 1)) q1 2)) q0 3 ((su (su (su σ q0 0 (σ q1 0 &&& 1)) q0 1 ((su σ q0 0 (σ q1 0 &&& 1)) q1 1)) q0 2 ((su (su σ q0 0 (σ q1 0 &&& 1)) q0 1 ((su σ q0 0 (σ q1 0 &&& 1)) q1 1)) q1 2)) q1 3)) q1 4)) q0 5 ((su (su (su (su (su σ q0 0 (σ q1 0 &&& 1)) q0 1 ((su σ q0 0 (σ q1 0 &&& 1)) q1 1)) q0 2 ((su (su σ q0 0 (σ q1 0 &&& 1)) q0 1 ((su σ q0 0 (σ q1 0 &&& 1)) q1 1)) q1 2)) q0 3 ((su (su (su σ q0 0 (σ q1 0 &&& 1)) q0 1 ((su σ q0 0 (σ q1 0 &&& 1)) q1 1)) q0 2 ((su (su σ q0 0 (σ q1 0 &&& 1)) q0 1 ((su σ q0 0 (σ q1 0 &&& 1)) q1 1)) q1 2)) q1 3)) q0 4 ((su (su (su (su σ q0 0 (σ q1 0 &&& 1)) q0 1 ((su σ q0 0 (σ q1 0 &&& 1)) q1 1)) q0 2 ((su (su σ q0 0 (σ q1 0 &&& 1)) q0 1 ((su σ q0 0 (σ q1 0 &&& 1)) q1 1)) q1 2)) q0 3 ((su (su (su σ q0 0 (σ q1 0 &&& 1)) q0 1 ((su σ q0 0 (σ q1 0 &&& 1)) q1 1)) q0 2 ((su (su σ q0 0 (σ q1 0 &&& 1)) q0 1 ((su σ q0 0 (σ q1 0 &&& 1)) q1 1)) q1 2)) q1 3)) q1 4)) q1 5)) q0 6 ((su (su (su (su (su (su σ q0 0 (σ q1 0 &&& 1)) q0 1 ((su σ q0 0 (σ q1 0 &&& 1)) q1 1)) q0 2 ((su (su σ q0 0 (σ q1 0 &&& 1)) q0 1 ((su σ q0 0 (σ q1 0 &&& 1)) q1 1)) q1 2)) q0 3 ((su (su (su σ q0 0 (σ q1 0 &&& 1)) q0 1 ((su σ q0 0 (σ q1 0 &&& 1)) q1 1)) q0 2 ((su (su σ q0 0 (σ q1 0 &&& 1)) q0 1 ((su σ q0 0 (σ q1 0 &&& 1)) q1 1)) q1 2)) q1 3)) q0 4 ((su (su (su (su σ q0 0 (σ q1 0 &&& 1)) q0 1 ((su σ q0 0 (σ q1 0 &&& 1)) q1 1)) q0 2 ((su (su σ q0 0 (σ q1 0 &&& 1)) q0 1 ((su σ q0 0 (σ q1 0 &&& 1)) q1 1)) q1 2)) q0 3 ((su (su (su σ q0 0 (σ q1 0 &&& 1)) q0 1 ((su σ q0 0 (σ q1 0 &&& 1)) q1 1)) q0 2 ((su (su σ q0 0 (σ q1 0 &&& 1)) q0 1 ((su σ q0 0 (σ q1 0 &&& 1)) q1 1)) q1 2)) q1 3)) q1 4)) q0 5 ((su (su (su (su (su σ q0 0 (σ q1 0 &&& 1)) q0 1 ((su σ q0 0 (σ q1 0 &&& 1)) q1 1)) q0 2 ((su (su σ q0 0 (σ q1 0 &&& 1)) q0 1 ((su σ q0 0 (σ q1 0 &&& 1)) q1 1)) q1 2)) q0 3 ((su (su (su σ q0 0 (σ q1 0 &&& 1)) q0 1 ((su σ q0 0 (σ q1 0 &&& 1)) q1 1)) q0 2 ((su (su σ q0 0 (σ q1 0 &&& 1)) q0 1 ((su σ q0 0 (σ q1 0 &&& 1)) q1 1)) q1 2)) q1 3)) q0 4 ((su (su (su (su σ q0 0 (σ q1 0 &&& 1)) q0 1 ((su σ q0 0 (σ q1 0 &&& 1)) q1 1)) q0 2 ((su (su σ q0 0 (σ q1 0 &&& 1)) q0 1 ((su σ q0 0 (σ q1 0 &&& 1)) q1 1)) q1 2)) q0 3 ((su (su (su σ q0 0 (σ q1 0 &&& 1)) q0 1 ((su σ q0 0 (σ q1 0 &&& 1)) q1 1)) q0 2 ((su (su σ q0 0 (σ q1 0 &&& 1)) q0 1 ((su σ q0 0 (σ q1 0 &&& 1)) q1 1)) q1 2)) q1 3)) q1 4)) q1 5)) q1 6)) q0 7 ((su (su (su (su (su (su (su σ q0 0 (σ q1 0 &&& 1)) q0 1 ((su σ q0 0 (σ q1 0 &&& 1)) q1 1)) q0 2 ((su (su σ q0 0 (σ q1 0 &&& 1)) q0 1 ((su σ q0 0 (σ q1 0 &&& 1)) q1 1)) q1 2)) q0 3 ((su (su (su σ q0 0 (σ q1 0 &&& 1)) q0 1 ((su σ q0 0 (σ q1 0 &&& 1)) q1 1)) q0 2 ((su (su σ q0 0 (σ q1 0 &&& 1)) q0 1 ((su σ q0 0 (σ q1 0 &&& 1)) q1 1)) q1 2)) q1 3)) q0 4 ((su (su (su (su σ q0 0 (σ q1 0 &&& 1)) q0 1 ((su σ q0 0 (σ q1 0 &&& 1)) q1 1)) q0 2 ((su (su σ q0 0 (σ q1 0 &&& 1)) q0 1 ((su σ q0 0 (σ q1 0 &&& 1)) q1 1)) q1 2)) q0 3 ((su (su (su σ q0 0 (σ q1 0 &&& 1)) q0 1 ((su σ q0 0 (σ q1 0 &&& 1)) q1 1)) q0 2 ((su (su σ q0 0 (σ q1 0 &&& 1)) q0 1 ((su σ q0 0 (σ q1 0 &&& 1)) q1 1)) q1 2)) q1 3)) q1 4)) q0 5 ((su (su (su (su (su σ q0 0 (σ q1 0 &&& 1)) q0 1 ((su σ q0 0 (σ q1 0 &&& 1)) q1 1)) q0 2 ((su (su σ q0 0 (σ q1 0 &&& 1)) q0 1 ((su σ q0 0 (σ q1 0 &&& 1)) q1 1)) q1 2)) q0 3 ((su (su (su σ q0 0 (σ q1 0 &&& 1)) q0 1 ((su σ q0 0 (σ q1 0 &&& 1)) q1 1)) q0 2 ((su (su σ q0 0 (σ q1 0 &&& 1)) q0 1 ((su σ q0 0 (σ q1 0 &&& 1)) q1 1)) q1 2)) q1 3)) q0 4 ((su (su (su (su σ q0 0 (σ q1 0 &&& 1)) q0 1 ((su σ q0 0 (σ q1 0 &&& 1)) q1 1)) q0 2 ((su (su σ q0 0 (σ q1 0 &&& 1)) q0 1 ((su σ q0 0 (σ q1 0 &&& 1)) q1 1)) q1 2)) q0 3 ((su (su (su σ q0 0 (σ q1 0 &&& 1)) q0 1 ((su σ q0 0 (σ q1 0 &&& 1)) q1 1)) q0 2 ((su (su σ q0 0 (σ q1 0 &&& 1)) q0 1 ((su σ q0 0 (σ q1 0 &&& 1)) q1 1)) q1 2)) q1 3)) q1 4)) q1 5)) q0 6 ((su (su (su (su (su (su σ q0 0 (σ q1 0 &&& 1)) q0 1 ((su σ q0 0 (σ q1 0 &&& 1)) q1 1)) q0 2 ((su (su σ q0 0 (σ q1 0 &&& 1)) q0 1 ((su σ q0 0 (σ q1 0 &&& 1)) q1 1)) q1 2)) q0 3 ((su (su (su σ q0 0 (σ q1 0 &&& 1)) q0 1 ((su σ q0 0 (σ q1 0 &&& 1)) q1 1)) q0 2 ((su (su σ q0 0 (σ q1 0 &&& 1)) q0 1 ((su σ q0 0 (σ q1 0 &&& 1)) q1 1)) q1 2)) q1 3)) q0 4 ((su (su (su (su σ q0 0 (σ q1 0 &&& 1)) q0 1 ((su σ q0 0 (σ q1 0 &&& 1)) q1 1)) q0 2 ((su (su σ q0 0 (σ q1 0 &&& 1)) q0 1 ((su σ q0 0 (σ q1 0 &&& 1)) q1 1)) q1 2)) q0 3 ((su (su (su σ q0 0 (σ q1 0 &&& 1)) q0 1 ((su σ q0 0 (σ q1 0 &&& 1)) q1 1)) q0 2 ((su (su σ q0 0 (σ q1 0 &&& 1)) q0 1 ((su σ q0 0 (σ q1 0 &&& 1)) q1 1)) q1 2)) q1 3)) q1 4)) q0 5 ((su (su (su (su (su σ q0 0 (σ q1 0 &&& 1)) q0 1 ((su σ q0 0 (σ q1 0 &&& 1)) q1 1)) q0 2 ((su (su σ q0 0 (σ q1 0 &&& 1)) q0 1 ((su σ q0 0 (σ q1 0 &&& 1)) q1 1)) q1 2)) q0 3 ((su (su (su σ q0 0 (σ q1 0 &&& 1)) q0 1 ((su σ q0 0 (σ q1 0 &&& 1)) q1 1)) q0 2 ((su (su σ q0 0 (σ q1 0 &&& 1)) q0 1 ((su σ q0 0 (σ q1 0 &&& 1)) q1 1)) q1 2)) q1 3)) q0 4 ((su (su (su (su σ q0 0 (σ q1 0 &&& 1)) q0 1 ((su σ q0 0 (σ q1 0 &&& 1)) q1 1)) q0 2 ((su (su σ q0 0 (σ q1 0 &&& 1)) q0 1 ((su σ q0 0 (σ q1 0 &&& 1)) q1 1)) q1 2)) q0 3 ((su (su (su σ q0 0 (σ q1 0 &&& 1)) q0 1 ((su σ q0 0 (σ q1 0 &&& 1)) q1 1)) q0 2 ((su (su σ q0 0 (σ q1 0 &&& 1)) q0 1 ((su σ q0 0 (σ q1 0 &&& 1)) q1 1)) q1 2)) q1 3)) q1 4)) q1 5)) q1 6)) q1 7)) q0 8 ((su (su (su (su (su (su (su (su σ q0 0 (σ q1 0 &&& 1)) q0 1 ((su σ q0 0 (σ q1 0 &&& 1)) q1 1)) q0 2 ((su (su σ q0 0 (σ q1 0 &&& 1)) q0 1 ((su σ q0 0 (σ q1 0 &&& 1)) q1 1)) q1 2)) q0 3 ((su (su (su σ q0 0 (σ q1 0 &&& 1)) q0 1 ((su σ q0 0 (σ q1 0 &&& 1)) q1 1)) q0 2 ((su (su σ q0 0 (σ q1 0 &&& 1)) q0 1 ((su σ q0 0 (σ q1 0 &&& 1)) q1 1)) q1 2)) q1 3)) q0 4 ((su (su (su (su σ q0 0 (σ q1 0 &&& 1)) q0 1 ((su σ q0 0 (σ q1 0 &&& 1)) q1 1)) q0 2 ((su (su σ q0 0 (σ q1 0 &&& 1)) q0 1 ((su σ q0 0 (σ q1 0 &&& 1)) q1 1)) q1 2)) q0 3 ((su (su (su σ q0 0 (σ q1 0 &&& 1)) q0 1 ((su σ q0 0 (σ q1 0 &&& 1)) q1 1)) q0 2 ((su (su σ q0 0 (σ q1 0 &&& 1)) q0 1 ((su σ q0 0 (σ q1 0 &&& 1)) q1 1)) q1 2)) q1 3)) q1 4)) q0 5 ((su (su (su (su (su σ q0 0 (σ q1 0 &&& 1)) q0 1 ((su σ q0 0 (σ q1 0 &&& 1)) q1 1)) q0 2 ((su (su σ q0 0 (σ q1 0 &&& 1)) q0 1 ((su σ q0 0 (σ q1 0 &&& 1)) q1 1)) q1 2)) q0 3 ((su (su (su σ q0 0 (σ q1 0 &&& 1)) q0 1 ((su σ q0 0 (σ q1 0 &&& 1)) q1 1)) q0 2 ((su (su σ q0 0 (σ q1 0 &&& 1)) q0 1 ((su σ q0 0 (σ q1 0 &&& 1)) q1 1)) q1 2)) q1 3)) q0 4 ((su (su (su (su σ q0 0 (σ q1 0 &&& 1)) q0 1 ((su σ q0 0 (σ q1 0 &&& 1)) q1 1)) q0 2 ((su (su σ q0 0 (σ q1 0 &&& 1)) q0 1 ((su σ q0 0 (σ q1 0 &&& 1)) q1 1)) q1 2)) q0 3 ((su (su (su σ q0 0 (σ q1 0 &&& 1)) q0 1 ((su σ q0 0 (σ q1 0 &&& 1)) q1 1)) q0 2 ((su (su σ q0 0 (σ q1 0 &&& 1)) q0 1 ((su σ q0 0 (σ q1 0 &&& 1)) q1 1)) q1 2)) q1 3)) q1 4)) q1 5)) q0 6 ((su (su (su (su (su (su σ q0 0 (σ q1 0 &&& 1)) q0 1 ((su σ q0 0 (σ q1 0 &&& 1)) q1 1)) q0 2 ((su (su σ q0 0 (σ q1 0 &&& 1)) q0 1 ((su σ q0 0 (σ q1 0 &&& 1)) q1 1)) q1 2)) q0 3 ((su (su (su σ q0 0 (σ q1 0 &&& 1)) q0 1 ((su σ q0 0 (σ q1 0 &&& 1)) q1 1)) q0 2 ((su (su σ q0 0 (σ q1 0 &&& 1)) q0 1 ((su σ q0 0 (σ q1 0 &&& 1)) q1 1)) q1 2)) q1 3)) q0 4 ((su (su (su (su σ q0 0 (σ q1 0 &&& 1)) q0 1 ((su σ q0 0 (σ q1 0 &&& 1)) q1 1)) q0 2 ((su (su σ q0 0 (σ q1 0 &&& 1)) q0 1 ((su σ q0 0 (σ q1 0 &&& 1)) q1 1)) q1 2)) q0 3 ((su (su (su σ q0 0 (σ q1 0 &&& 1)) q0 1 ((su σ q0 0 (σ q1 0 &&& 1)) q1 1)) q0 2 ((su (su σ q0 0 (σ q1 0 &&& 1)) q0 1 ((su σ q0 0 (σ q1 0 &&& 1)) q1 1)) q1 2)) q1 3)) q1 4)) q0 5 ((su (su (su (su (su σ q0 0 (σ q1 0 &&& 1)) q0 1 ((su σ q0 0 (σ q1 0 &&& 1)) q1 1)) q0 2 ((su (su σ q0 0 (σ q1 0 &&& 1)) q0 1 ((su σ q0 0 (σ q1 0 &&& 1)) q1 1)) q1 2)) q0 3 ((su (su (su σ q0 0 (σ q1 0 &&& 1)) q0 1 ((su σ q0 0 (σ q1 0 &&& 1)) q1 1)) q0 2 ((su (su σ q0 0 (σ q1 0 &&& 1)) q0 1 ((su σ q0 0 (σ q1 0 &&& 1)) q1 1)) q1 2)) q1 3)) q0 4 ((su (su (su (su σ q0 0 (σ q1 0 &&& 1)) q0 1 ((su σ q0 0 (σ q1 0 &&& 1)) q1 1)) q0 2 ((su (su σ q0 0 (σ q1 0 &&& 1)) q0 1 ((su σ q0 0 (σ q1 0 &&& 1)) q1 1)) q1 2)) q0 3 ((su (su (su σ q0 0 (σ q1 0 &&& 1)) q0 1 ((su σ q0 0 (σ q1 0 &&& 1)) q1 1)) q0 2 ((su (su σ q0 0 (σ q1 0 &&& 1)) q0 1 ((su σ q0 0 (σ q1 0 &&& 1)) q1 1)) q1 2)) q1 3)) q1 4)) q1 5)) q1 6)) q0 7 ((su (su (su (su (su (su (su σ q0 0 (σ q1 0 &&& 1)) q0 1 ((su σ q0 0 (σ q1 0 &&& 1)) q1 1)) q0 2 ((su (su σ q0 0 (σ q1 0 &&& 1)) q0 1 ((su σ q0 0 (σ q1 0 &&& 1)) q1 1)) q1 2)) q0 3 ((su (su (su σ q0 0 (σ q1 0 &&& 1)) q0 1 ((su σ q0 0 (σ q1 0 &&& 1)) q1 1)) q0 2 ((su (su σ q0 0 (σ q1 0 &&& 1)) q0 1 ((su σ q0 0 (σ q1 0 &&& 1)) q1 1)) q1 2)) q1 3)) q0 4 ((su (su (su (su σ q0 0 (σ q1 0 &&& 1)) q0 1 ((su σ q0 0 (σ q1 0 &&& 1)) q1 1)) q0 2 ((su (su σ q0 0 (σ q1 0 &&& 1)) q0 1 ((su σ q0 0 (σ q1 0 &&& 1)) q1 1)) q1 2)) q0 3 ((su (su (su σ q0 0 (σ q1 0 &&& 1)) q0 1 ((su σ q0 0 (σ q1 0 &&& 1)) q1 1)) q0 2 ((su (su σ q0 0 (σ q1 0 &&& 1)) q0 1 ((su σ q0 0 (σ q1 0 &&& 1)) q1 1)) q1 2)) q1 3)) q1 4)) q0 5 ((su (su (su (su (su σ q0 0 (σ q1 0 &&& 1)) q0 1 ((su σ q0 0 (σ q1 0 &&& 1)) q1 1)) q0 2 ((su (su σ q0 0 (σ q1 0 &&& 1)) q0 1 ((su σ q0 0 (σ q1 0 &&& 1)) q1 1)) q1 2)) q0 3 ((su (su (su σ q0 0 (σ q1 0 &&& 1)) q0 1 ((su σ q0 0 (σ q1 0 &&& 1)) q1 1)) q0 2 ((su (su σ q0 0 (σ q1 0 &&& 1)) q0 1 ((su σ q0 0 (σ q1 0 &&& 1)) q1 1)) q1 2)) q1 3)) q0 4 ((su (su (su (su σ q0 0 (σ q1 0 &&& 1)) q0 1 ((su σ q0 0 (σ q1 0 &&& 1)) q1 1)) q0 2 ((su (su σ q0 0 (σ q1 0 &&& 1)) q0 1 ((su σ q0 0 (σ q1 0 &&& 1)) q1 1)) q1 2)) q0 3 ((su (su (su σ q0 0 (σ q1 0 &&& 1)) q0 1 ((su σ q0 0 (σ q1 0 &&& 1)) q1 1)) q0 2 ((su (su σ q0 0 (σ q1 0 &&& 1)) q0 1 ((su σ q0 0 (σ q1 0 &&& 1)) q1 1)) q1 2)) q1 3)) q1 4)) q1 5)) q0 6 ((su (su (su (su (su (su σ q0 0 (σ q1 0 &&& 1)) q0 1 ((su σ q0 0 (σ q1 0 &&& 1)) q1 1)) q0 2 ((su (su σ q0 0 (σ q1 0 &&& 1)) q0 1 ((su σ q0 0 (σ q1 0 &&& 1)) q1 1)) q1 2)) q0 3 ((su (su (su σ q0 0 (σ q1 0 &&& 1)) q0 1 ((su σ q0 0 (σ q1 0 &&& 1)) q1 1)) q0 2 ((su (su σ q0 0 (σ q1 0 &&& 1)) q0 1 ((su σ q0 0 (σ q1 0 &&& 1)) q1 1)) q1 2)) q1 3)) q0 4 ((su (su (su (su σ q0 0 (σ q1 0 &&& 1)) q0 1 ((su σ q0 0 (σ q1 0 &&& 1)) q1 1)) q0 2 ((su (su σ q0 0 (σ q1 0 &&& 1)) q0 1 ((su σ q0 0 (σ q1 0 &&& 1)) q1 1)) q1 2)) q0 3 ((su (su (su σ q0 0 (σ q1 0 &&& 1)) q0 1 ((su σ q0 0 (σ q1 0 &&& 1)) q1 1)) q0 2 ((su (su σ q0 0 (σ q1 0 &&& 1)) q0 1 ((su σ q0 0 (σ q1 0 &&& 1)) q1 1)) q1 2)) q1 3)) q1 4)) q0 5 ((su (su (su (su (su σ q0 0 (σ q1 0 &&& 1)) q0 1 ((su σ q0 0 (σ q1 0 &&& 1)) q1 1)) q0 2 ((su (su σ q0 0 (σ q1 0 &&& 1)) q0 1 ((su σ q0 0 (σ q1 0 &&& 1)) q1 1)) q1 2)) q0 3 ((su (su (su σ q0 0 (σ q1 0 &&& 1)) q0 1 ((su σ q0 0 (σ q1 0 &&& 1)) q1 1)) q0 2 ((su (su σ q0 0 (σ q1 0 &&& 1)) q0 1 ((su σ q0 0 (σ q1 0 &&& 1)) q1 1)) q1 2)) q1 3)) q0 4 ((su (su (su (su σ q0 0 (σ q1 0 &&& 1)) q0 1 ((su σ q0 0 (σ q1 0 &&& 1)) q1 1)) q0 2 ((su (su σ q0 0 (σ q1 0 &&& 1)) q0 1 ((su σ q0 0 (σ q1 0 &&& 1)) q1 1)) q1 2)) q0 3 ((su (su (su σ q0 0 (σ q1 0 &&& 1)) q0 1 ((su σ q0 0 (σ q1 0 &&& 1)) q1 1)) q0 2 ((su (su σ q0 0 (σ q1 0 &&& 1)) q0 1 ((su σ q0 0 (σ q1 0 &&& 1)) q1 1)) q1 2)) q1 3)) q1 4)) q1 5)) q1 6)) q1 7)) q1 8)) q1 9))
  else none
set_option maxRecDepth 100000 in
set_option maxHeartbeats 4000000 in
theorem c_X2_copyFrom (l : Launch) (D : va_G) (ca : Nat → ClassId) (ad : Nat → Nat) (N : Nat) (q0 : Nat) (hq0 : SH[q0]? = some oSpot) (q1 : Nat) (hq1 : SH[q1]? = some oSpot) (σ : St) (τ : St) (hf : f_X2_copyFrom N q0 q1 σ = some τ) : cM l yX2_copyFrom (.code yX2_copyFrom cX2_copyFrom 2 none) (rmk 0) D ca ad SH [.ref (ad q0), .ref (ad q1)] σ none τ := by
  refine cM.intro2 (own := RX2) (lo := [some (.ref (ad q0)), some (.ref (ad q1))]) (by decide) rfl (ccR (ccR cc0)) (Nat.le_of_ble_eq_true rfl) rfl ?_
  intro p e s m args below meth c A C hr hlk
  unfold f_X2_copyFrom at hf
  refine s_aloadn (pc := 0) C dX2_copyFrom_0 rfl ?_
  refine s_aloadn (pc := 1) C dX2_copyFrom_1 rfl ?_
  refine s_getZ (pc := 2) C fl_X2_9 hq1 rfl dX2_copyFrom_2 ?_
  obtain ⟨g_1, hf⟩ := gd hf
  refine s_putZ (pc := 5) C fp_X2_9 hq0 rfl g_1 dX2_copyFrom_5 ?_
  refine s_aloadn (pc := 8) C dX2_copyFrom_8 rfl ?_
  refine s_aloadn (pc := 9) C dX2_copyFrom_9 rfl ?_
  refine s_getI (pc := 10) C fl_X2_15 hq1 rfl dX2_copyFrom_10 ?_
  refine s_putI (pc := 13) C fp_X2_15 hq0 rfl dX2_copyFrom_13 ?_
  refine s_aloadn (pc := 16) C dX2_copyFrom_16 rfl ?_
  refine s_aloadn (pc := 17) C dX2_copyFrom_17 rfl ?_
  refine s_getI (pc := 18) C fl_X2_19 hq1 rfl dX2_copyFrom_18 ?_
  refine s_putI (pc := 21) C fp_X2_19 hq0 rfl dX2_copyFrom_21 ?_
  refine s_aloadn (pc := 24) C dX2_copyFrom_24 rfl ?_
  refine s_aloadn (pc := 25) C dX2_copyFrom_25 rfl ?_
  refine s_getI (pc := 26) C fl_X2_22 hq1 rfl dX2_copyFrom_26 ?_
  refine s_putI (pc := 29) C fp_X2_22 hq0 rfl dX2_copyFrom_29 ?_
  refine s_aloadn (pc := 32) C dX2_copyFrom_32 rfl ?_
  refine s_aloadn (pc := 33) C dX2_copyFrom_33 rfl ?_
  refine s_getI (pc := 34) C fl_X2_31 hq1 rfl dX2_copyFrom_34 ?_
  refine s_putI (pc := 37) C fp_X2_31 hq0 rfl dX2_copyFrom_37 ?_
  refine s_aloadn (pc := 40) C dX2_copyFrom_40 rfl ?_
  refine s_aloadn (pc := 41) C dX2_copyFrom_41 rfl ?_
  refine s_getI (pc := 42) C fl_X2_37 hq1 rfl dX2_copyFrom_42 ?_
  refine s_putI (pc := 45) C fp_X2_37 hq0 rfl dX2_copyFrom_45 ?_
  refine s_aloadn (pc := 48) C dX2_copyFrom_48 rfl ?_
  refine s_aloadn (pc := 49) C dX2_copyFrom_49 rfl ?_
  refine s_getI (pc := 50) C fl_X2_43 hq1 rfl dX2_copyFrom_50 ?_
  refine s_putI (pc := 53) C fp_X2_43 hq0 rfl dX2_copyFrom_53 ?_
  refine s_aloadn (pc := 56) C dX2_copyFrom_56 rfl ?_
  refine s_aloadn (pc := 57) C dX2_copyFrom_57 rfl ?_
  refine s_getI (pc := 58) C fl_X2_46 hq1 rfl dX2_copyFrom_58 ?_
  refine s_putI (pc := 61) C fp_X2_46 hq0 rfl dX2_copyFrom_61 ?_
  refine s_aloadn (pc := 64) C dX2_copyFrom_64 rfl ?_
  refine s_aloadn (pc := 65) C dX2_copyFrom_65 rfl ?_
  refine s_getI (pc := 66) C fl_X2_52 hq1 rfl dX2_copyFrom_66 ?_
  refine s_putI (pc := 69) C fp_X2_52 hq0 rfl dX2_copyFrom_69 ?_
  refine s_aloadn (pc := 72) C dX2_copyFrom_72 rfl ?_
  refine s_aloadn (pc := 73) C dX2_copyFrom_73 rfl ?_
  refine s_getI (pc := 74) C fl_X2_56 hq1 rfl dX2_copyFrom_74 ?_
  refine s_putI (pc := 77) C fp_X2_56 hq0 rfl dX2_copyFrom_77 ?_
  exact s_vret (pc := 80) C hr hlk dX2_copyFrom_80 rfl (rtv hf)
def f_X2_detail (N : Nat) (q0 : Nat) (a1 : Int32) (σ : St) : Option (Int32 × St) :=
  if a1 = 0 then
    some ((σ q0 1), σ)
  else
    if a1 = 1 then
      some ((σ q0 2), σ)
    else
      if a1 = 2 then
        some ((σ q0 3), σ)
      else
        if a1 = 3 then
          some ((σ q0 4), σ)
        else
          if a1 = 4 then
            some ((σ q0 5), σ)
          else
            if a1 = 5 then
              some ((σ q0 6), σ)
            else
              some ((σ q0 7), σ)
set_option maxRecDepth 100000 in
set_option maxHeartbeats 4000000 in
theorem c_X2_detail (l : Launch) (D : va_G) (ca : Nat → ClassId) (ad : Nat → Nat) (N : Nat) (q0 : Nat) (hq0 : SH[q0]? = some oSpot) (a1 : Int32) (σ : St) (r : Int32) (τ : St) (hf : f_X2_detail N q0 a1 σ = some (r, τ)) : cM l yX2_detail (.code yX2_detail cX2_detail 2 (some .int)) (rmk 0) D ca ad SH [.ref (ad q0), .int a1] σ (some (.int r)) τ := by
  refine cM.intro2 (own := RX2) (lo := [some (.ref (ad q0)), some (.int a1)]) (by decide) rfl (ccR (ccI cc0)) (Nat.le_of_ble_eq_true rfl) rfl ?_
  intro p e s m args below meth c A C hr hlk
  unfold f_X2_detail at hf
  refine s_iloadn (pc := 0) C dX2_detail_0 rfl ?_
  by_cases h_1 : a1 = 0
  · replace hf := ifp h_1 hf
    refine s_tsw (pc := 1) (off := 39) (tgt := 40) C h_1 dX2_detail_1 (by decide) ?_
    refine s_aloadn (pc := 40) C dX2_detail_40 rfl ?_
    refine s_getI (pc := 41) C fl_X2_15 hq0 rfl dX2_detail_41 ?_
    exact s_iret (pc := 44) C hr hlk dX2_detail_44 (congrArg (fun z => some (Value.int z)) (rt hf).1) (rt hf).2
  · replace hf := ifn h_1 hf
    by_cases h_2 : a1 = 1
    · replace hf := ifp h_2 hf
      refine s_tsw (pc := 1) (off := 44) (tgt := 45) C h_2 dX2_detail_1 (by decide) ?_
      refine s_aloadn (pc := 45) C dX2_detail_45 rfl ?_
      refine s_getI (pc := 46) C fl_X2_19 hq0 rfl dX2_detail_46 ?_
      exact s_iret (pc := 49) C hr hlk dX2_detail_49 (congrArg (fun z => some (Value.int z)) (rt hf).1) (rt hf).2
    · replace hf := ifn h_2 hf
      by_cases h_3 : a1 = 2
      · replace hf := ifp h_3 hf
        refine s_tsw (pc := 1) (off := 49) (tgt := 50) C h_3 dX2_detail_1 (by decide) ?_
        refine s_aloadn (pc := 50) C dX2_detail_50 rfl ?_
        refine s_getI (pc := 51) C fl_X2_22 hq0 rfl dX2_detail_51 ?_
        exact s_iret (pc := 54) C hr hlk dX2_detail_54 (congrArg (fun z => some (Value.int z)) (rt hf).1) (rt hf).2
      · replace hf := ifn h_3 hf
        by_cases h_4 : a1 = 3
        · replace hf := ifp h_4 hf
          refine s_tsw (pc := 1) (off := 54) (tgt := 55) C h_4 dX2_detail_1 (by decide) ?_
          refine s_aloadn (pc := 55) C dX2_detail_55 rfl ?_
          refine s_getI (pc := 56) C fl_X2_31 hq0 rfl dX2_detail_56 ?_
          exact s_iret (pc := 59) C hr hlk dX2_detail_59 (congrArg (fun z => some (Value.int z)) (rt hf).1) (rt hf).2
        · replace hf := ifn h_4 hf
          by_cases h_5 : a1 = 4
          · replace hf := ifp h_5 hf
            refine s_tsw (pc := 1) (off := 59) (tgt := 60) C h_5 dX2_detail_1 (by decide) ?_
            refine s_aloadn (pc := 60) C dX2_detail_60 rfl ?_
            refine s_getI (pc := 61) C fl_X2_37 hq0 rfl dX2_detail_61 ?_
            exact s_iret (pc := 64) C hr hlk dX2_detail_64 (congrArg (fun z => some (Value.int z)) (rt hf).1) (rt hf).2
          · replace hf := ifn h_5 hf
            by_cases h_6 : a1 = 5
            · replace hf := ifp h_6 hf
              refine s_tsw (pc := 1) (off := 64) (tgt := 65) C h_6 dX2_detail_1 (by decide) ?_
              refine s_aloadn (pc := 65) C dX2_detail_65 rfl ?_
              refine s_getI (pc := 66) C fl_X2_43 hq0 rfl dX2_detail_66 ?_
              exact s_iret (pc := 69) C hr hlk dX2_detail_69 (congrArg (fun z => some (Value.int z)) (rt hf).1) (rt hf).2
            · replace hf := ifn h_6 hf
              have ho : (Int32.toInt a1) < 0 ∨ 5 < Int32.toInt a1 := by
                have z0 := lv_neT h_1 (a := 0) (by decide)
                have z1 := lv_neT h_2 (a := 1) (by decide)
                have z2 := lv_neT h_3 (a := 2) (by decide)
                have z3 := lv_neT h_4 (a := 3) (by decide)
                have z4 := lv_neT h_5 (a := 4) (by decide)
                have z5 := lv_neT h_6 (a := 5) (by decide)
                omega
              refine s_tswD (pc := 1) (tgt := 70) C ho dX2_detail_1 (by decide) ?_
              refine s_aloadn (pc := 70) C dX2_detail_70 rfl ?_
              refine s_getI (pc := 71) C fl_X2_46 hq0 rfl dX2_detail_71 ?_
              exact s_iret (pc := 74) C hr hlk dX2_detail_74 (congrArg (fun z => some (Value.int z)) (rt hf).1) (rt hf).2
def f_X2_endAlong (N : Nat) (q0 : Nat) (a1 : Int32) (σ : St) : Option (Int32 × St) :=
  if a1 = 0 then
    some (((σ q0 1) + (σ q0 4)), σ)
  else
    if a1 = 1 then
      some (((σ q0 2) + (σ q0 5)), σ)
    else
      some (((σ q0 3) + (σ q0 6)), σ)
set_option maxRecDepth 100000 in
set_option maxHeartbeats 4000000 in
theorem c_X2_endAlong (l : Launch) (D : va_G) (ca : Nat → ClassId) (ad : Nat → Nat) (N : Nat) (q0 : Nat) (hq0 : SH[q0]? = some oSpot) (a1 : Int32) (σ : St) (r : Int32) (τ : St) (hf : f_X2_endAlong N q0 a1 σ = some (r, τ)) : cM l yX2_endAlong (.code yX2_endAlong cX2_endAlong 2 (some .int)) (rmk 0) D ca ad SH [.ref (ad q0), .int a1] σ (some (.int r)) τ := by
  refine cM.intro2 (own := RX2) (lo := [some (.ref (ad q0)), some (.int a1)]) (by decide) rfl (ccR (ccI cc0)) (Nat.le_of_ble_eq_true rfl) rfl ?_
  intro p e s m args below meth c A C hr hlk
  unfold f_X2_endAlong at hf
  refine s_iloadn (pc := 0) C dX2_endAlong_0 rfl ?_
  by_cases h_1 : a1 = 0
  · replace hf := ifp h_1 hf
    refine s_lsw (pc := 1) (off := 27) (tgt := 28) C (by rw [h_1]; decide) dX2_endAlong_1 (by decide) (by decide) ?_
    refine s_aloadn (pc := 28) C dX2_endAlong_28 rfl ?_
    refine s_getI (pc := 29) C fl_X2_15 hq0 rfl dX2_endAlong_29 ?_
    refine s_aloadn (pc := 32) C dX2_endAlong_32 rfl ?_
    refine s_getI (pc := 33) C fl_X2_31 hq0 rfl dX2_endAlong_33 ?_
    refine s_iadd (pc := 36) C dX2_endAlong_36 ?_
    exact s_iret (pc := 37) C hr hlk dX2_endAlong_37 (congrArg (fun z => some (Value.int z)) (rt hf).1) (rt hf).2
  · replace hf := ifn h_1 hf
    by_cases h_2 : a1 = 1
    · replace hf := ifp h_2 hf
      refine s_lsw (pc := 1) (off := 37) (tgt := 38) C (by rw [h_2]; decide) dX2_endAlong_1 (by decide) (by decide) ?_
      refine s_aloadn (pc := 38) C dX2_endAlong_38 rfl ?_
      refine s_getI (pc := 39) C fl_X2_19 hq0 rfl dX2_endAlong_39 ?_
      refine s_aloadn (pc := 42) C dX2_endAlong_42 rfl ?_
      refine s_getI (pc := 43) C fl_X2_37 hq0 rfl dX2_endAlong_43 ?_
      refine s_iadd (pc := 46) C dX2_endAlong_46 ?_
      exact s_iret (pc := 47) C hr hlk dX2_endAlong_47 (congrArg (fun z => some (Value.int z)) (rt hf).1) (rt hf).2
    · replace hf := ifn h_2 hf
      refine s_lsw (pc := 1) (off := 47) (tgt := 48) C (by show Op.lookupswitch.offset [(0, 27), (1, 37)] _ _ = _; rw [lv_osw h_1 (by decide), lv_osw h_2 (by decide)]; rfl) dX2_endAlong_1 (by decide) (by decide) ?_
      refine s_aloadn (pc := 48) C dX2_endAlong_48 rfl ?_
      refine s_getI (pc := 49) C fl_X2_22 hq0 rfl dX2_endAlong_49 ?_
      refine s_aloadn (pc := 52) C dX2_endAlong_52 rfl ?_
      refine s_getI (pc := 53) C fl_X2_43 hq0 rfl dX2_endAlong_53 ?_
      refine s_iadd (pc := 56) C dX2_endAlong_56 ?_
      exact s_iret (pc := 57) C hr hlk dX2_endAlong_57 (congrArg (fun z => some (Value.int z)) (rt hf).1) (rt hf).2
def f_X2_area (N : Nat) (q0 : Nat) (σ : St) : Option (Int32 × St) :=
  if (σ q0 0 &&& 1) = 0 then
    some (0, σ)
  else
    some (((σ q0 4) * (σ q0 5)), σ)
set_option maxRecDepth 100000 in
set_option maxHeartbeats 4000000 in
theorem c_X2_area (l : Launch) (D : va_G) (ca : Nat → ClassId) (ad : Nat → Nat) (N : Nat) (q0 : Nat) (hq0 : SH[q0]? = some oSpot) (σ : St) (r : Int32) (τ : St) (hf : f_X2_area N q0 σ = some (r, τ)) : cM l yX2_area (.code yX2_area cX2_area 1 (some .int)) (rmk 0) D ca ad SH [.ref (ad q0)] σ (some (.int r)) τ := by
  refine cM.intro2 (own := RX2) (lo := [some (.ref (ad q0))]) (by decide) rfl (ccR cc0) (Nat.le_of_ble_eq_true rfl) rfl ?_
  intro p e s m args below meth c A C hr hlk
  unfold f_X2_area at hf
  refine s_aloadn (pc := 0) C dX2_area_0 rfl ?_
  refine s_getZ (pc := 1) C fl_X2_9 hq0 rfl dX2_area_1 ?_
  refine s_if_eq (pc := 4) (tgt := 19) C dX2_area_4 (by decide) (fun h_1 => ?_) (fun h_1 => ?_)
  · replace hf := ifp h_1 hf
    refine s_iconst (pc := 19) (v := 0) C dX2_area_19 (by decide) ?_
    exact s_iret (pc := 20) C hr hlk dX2_area_20 (congrArg (fun z => some (Value.int z)) (rt hf).1) (rt hf).2
  · replace hf := ifn h_1 hf
    refine s_aloadn (pc := 7) C dX2_area_7 rfl ?_
    refine s_getI (pc := 8) C fl_X2_31 hq0 rfl dX2_area_8 ?_
    refine s_aloadn (pc := 11) C dX2_area_11 rfl ?_
    refine s_getI (pc := 12) C fl_X2_37 hq0 rfl dX2_area_12 ?_
    refine s_imul (pc := 15) C dX2_area_15 ?_
    refine s_goto (pc := 16) (tgt := 20) C dX2_area_16 (by decide) ?_
    exact s_iret (pc := 20) C hr hlk dX2_area_20 (congrArg (fun z => some (Value.int z)) (rt hf).1) (rt hf).2
def f_X2_volume (N : Nat) (q0 : Nat) (σ : St) : Option (Int32 × St) :=
  bn (f_X2_area N q0 σ) fun r_1 τ_1 =>
  some ((r_1 * (τ_1 q0 6)), τ_1)
set_option maxRecDepth 100000 in
set_option maxHeartbeats 4000000 in
theorem c_X2_volume (l : Launch) (D : va_G) (ca : Nat → ClassId) (ad : Nat → Nat) (N : Nat) (q0 : Nat) (hq0 : SH[q0]? = some oSpot) (σ : St) (r : Int32) (τ : St) (hf : f_X2_volume N q0 σ = some (r, τ)) : cM l yX2_volume (.code yX2_volume cX2_volume 1 (some .int)) (rmk 1) D ca ad SH [.ref (ad q0)] σ (some (.int r)) τ := by
  refine cM.intro2 (own := RX2) (lo := [some (.ref (ad q0))]) (by decide) rfl (ccR cc0) (Nat.le_of_ble_eq_true rfl) rfl ?_
  intro p e s m args below meth c A C hr hlk
  unfold f_X2_volume at hf
  refine s_aloadn (pc := 0) C dX2_volume_0 rfl ?_
  obtain ⟨r_1, τ_1, e_1, hf⟩ := bnd hf
  refine s_callV (pc := 1) (rest := []) C rfl (c_X2_area l D ca ad N q0 hq0 σ r_1 τ_1 e_1) kv_X2_57 ⟨rfl, rfl⟩ (by decide) hq0 ⟨_, rfl, rfl⟩ rfl rfl (Nat.le_of_ble_eq_true rfl) dX2_volume_1 ⟨Nat.zero_le _, Nat.zero_le _⟩ ?_
  refine s_st (st' := [.int r_1]) rfl ?_
  refine s_aloadn (pc := 4) C dX2_volume_4 rfl ?_
  refine s_getI (pc := 5) C fl_X2_43 hq0 rfl dX2_volume_5 ?_
  refine s_imul (pc := 8) C dX2_volume_8 ?_
  exact s_iret (pc := 9) C hr hlk dX2_volume_9 (congrArg (fun z => some (Value.int z)) (rt hf).1) (rt hf).2
def f_X2_covers (N : Nat) (q0 : Nat) (a1 : Int32) (a2 : Int32) (a3 : Int32) (σ : St) : Option (Int32 × St) :=
  if a1 < (σ q0 1) then
    some (0, σ)
  else
    if ((σ q0 1) + (σ q0 4)) ≤ a1 then
      some (0, σ)
    else
      if a2 < (σ q0 2) then
        some (0, σ)
      else
        if ((σ q0 2) + (σ q0 5)) ≤ a2 then
          some (0, σ)
        else
          if a3 < (σ q0 3) then
            some (0, σ)
          else
            if ((σ q0 3) + (σ q0 6)) ≤ a3 then
              some (0, σ)
            else
              some (1, σ)
set_option maxRecDepth 100000 in
set_option maxHeartbeats 4000000 in
theorem c_X2_covers (l : Launch) (D : va_G) (ca : Nat → ClassId) (ad : Nat → Nat) (N : Nat) (q0 : Nat) (hq0 : SH[q0]? = some oSpot) (a1 : Int32) (a2 : Int32) (a3 : Int32) (σ : St) (r : Int32) (τ : St) (hf : f_X2_covers N q0 a1 a2 a3 σ = some (r, τ)) : cM l yX2_covers (.code yX2_covers cX2_covers 4 (some .boolean)) (rmk 0) D ca ad SH [.ref (ad q0), .int a1, .int a2, .int a3] σ (some (.int r)) τ := by
  refine cM.intro2 (own := RX2) (lo := [some (.ref (ad q0)), some (.int a1), some (.int a2), some (.int a3)]) (by decide) rfl (ccR (ccI (ccI (ccI cc0)))) (Nat.le_of_ble_eq_true rfl) rfl ?_
  intro p e s m args below meth c A C hr hlk
  unfold f_X2_covers at hf
  refine s_aloadn (pc := 0) C dX2_covers_0 rfl ?_
  refine s_getI (pc := 1) C fl_X2_15 hq0 rfl dX2_covers_1 ?_
  refine s_iloadn (pc := 4) C dX2_covers_4 rfl ?_
  refine s_icmp_gt (pc := 5) (tgt := 67) C dX2_covers_5 (by decide) (fun h_1 => ?_) (fun h_1 => ?_)
  · replace hf := ifp h_1 hf
    refine s_iconst (pc := 67) (v := 0) C dX2_covers_67 (by decide) ?_
    exact s_zret (pc := 68) C hr hlk dX2_covers_68 (by decide) (congrArg (fun z => some (Value.int z)) (rt hf).1) (rt hf).2
  · replace hf := ifn h_1 hf
    refine s_iloadn (pc := 8) C dX2_covers_8 rfl ?_
    refine s_aloadn (pc := 9) C dX2_covers_9 rfl ?_
    refine s_getI (pc := 10) C fl_X2_15 hq0 rfl dX2_covers_10 ?_
    refine s_aloadn (pc := 13) C dX2_covers_13 rfl ?_
    refine s_getI (pc := 14) C fl_X2_31 hq0 rfl dX2_covers_14 ?_
    refine s_iadd (pc := 17) C dX2_covers_17 ?_
    refine s_icmp_ge (pc := 18) (tgt := 67) C dX2_covers_18 (by decide) (fun h_2 => ?_) (fun h_2 => ?_)
    · replace hf := ifp h_2 hf
      refine s_iconst (pc := 67) (v := 0) C dX2_covers_67 (by decide) ?_
      exact s_zret (pc := 68) C hr hlk dX2_covers_68 (by decide) (congrArg (fun z => some (Value.int z)) (rt hf).1) (rt hf).2
    · replace hf := ifn h_2 hf
      refine s_aloadn (pc := 21) C dX2_covers_21 rfl ?_
      refine s_getI (pc := 22) C fl_X2_19 hq0 rfl dX2_covers_22 ?_
      refine s_iloadn (pc := 25) C dX2_covers_25 rfl ?_
      refine s_icmp_gt (pc := 26) (tgt := 67) C dX2_covers_26 (by decide) (fun h_3 => ?_) (fun h_3 => ?_)
      · replace hf := ifp h_3 hf
        refine s_iconst (pc := 67) (v := 0) C dX2_covers_67 (by decide) ?_
        exact s_zret (pc := 68) C hr hlk dX2_covers_68 (by decide) (congrArg (fun z => some (Value.int z)) (rt hf).1) (rt hf).2
      · replace hf := ifn h_3 hf
        refine s_iloadn (pc := 29) C dX2_covers_29 rfl ?_
        refine s_aloadn (pc := 30) C dX2_covers_30 rfl ?_
        refine s_getI (pc := 31) C fl_X2_19 hq0 rfl dX2_covers_31 ?_
        refine s_aloadn (pc := 34) C dX2_covers_34 rfl ?_
        refine s_getI (pc := 35) C fl_X2_37 hq0 rfl dX2_covers_35 ?_
        refine s_iadd (pc := 38) C dX2_covers_38 ?_
        refine s_icmp_ge (pc := 39) (tgt := 67) C dX2_covers_39 (by decide) (fun h_4 => ?_) (fun h_4 => ?_)
        · replace hf := ifp h_4 hf
          refine s_iconst (pc := 67) (v := 0) C dX2_covers_67 (by decide) ?_
          exact s_zret (pc := 68) C hr hlk dX2_covers_68 (by decide) (congrArg (fun z => some (Value.int z)) (rt hf).1) (rt hf).2
        · replace hf := ifn h_4 hf
          refine s_aloadn (pc := 42) C dX2_covers_42 rfl ?_
          refine s_getI (pc := 43) C fl_X2_22 hq0 rfl dX2_covers_43 ?_
          refine s_iloadn (pc := 46) C dX2_covers_46 rfl ?_
          refine s_icmp_gt (pc := 47) (tgt := 67) C dX2_covers_47 (by decide) (fun h_5 => ?_) (fun h_5 => ?_)
          · replace hf := ifp h_5 hf
            refine s_iconst (pc := 67) (v := 0) C dX2_covers_67 (by decide) ?_
            exact s_zret (pc := 68) C hr hlk dX2_covers_68 (by decide) (congrArg (fun z => some (Value.int z)) (rt hf).1) (rt hf).2
          · replace hf := ifn h_5 hf
            refine s_iloadn (pc := 50) C dX2_covers_50 rfl ?_
            refine s_aloadn (pc := 51) C dX2_covers_51 rfl ?_
            refine s_getI (pc := 52) C fl_X2_22 hq0 rfl dX2_covers_52 ?_
            refine s_aloadn (pc := 55) C dX2_covers_55 rfl ?_
            refine s_getI (pc := 56) C fl_X2_43 hq0 rfl dX2_covers_56 ?_
            refine s_iadd (pc := 59) C dX2_covers_59 ?_
            refine s_icmp_ge (pc := 60) (tgt := 67) C dX2_covers_60 (by decide) (fun h_6 => ?_) (fun h_6 => ?_)
            · replace hf := ifp h_6 hf
              refine s_iconst (pc := 67) (v := 0) C dX2_covers_67 (by decide) ?_
              exact s_zret (pc := 68) C hr hlk dX2_covers_68 (by decide) (congrArg (fun z => some (Value.int z)) (rt hf).1) (rt hf).2
            · replace hf := ifn h_6 hf
              refine s_iconst (pc := 63) (v := 1) C dX2_covers_63 (by decide) ?_
              refine s_goto (pc := 64) (tgt := 68) C dX2_covers_64 (by decide) ?_
              exact s_zret (pc := 68) C hr hlk dX2_covers_68 (by decide) (congrArg (fun z => some (Value.int z)) (rt hf).1) (rt hf).2
def f_X2_meetsFromAbove (N : Nat) (q0 : Nat) (q1 : Nat) (σ : St) : Option (Int32 × St) :=
  if ((σ q1 1) + (σ q1 4)) ≤ (σ q0 1) then
    some (0, σ)
  else
    if ((σ q0 1) + (σ q0 4)) ≤ (σ q1 1) then
      some (0, σ)
    else
      if ((σ q1 2) + (σ q1 5)) ≤ (σ q0 2) then
        some (0, σ)
      else
        if ((σ q0 2) + (σ q0 5)) ≤ (σ q1 2) then
          some (0, σ)
        else
          some (1, σ)
set_option maxRecDepth 100000 in
set_option maxHeartbeats 4000000 in
theorem c_X2_meetsFromAbove (l : Launch) (D : va_G) (ca : Nat → ClassId) (ad : Nat → Nat) (N : Nat) (q0 : Nat) (hq0 : SH[q0]? = some oSpot) (q1 : Nat) (hq1 : SH[q1]? = some oSpot) (σ : St) (r : Int32) (τ : St) (hf : f_X2_meetsFromAbove N q0 q1 σ = some (r, τ)) : cM l yX2_meetsFromAbove (.code yX2_meetsFromAbove cX2_meetsFromAbove 2 (some .boolean)) (rmk 0) D ca ad SH [.ref (ad q0), .ref (ad q1)] σ (some (.int r)) τ := by
  refine cM.intro2 (own := RX2) (lo := [some (.ref (ad q0)), some (.ref (ad q1))]) (by decide) rfl (ccR (ccR cc0)) (Nat.le_of_ble_eq_true rfl) rfl ?_
  intro p e s m args below meth c A C hr hlk
  unfold f_X2_meetsFromAbove at hf
  refine s_aloadn (pc := 0) C dX2_meetsFromAbove_0 rfl ?_
  refine s_getI (pc := 1) C fl_X2_15 hq0 rfl dX2_meetsFromAbove_1 ?_
  refine s_aloadn (pc := 4) C dX2_meetsFromAbove_4 rfl ?_
  refine s_getI (pc := 5) C fl_X2_15 hq1 rfl dX2_meetsFromAbove_5 ?_
  refine s_aloadn (pc := 8) C dX2_meetsFromAbove_8 rfl ?_
  refine s_getI (pc := 9) C fl_X2_31 hq1 rfl dX2_meetsFromAbove_9 ?_
  refine s_iadd (pc := 12) C dX2_meetsFromAbove_12 ?_
  refine s_icmp_ge (pc := 13) (tgt := 68) C dX2_meetsFromAbove_13 (by decide) (fun h_1 => ?_) (fun h_1 => ?_)
  · replace hf := ifp h_1 hf
    refine s_iconst (pc := 68) (v := 0) C dX2_meetsFromAbove_68 (by decide) ?_
    exact s_zret (pc := 69) C hr hlk dX2_meetsFromAbove_69 (by decide) (congrArg (fun z => some (Value.int z)) (rt hf).1) (rt hf).2
  · replace hf := ifn h_1 hf
    refine s_aloadn (pc := 16) C dX2_meetsFromAbove_16 rfl ?_
    refine s_getI (pc := 17) C fl_X2_15 hq1 rfl dX2_meetsFromAbove_17 ?_
    refine s_aloadn (pc := 20) C dX2_meetsFromAbove_20 rfl ?_
    refine s_getI (pc := 21) C fl_X2_15 hq0 rfl dX2_meetsFromAbove_21 ?_
    refine s_aloadn (pc := 24) C dX2_meetsFromAbove_24 rfl ?_
    refine s_getI (pc := 25) C fl_X2_31 hq0 rfl dX2_meetsFromAbove_25 ?_
    refine s_iadd (pc := 28) C dX2_meetsFromAbove_28 ?_
    refine s_icmp_ge (pc := 29) (tgt := 68) C dX2_meetsFromAbove_29 (by decide) (fun h_2 => ?_) (fun h_2 => ?_)
    · replace hf := ifp h_2 hf
      refine s_iconst (pc := 68) (v := 0) C dX2_meetsFromAbove_68 (by decide) ?_
      exact s_zret (pc := 69) C hr hlk dX2_meetsFromAbove_69 (by decide) (congrArg (fun z => some (Value.int z)) (rt hf).1) (rt hf).2
    · replace hf := ifn h_2 hf
      refine s_aloadn (pc := 32) C dX2_meetsFromAbove_32 rfl ?_
      refine s_getI (pc := 33) C fl_X2_19 hq0 rfl dX2_meetsFromAbove_33 ?_
      refine s_aloadn (pc := 36) C dX2_meetsFromAbove_36 rfl ?_
      refine s_getI (pc := 37) C fl_X2_19 hq1 rfl dX2_meetsFromAbove_37 ?_
      refine s_aloadn (pc := 40) C dX2_meetsFromAbove_40 rfl ?_
      refine s_getI (pc := 41) C fl_X2_37 hq1 rfl dX2_meetsFromAbove_41 ?_
      refine s_iadd (pc := 44) C dX2_meetsFromAbove_44 ?_
      refine s_icmp_ge (pc := 45) (tgt := 68) C dX2_meetsFromAbove_45 (by decide) (fun h_3 => ?_) (fun h_3 => ?_)
      · replace hf := ifp h_3 hf
        refine s_iconst (pc := 68) (v := 0) C dX2_meetsFromAbove_68 (by decide) ?_
        exact s_zret (pc := 69) C hr hlk dX2_meetsFromAbove_69 (by decide) (congrArg (fun z => some (Value.int z)) (rt hf).1) (rt hf).2
      · replace hf := ifn h_3 hf
        refine s_aloadn (pc := 48) C dX2_meetsFromAbove_48 rfl ?_
        refine s_getI (pc := 49) C fl_X2_19 hq1 rfl dX2_meetsFromAbove_49 ?_
        refine s_aloadn (pc := 52) C dX2_meetsFromAbove_52 rfl ?_
        refine s_getI (pc := 53) C fl_X2_19 hq0 rfl dX2_meetsFromAbove_53 ?_
        refine s_aloadn (pc := 56) C dX2_meetsFromAbove_56 rfl ?_
        refine s_getI (pc := 57) C fl_X2_37 hq0 rfl dX2_meetsFromAbove_57 ?_
        refine s_iadd (pc := 60) C dX2_meetsFromAbove_60 ?_
        refine s_icmp_ge (pc := 61) (tgt := 68) C dX2_meetsFromAbove_61 (by decide) (fun h_4 => ?_) (fun h_4 => ?_)
        · replace hf := ifp h_4 hf
          refine s_iconst (pc := 68) (v := 0) C dX2_meetsFromAbove_68 (by decide) ?_
          exact s_zret (pc := 69) C hr hlk dX2_meetsFromAbove_69 (by decide) (congrArg (fun z => some (Value.int z)) (rt hf).1) (rt hf).2
        · replace hf := ifn h_4 hf
          refine s_iconst (pc := 64) (v := 1) C dX2_meetsFromAbove_64 (by decide) ?_
          refine s_goto (pc := 65) (tgt := 69) C dX2_meetsFromAbove_65 (by decide) ?_
          exact s_zret (pc := 69) C hr hlk dX2_meetsFromAbove_69 (by decide) (congrArg (fun z => some (Value.int z)) (rt hf).1) (rt hf).2
def f_X2_meets (N : Nat) (q0 : Nat) (q1 : Nat) (σ : St) : Option (Int32 × St) :=
  bn (f_X2_meetsFromAbove N q0 q1 σ) fun r_1 τ_1 =>
  if r_1 = 0 then
    some (0, τ_1)
  else
    if ((τ_1 q1 3) + (τ_1 q1 6)) ≤ (τ_1 q0 3) then
      some (0, τ_1)
    else
      if ((τ_1 q0 3) + (τ_1 q0 6)) ≤ (τ_1 q1 3) then
        some (0, τ_1)
      else
        some (1, τ_1)
set_option maxRecDepth 100000 in
set_option maxHeartbeats 4000000 in
theorem c_X2_meets (l : Launch) (D : va_G) (ca : Nat → ClassId) (ad : Nat → Nat) (N : Nat) (q0 : Nat) (hq0 : SH[q0]? = some oSpot) (q1 : Nat) (hq1 : SH[q1]? = some oSpot) (σ : St) (r : Int32) (τ : St) (hf : f_X2_meets N q0 q1 σ = some (r, τ)) : cM l yX2_meets (.code yX2_meets cX2_meets 2 (some .boolean)) (rmk 1) D ca ad SH [.ref (ad q0), .ref (ad q1)] σ (some (.int r)) τ := by
  refine cM.intro2 (own := RX2) (lo := [some (.ref (ad q0)), some (.ref (ad q1))]) (by decide) rfl (ccR (ccR cc0)) (Nat.le_of_ble_eq_true rfl) rfl ?_
  intro p e s m args below meth c A C hr hlk
  unfold f_X2_meets at hf
  refine s_aloadn (pc := 0) C dX2_meets_0 rfl ?_
  refine s_aloadn (pc := 1) C dX2_meets_1 rfl ?_
  obtain ⟨r_1, τ_1, e_1, hf⟩ := bnd hf
  refine s_callV (pc := 2) (rest := []) C rfl (c_X2_meetsFromAbove l D ca ad N q0 hq0 q1 hq1 σ r_1 τ_1 e_1) kv_X2_61 ⟨rfl, rfl⟩ (by decide) hq0 ⟨_, rfl, rfl⟩ rfl rfl (Nat.le_of_ble_eq_true rfl) dX2_meets_2 ⟨Nat.zero_le _, Nat.zero_le _⟩ ?_
  refine s_st (st' := [.int r_1]) rfl ?_
  refine s_if_eq (pc := 5) (tgt := 44) C dX2_meets_5 (by decide) (fun h_1 => ?_) (fun h_1 => ?_)
  · replace hf := ifp h_1 hf
    refine s_iconst (pc := 44) (v := 0) C dX2_meets_44 (by decide) ?_
    exact s_zret (pc := 45) C hr hlk dX2_meets_45 (by decide) (congrArg (fun z => some (Value.int z)) (rt hf).1) (rt hf).2
  · replace hf := ifn h_1 hf
    refine s_aloadn (pc := 8) C dX2_meets_8 rfl ?_
    refine s_getI (pc := 9) C fl_X2_22 hq0 rfl dX2_meets_9 ?_
    refine s_aloadn (pc := 12) C dX2_meets_12 rfl ?_
    refine s_getI (pc := 13) C fl_X2_22 hq1 rfl dX2_meets_13 ?_
    refine s_aloadn (pc := 16) C dX2_meets_16 rfl ?_
    refine s_getI (pc := 17) C fl_X2_43 hq1 rfl dX2_meets_17 ?_
    refine s_iadd (pc := 20) C dX2_meets_20 ?_
    refine s_icmp_ge (pc := 21) (tgt := 44) C dX2_meets_21 (by decide) (fun h_2 => ?_) (fun h_2 => ?_)
    · replace hf := ifp h_2 hf
      refine s_iconst (pc := 44) (v := 0) C dX2_meets_44 (by decide) ?_
      exact s_zret (pc := 45) C hr hlk dX2_meets_45 (by decide) (congrArg (fun z => some (Value.int z)) (rt hf).1) (rt hf).2
    · replace hf := ifn h_2 hf
      refine s_aloadn (pc := 24) C dX2_meets_24 rfl ?_
      refine s_getI (pc := 25) C fl_X2_22 hq1 rfl dX2_meets_25 ?_
      refine s_aloadn (pc := 28) C dX2_meets_28 rfl ?_
      refine s_getI (pc := 29) C fl_X2_22 hq0 rfl dX2_meets_29 ?_
      refine s_aloadn (pc := 32) C dX2_meets_32 rfl ?_
      refine s_getI (pc := 33) C fl_X2_43 hq0 rfl dX2_meets_33 ?_
      refine s_iadd (pc := 36) C dX2_meets_36 ?_
      refine s_icmp_ge (pc := 37) (tgt := 44) C dX2_meets_37 (by decide) (fun h_3 => ?_) (fun h_3 => ?_)
      · replace hf := ifp h_3 hf
        refine s_iconst (pc := 44) (v := 0) C dX2_meets_44 (by decide) ?_
        exact s_zret (pc := 45) C hr hlk dX2_meets_45 (by decide) (congrArg (fun z => some (Value.int z)) (rt hf).1) (rt hf).2
      · replace hf := ifn h_3 hf
        refine s_iconst (pc := 40) (v := 1) C dX2_meets_40 (by decide) ?_
        refine s_goto (pc := 41) (tgt := 45) C dX2_meets_41 (by decide) ?_
        exact s_zret (pc := 45) C hr hlk dX2_meets_45 (by decide) (congrArg (fun z => some (Value.int z)) (rt hf).1) (rt hf).2
def f_X2_standsOn (N : Nat) (q0 : Nat) (q1 : Nat) (σ : St) : Option (Int32 × St) :=
  if (σ q0 3) = ((σ q1 3) + (σ q1 6)) then
    bn (f_X2_meetsFromAbove N q0 q1 σ) fun r_1 τ_1 =>
    if r_1 = 0 then
      some (0, τ_1)
    else
      some (1, τ_1)
  else
    some (0, σ)
set_option maxRecDepth 100000 in
set_option maxHeartbeats 4000000 in
theorem c_X2_standsOn (l : Launch) (D : va_G) (ca : Nat → ClassId) (ad : Nat → Nat) (N : Nat) (q0 : Nat) (hq0 : SH[q0]? = some oSpot) (q1 : Nat) (hq1 : SH[q1]? = some oSpot) (σ : St) (r : Int32) (τ : St) (hf : f_X2_standsOn N q0 q1 σ = some (r, τ)) : cM l yX2_standsOn (.code yX2_standsOn cX2_standsOn 2 (some .boolean)) (rmk 1) D ca ad SH [.ref (ad q0), .ref (ad q1)] σ (some (.int r)) τ := by
  refine cM.intro2 (own := RX2) (lo := [some (.ref (ad q0)), some (.ref (ad q1))]) (by decide) rfl (ccR (ccR cc0)) (Nat.le_of_ble_eq_true rfl) rfl ?_
  intro p e s m args below meth c A C hr hlk
  unfold f_X2_standsOn at hf
  refine s_aloadn (pc := 0) C dX2_standsOn_0 rfl ?_
  refine s_getI (pc := 1) C fl_X2_22 hq0 rfl dX2_standsOn_1 ?_
  refine s_aloadn (pc := 4) C dX2_standsOn_4 rfl ?_
  refine s_getI (pc := 5) C fl_X2_22 hq1 rfl dX2_standsOn_5 ?_
  refine s_aloadn (pc := 8) C dX2_standsOn_8 rfl ?_
  refine s_getI (pc := 9) C fl_X2_43 hq1 rfl dX2_standsOn_9 ?_
  refine s_iadd (pc := 12) C dX2_standsOn_12 ?_
  refine s_icmp_ne (pc := 13) (tgt := 28) C dX2_standsOn_13 (by decide) (fun h_1 => ?_) (fun h_1 => ?_)
  · replace hf := ifn h_1 hf
    refine s_iconst (pc := 28) (v := 0) C dX2_standsOn_28 (by decide) ?_
    exact s_zret (pc := 29) C hr hlk dX2_standsOn_29 (by decide) (congrArg (fun z => some (Value.int z)) (rt hf).1) (rt hf).2
  · replace hf := ifp h_1 hf
    refine s_aloadn (pc := 16) C dX2_standsOn_16 rfl ?_
    refine s_aloadn (pc := 17) C dX2_standsOn_17 rfl ?_
    obtain ⟨r_1, τ_1, e_1, hf⟩ := bnd hf
    refine s_callV (pc := 18) (rest := []) C rfl (c_X2_meetsFromAbove l D ca ad N q0 hq0 q1 hq1 σ r_1 τ_1 e_1) kv_X2_61 ⟨rfl, rfl⟩ (by decide) hq0 ⟨_, rfl, rfl⟩ rfl rfl (Nat.le_of_ble_eq_true rfl) dX2_standsOn_18 ⟨Nat.zero_le _, Nat.zero_le _⟩ ?_
    refine s_st (st' := [.int r_1]) rfl ?_
    refine s_if_eq (pc := 21) (tgt := 28) C dX2_standsOn_21 (by decide) (fun h_2 => ?_) (fun h_2 => ?_)
    · replace hf := ifp h_2 hf
      refine s_iconst (pc := 28) (v := 0) C dX2_standsOn_28 (by decide) ?_
      exact s_zret (pc := 29) C hr hlk dX2_standsOn_29 (by decide) (congrArg (fun z => some (Value.int z)) (rt hf).1) (rt hf).2
    · replace hf := ifn h_2 hf
      refine s_iconst (pc := 24) (v := 1) C dX2_standsOn_24 (by decide) ?_
      refine s_goto (pc := 25) (tgt := 29) C dX2_standsOn_25 (by decide) ?_
      exact s_zret (pc := 29) C hr hlk dX2_standsOn_29 (by decide) (congrArg (fun z => some (Value.int z)) (rt hf).1) (rt hf).2
def f_X2_commonArea (N : Nat) (q0 : Nat) (q1 : Nat) (σ : St) : Option (Int32 × St) :=
  some ((((mmin ((σ q0 1) + (σ q0 4)) ((σ q1 1) + (σ q1 4))) - (mmax (σ q0 1) (σ q1 1))) * ((mmin ((σ q0 2) + (σ q0 5)) ((σ q1 2) + (σ q1 5))) - (mmax (σ q0 2) (σ q1 2)))), σ)
set_option maxRecDepth 100000 in
set_option maxHeartbeats 4000000 in
theorem c_X2_commonArea (l : Launch) (D : va_G) (ca : Nat → ClassId) (ad : Nat → Nat) (N : Nat) (q0 : Nat) (hq0 : SH[q0]? = some oSpot) (q1 : Nat) (hq1 : SH[q1]? = some oSpot) (σ : St) (r : Int32) (τ : St) (hf : f_X2_commonArea N q0 q1 σ = some (r, τ)) : cM l yX2_commonArea (.code yX2_commonArea cX2_commonArea 4 (some .int)) (rmk 1) D ca ad SH [.ref (ad q0), .ref (ad q1)] σ (some (.int r)) τ := by
  refine cM.intro2 (own := RX2) (lo := [some (.ref (ad q0)), some (.ref (ad q1)), none, none]) (by decide) rfl (ccR (ccR cc0)) (Nat.le_of_ble_eq_true rfl) rfl ?_
  intro p e s m args below meth c A C hr hlk
  unfold f_X2_commonArea at hf
  refine s_aloadn (pc := 0) C dX2_commonArea_0 rfl ?_
  refine s_getI (pc := 1) C fl_X2_15 hq0 rfl dX2_commonArea_1 ?_
  refine s_aloadn (pc := 4) C dX2_commonArea_4 rfl ?_
  refine s_getI (pc := 5) C fl_X2_31 hq0 rfl dX2_commonArea_5 ?_
  refine s_iadd (pc := 8) C dX2_commonArea_8 ?_
  refine s_aloadn (pc := 9) C dX2_commonArea_9 rfl ?_
  refine s_getI (pc := 10) C fl_X2_15 hq1 rfl dX2_commonArea_10 ?_
  refine s_aloadn (pc := 13) C dX2_commonArea_13 rfl ?_
  refine s_getI (pc := 14) C fl_X2_31 hq1 rfl dX2_commonArea_14 ?_
  refine s_iadd (pc := 17) C dX2_commonArea_17 ?_
  refine s_mmin (pc := 18) C rfl hk_X2_65 ⟨by decide, Nat.le_of_ble_eq_true rfl⟩ ⟨Nat.zero_le _, Nat.zero_le _⟩ hm_min dX2_commonArea_18 ?_
  refine s_aloadn (pc := 21) C dX2_commonArea_21 rfl ?_
  refine s_getI (pc := 22) C fl_X2_15 hq0 rfl dX2_commonArea_22 ?_
  refine s_aloadn (pc := 25) C dX2_commonArea_25 rfl ?_
  refine s_getI (pc := 26) C fl_X2_15 hq1 rfl dX2_commonArea_26 ?_
  refine s_mmax (pc := 29) C rfl hk_X2_71 ⟨by decide, Nat.le_of_ble_eq_true rfl⟩ ⟨Nat.zero_le _, Nat.zero_le _⟩ hm_max dX2_commonArea_29 ?_
  refine s_isub (pc := 32) C dX2_commonArea_32 ?_
  refine s_istoren (pc := 33) (lo' := [some (.ref (ad q0)), some (.ref (ad q1)), some (.int ((mmin ((σ q0 1) + (σ q0 4)) ((σ q1 1) + (σ q1 4))) - (mmax (σ q0 1) (σ q1 1)))), none]) C dX2_commonArea_33 (Nat.le_of_ble_eq_true rfl) rfl ?_
  refine s_aloadn (pc := 34) C dX2_commonArea_34 rfl ?_
  refine s_getI (pc := 35) C fl_X2_19 hq0 rfl dX2_commonArea_35 ?_
  refine s_aloadn (pc := 38) C dX2_commonArea_38 rfl ?_
  refine s_getI (pc := 39) C fl_X2_37 hq0 rfl dX2_commonArea_39 ?_
  refine s_iadd (pc := 42) C dX2_commonArea_42 ?_
  refine s_aloadn (pc := 43) C dX2_commonArea_43 rfl ?_
  refine s_getI (pc := 44) C fl_X2_19 hq1 rfl dX2_commonArea_44 ?_
  refine s_aloadn (pc := 47) C dX2_commonArea_47 rfl ?_
  refine s_getI (pc := 48) C fl_X2_37 hq1 rfl dX2_commonArea_48 ?_
  refine s_iadd (pc := 51) C dX2_commonArea_51 ?_
  refine s_mmin (pc := 52) C rfl hk_X2_65 ⟨by decide, Nat.le_of_ble_eq_true rfl⟩ ⟨Nat.zero_le _, Nat.zero_le _⟩ hm_min dX2_commonArea_52 ?_
  refine s_aloadn (pc := 55) C dX2_commonArea_55 rfl ?_
  refine s_getI (pc := 56) C fl_X2_19 hq0 rfl dX2_commonArea_56 ?_
  refine s_aloadn (pc := 59) C dX2_commonArea_59 rfl ?_
  refine s_getI (pc := 60) C fl_X2_19 hq1 rfl dX2_commonArea_60 ?_
  refine s_mmax (pc := 63) C rfl hk_X2_71 ⟨by decide, Nat.le_of_ble_eq_true rfl⟩ ⟨Nat.zero_le _, Nat.zero_le _⟩ hm_max dX2_commonArea_63 ?_
  refine s_isub (pc := 66) C dX2_commonArea_66 ?_
  refine s_istoren (pc := 67) (lo' := [some (.ref (ad q0)), some (.ref (ad q1)), some (.int ((mmin ((σ q0 1) + (σ q0 4)) ((σ q1 1) + (σ q1 4))) - (mmax (σ q0 1) (σ q1 1)))), some (.int ((mmin ((σ q0 2) + (σ q0 5)) ((σ q1 2) + (σ q1 5))) - (mmax (σ q0 2) (σ q1 2))))]) C dX2_commonArea_67 (Nat.le_of_ble_eq_true rfl) rfl ?_
  refine s_iloadn (pc := 68) C dX2_commonArea_68 rfl ?_
  refine s_iloadn (pc := 69) C dX2_commonArea_69 rfl ?_
  refine s_imul (pc := 70) C dX2_commonArea_70 ?_
  exact s_iret (pc := 71) C hr hlk dX2_commonArea_71 (congrArg (fun z => some (Value.int z)) (rt hf).1) (rt hf).2
end
section
def lp_X1_clear_2 (N : Nat) (b0 : Nat) : Nat → Int32 → St → Option (St)
  | 0, _, _ => none
  | n + 1, v1, σ =>
    if 6 ≤ v1 then
      some σ
    else
      if inb v1 6 = true then
      bv (f_X2_leave N (13 + 6 * b0 + ix v1) σ) fun τ_1 =>
      lp_X1_clear_2 N b0  n (v1 + 1) τ_1
      else none
set_option maxRecDepth 100000 in
set_option maxHeartbeats 4000000 in
theorem w_X1_clear_2 {l : Launch} {D : va_G} {ca : Nat → ClassId} {ad : Nat → Nat} {p : Program} {e : Env} {s : State} {m : MethodId} {args : Array Value} {below : List Frame} {meth : Method} {c : Code} {A : Nat → Prop} (C : CX p s m args c D ca A RX1 cX1_clear 2) (hr : meth.sig.returnType = none) (hlk : meth.locks = false) (N : Nat) (b0 : Nat) (hb0 : b0 < 2) (τ : St)  : ∀ (n : Nat) (v1 : Int32) (σ : St), lp_X1_clear_2 N b0  n v1 σ = some τ → WW p l e (rmk 1) s m args below meth c 0 0 (EQ D ca ad SH A below args s none τ) A D ca ad SH 2 [some (.ref (ad (2 + b0))), some (.int v1)] [] σ := by
  intro n
  induction n with
  | zero => intro v1 σ hf; cases hf
  | succ n ih =>
    intro v1 σ hf
    rw [lp_X1_clear_2] at hf
    refine s_iloadn (pc := 2) C dX1_clear_2 rfl ?_
    refine s_aloadn (pc := 3) C dX1_clear_3 rfl ?_
    refine s_getR (pc := 4) (r := (11 + b0)) C fl_X1_23 (SH_plan hb0) rfl dX1_clear_4 ?_
    refine s_alenI (pc := 7) (v := 6) C (SH_spots hb0) (ty2 ca) (by decide) dX1_clear_7 ?_
    refine s_icmp_ge (pc := 8) (tgt := 26) C dX1_clear_8 (by decide) (fun h_1 => ?_) (fun h_1 => ?_)
    · replace hf := ifp h_1 hf
      exact s_vret (pc := 26) C hr hlk dX1_clear_26 rfl (rtv hf)
    · replace hf := ifn h_1 hf
      refine s_aloadn (pc := 11) C dX1_clear_11 rfl ?_
      refine s_getR (pc := 12) (r := (11 + b0)) C fl_X1_23 (SH_plan hb0) rfl dX1_clear_12 ?_
      refine s_iloadn (pc := 15) C dX1_clear_15 rfl ?_
      obtain ⟨g_1, hf⟩ := gd hf
      refine s_aald (pc := 16) C (SH_spots hb0) (ty2 ca) g_1 dX1_clear_16 ?_
      obtain ⟨τ_1, e_1, hf⟩ := bvd hf
      refine s_callV (pc := 17) (rest := []) C rfl (c_X2_leave l D ca ad N (13 + 6 * b0 + ix v1) (SH_spot hb0 (inb_lt g_1)) σ τ_1 e_1) kv_X1_28 ⟨rfl, rfl⟩ (by decide) (SH_spot hb0 (inb_lt g_1)) ⟨_, rfl, rfl⟩ rfl rfl (Nat.le_of_ble_eq_true rfl) dX1_clear_17 ⟨Nat.zero_le _, Nat.zero_le _⟩ ?_
      refine s_st (st' := []) rfl ?_
      refine s_iinc (pc := 20) (v := (v1 + 1)) (lo' := [some (.ref (ad (2 + b0))), some (.int (v1 + 1))]) C dX1_clear_20 rfl rfl rfl ?_
      refine s_goto (pc := 23) (tgt := 2) C dX1_clear_23 (by decide) ?_
      refine s_few (lo' := [some (.ref (ad (2 + b0))), some (.int (v1 + 1))]) (lfS (lfS lf0)) ?_
      exact ih (v1 + 1) τ_1 hf
def f_X1_clear (N : Nat) (b0 : Nat) (σ : St) : Option (St) :=
  lp_X1_clear_2 N b0 N 0 σ
set_option maxRecDepth 100000 in
set_option maxHeartbeats 4000000 in
theorem c_X1_clear (l : Launch) (D : va_G) (ca : Nat → ClassId) (ad : Nat → Nat) (N : Nat) (b0 : Nat) (hb0 : b0 < 2) (σ : St) (τ : St) (hf : f_X1_clear N b0 σ = some τ) : cM l yX1_clear (.code yX1_clear cX1_clear 2 none) (rmk 1) D ca ad SH [.ref (ad (2 + b0))] σ none τ := by
  refine cM.intro2 (own := RX1) (lo := [some (.ref (ad (2 + b0))), none]) (by decide) rfl (ccR cc0) (Nat.le_of_ble_eq_true rfl) rfl ?_
  intro p e s m args below meth c A C hr hlk
  unfold f_X1_clear at hf
  refine s_iconst (pc := 0) (v := 0) C dX1_clear_0 (by decide) ?_
  refine s_istoren (pc := 1) (lo' := [some (.ref (ad (2 + b0))), some (.int 0)]) C dX1_clear_1 (Nat.le_of_ble_eq_true rfl) rfl ?_
  refine s_few (lo' := [some (.ref (ad (2 + b0))), some (.int 0)]) (lfS (lfS lf0)) ?_
  exact w_X1_clear_2 C hr hlk N b0 hb0 τ  N 0 σ hf
def lp_X1_copyFrom_2 (N : Nat) (b0 : Nat) (b1 : Nat) : Nat → Int32 → St → Option (St)
  | 0, _, _ => none
  | n + 1, v2, σ =>
    if 6 ≤ v2 then
      some σ
    else
      if 6 ≤ v2 then
        some σ
      else
        if inb v2 6 = true then
        if inb v2 6 = true then
        bv (f_X2_copyFrom N (13 + 6 * b0 + ix v2) (13 + 6 * b1 + ix v2) σ) fun τ_1 =>
        lp_X1_copyFrom_2 N b0 b1  n (v2 + 1) τ_1
        else none
        else none
set_option maxRecDepth 100000 in
set_option maxHeartbeats 4000000 in
theorem w_X1_copyFrom_2 {l : Launch} {D : va_G} {ca : Nat → ClassId} {ad : Nat → Nat} {p : Program} {e : Env} {s : State} {m : MethodId} {args : Array Value} {below : List Frame} {meth : Method} {c : Code} {A : Nat → Prop} (C : CX p s m args c D ca A RX1 cX1_copyFrom 3) (hr : meth.sig.returnType = none) (hlk : meth.locks = false) (N : Nat) (b0 : Nat) (hb0 : b0 < 2) (b1 : Nat) (hb1 : b1 < 2) (τ : St)  : ∀ (n : Nat) (v2 : Int32) (σ : St), lp_X1_copyFrom_2 N b0 b1  n v2 σ = some τ → WW p l e (rmk 1) s m args below meth c 0 0 (EQ D ca ad SH A below args s none τ) A D ca ad SH 2 [some (.ref (ad (2 + b0))), some (.ref (ad (2 + b1))), some (.int v2)] [] σ := by
  intro n
  induction n with
  | zero => intro v2 σ hf; cases hf
  | succ n ih =>
    intro v2 σ hf
    rw [lp_X1_copyFrom_2] at hf
    refine s_iloadn (pc := 2) C dX1_copyFrom_2 rfl ?_
    refine s_aloadn (pc := 3) C dX1_copyFrom_3 rfl ?_
    refine s_getR (pc := 4) (r := (11 + b0)) C fl_X1_23 (SH_plan hb0) rfl dX1_copyFrom_4 ?_
    refine s_alenI (pc := 7) (v := 6) C (SH_spots hb0) (ty2 ca) (by decide) dX1_copyFrom_7 ?_
    refine s_icmp_ge (pc := 8) (tgt := 41) C dX1_copyFrom_8 (by decide) (fun h_1 => ?_) (fun h_1 => ?_)
    · replace hf := ifp h_1 hf
      exact s_vret (pc := 41) C hr hlk dX1_copyFrom_41 rfl (rtv hf)
    · replace hf := ifn h_1 hf
      refine s_iloadn (pc := 11) C dX1_copyFrom_11 rfl ?_
      refine s_aloadn (pc := 12) C dX1_copyFrom_12 rfl ?_
      refine s_getR (pc := 13) (r := (11 + b1)) C fl_X1_23 (SH_plan hb1) rfl dX1_copyFrom_13 ?_
      refine s_alenI (pc := 16) (v := 6) C (SH_spots hb1) (ty2 ca) (by decide) dX1_copyFrom_16 ?_
      refine s_icmp_ge (pc := 17) (tgt := 41) C dX1_copyFrom_17 (by decide) (fun h_2 => ?_) (fun h_2 => ?_)
      · replace hf := ifp h_2 hf
        exact s_vret (pc := 41) C hr hlk dX1_copyFrom_41 rfl (rtv hf)
      · replace hf := ifn h_2 hf
        refine s_aloadn (pc := 20) C dX1_copyFrom_20 rfl ?_
        refine s_getR (pc := 21) (r := (11 + b0)) C fl_X1_23 (SH_plan hb0) rfl dX1_copyFrom_21 ?_
        refine s_iloadn (pc := 24) C dX1_copyFrom_24 rfl ?_
        obtain ⟨g_1, hf⟩ := gd hf
        refine s_aald (pc := 25) C (SH_spots hb0) (ty2 ca) g_1 dX1_copyFrom_25 ?_
        refine s_aloadn (pc := 26) C dX1_copyFrom_26 rfl ?_
        refine s_getR (pc := 27) (r := (11 + b1)) C fl_X1_23 (SH_plan hb1) rfl dX1_copyFrom_27 ?_
        refine s_iloadn (pc := 30) C dX1_copyFrom_30 rfl ?_
        obtain ⟨g_2, hf⟩ := gd hf
        refine s_aald (pc := 31) C (SH_spots hb1) (ty2 ca) g_2 dX1_copyFrom_31 ?_
        obtain ⟨τ_1, e_1, hf⟩ := bvd hf
        refine s_callV (pc := 32) (rest := []) C rfl (c_X2_copyFrom l D ca ad N (13 + 6 * b0 + ix v2) (SH_spot hb0 (inb_lt g_1)) (13 + 6 * b1 + ix v2) (SH_spot hb1 (inb_lt g_2)) σ τ_1 e_1) kv_X1_31 ⟨rfl, rfl⟩ (by decide) (SH_spot hb0 (inb_lt g_1)) ⟨_, rfl, rfl⟩ rfl rfl (Nat.le_of_ble_eq_true rfl) dX1_copyFrom_32 ⟨Nat.zero_le _, Nat.zero_le _⟩ ?_
        refine s_st (st' := []) rfl ?_
        refine s_iinc (pc := 35) (v := (v2 + 1)) (lo' := [some (.ref (ad (2 + b0))), some (.ref (ad (2 + b1))), some (.int (v2 + 1))]) C dX1_copyFrom_35 rfl rfl rfl ?_
        refine s_goto (pc := 38) (tgt := 2) C dX1_copyFrom_38 (by decide) ?_
        refine s_few (lo' := [some (.ref (ad (2 + b0))), some (.ref (ad (2 + b1))), some (.int (v2 + 1))]) (lfS (lfS (lfS lf0))) ?_
        exact ih (v2 + 1) τ_1 hf
def f_X1_copyFrom (N : Nat) (b0 : Nat) (b1 : Nat) (σ : St) : Option (St) :=
  lp_X1_copyFrom_2 N b0 b1 N 0 σ
set_option maxRecDepth 100000 in
set_option maxHeartbeats 4000000 in
theorem c_X1_copyFrom (l : Launch) (D : va_G) (ca : Nat → ClassId) (ad : Nat → Nat) (N : Nat) (b0 : Nat) (hb0 : b0 < 2) (b1 : Nat) (hb1 : b1 < 2) (σ : St) (τ : St) (hf : f_X1_copyFrom N b0 b1 σ = some τ) : cM l yX1_copyFrom (.code yX1_copyFrom cX1_copyFrom 3 none) (rmk 1) D ca ad SH [.ref (ad (2 + b0)), .ref (ad (2 + b1))] σ none τ := by
  refine cM.intro2 (own := RX1) (lo := [some (.ref (ad (2 + b0))), some (.ref (ad (2 + b1))), none]) (by decide) rfl (ccR (ccR cc0)) (Nat.le_of_ble_eq_true rfl) rfl ?_
  intro p e s m args below meth c A C hr hlk
  unfold f_X1_copyFrom at hf
  refine s_iconst (pc := 0) (v := 0) C dX1_copyFrom_0 (by decide) ?_
  refine s_istoren (pc := 1) (lo' := [some (.ref (ad (2 + b0))), some (.ref (ad (2 + b1))), some (.int 0)]) C dX1_copyFrom_1 (Nat.le_of_ble_eq_true rfl) rfl ?_
  refine s_few (lo' := [some (.ref (ad (2 + b0))), some (.ref (ad (2 + b1))), some (.int 0)]) (lfS (lfS (lfS lf0))) ?_
  exact w_X1_copyFrom_2 C hr hlk N b0 hb0 b1 hb1 τ  N 0 σ hf
def f_X1_boxVolume (N : Nat) (b0 : Nat) (σ : St) : Option (Int32 × St) :=
  some ((((σ (2 + b0) 0) * (σ (2 + b0) 1)) * (σ (2 + b0) 2)), σ)
set_option maxRecDepth 100000 in
set_option maxHeartbeats 4000000 in
theorem c_X1_boxVolume (l : Launch) (D : va_G) (ca : Nat → ClassId) (ad : Nat → Nat) (N : Nat) (b0 : Nat) (hb0 : b0 < 2) (σ : St) (r : Int32) (τ : St) (hf : f_X1_boxVolume N b0 σ = some (r, τ)) : cM l yX1_boxVolume (.code yX1_boxVolume cX1_boxVolume 1 (some .int)) (rmk 0) D ca ad SH [.ref (ad (2 + b0))] σ (some (.int r)) τ := by
  refine cM.intro2 (own := RX1) (lo := [some (.ref (ad (2 + b0)))]) (by decide) rfl (ccR cc0) (Nat.le_of_ble_eq_true rfl) rfl ?_
  intro p e s m args below meth c A C hr hlk
  unfold f_X1_boxVolume at hf
  refine s_aloadn (pc := 0) C dX1_boxVolume_0 rfl ?_
  refine s_getI (pc := 1) C fl_X1_9 (SH_plan hb0) rfl dX1_boxVolume_1 ?_
  refine s_aloadn (pc := 4) C dX1_boxVolume_4 rfl ?_
  refine s_getI (pc := 5) C fl_X1_15 (SH_plan hb0) rfl dX1_boxVolume_5 ?_
  refine s_imul (pc := 8) C dX1_boxVolume_8 ?_
  refine s_aloadn (pc := 9) C dX1_boxVolume_9 rfl ?_
  refine s_getI (pc := 10) C fl_X1_18 (SH_plan hb0) rfl dX1_boxVolume_10 ?_
  refine s_imul (pc := 13) C dX1_boxVolume_13 ?_
  exact s_iret (pc := 14) C hr hlk dX1_boxVolume_14 (congrArg (fun z => some (Value.int z)) (rt hf).1) (rt hf).2
def f_X1_takes (N : Nat) (b0 : Nat) (a1 : Int32) (a2 : Int32) (a3 : Int32) (σ : St) : Option (Int32 × St) :=
  if (σ (2 + b0) 0) < a1 then
    some (0, σ)
  else
    if (σ (2 + b0) 1) < a2 then
      some (0, σ)
    else
      if (σ (2 + b0) 2) < a3 then
        some (0, σ)
      else
        some (1, σ)
set_option maxRecDepth 100000 in
set_option maxHeartbeats 4000000 in
theorem c_X1_takes (l : Launch) (D : va_G) (ca : Nat → ClassId) (ad : Nat → Nat) (N : Nat) (b0 : Nat) (hb0 : b0 < 2) (a1 : Int32) (a2 : Int32) (a3 : Int32) (σ : St) (r : Int32) (τ : St) (hf : f_X1_takes N b0 a1 a2 a3 σ = some (r, τ)) : cM l yX1_takes (.code yX1_takes cX1_takes 4 (some .boolean)) (rmk 0) D ca ad SH [.ref (ad (2 + b0)), .int a1, .int a2, .int a3] σ (some (.int r)) τ := by
  refine cM.intro2 (own := RX1) (lo := [some (.ref (ad (2 + b0))), some (.int a1), some (.int a2), some (.int a3)]) (by decide) rfl (ccR (ccI (ccI (ccI cc0)))) (Nat.le_of_ble_eq_true rfl) rfl ?_
  intro p e s m args below meth c A C hr hlk
  unfold f_X1_takes at hf
  refine s_iloadn (pc := 0) C dX1_takes_0 rfl ?_
  refine s_aloadn (pc := 1) C dX1_takes_1 rfl ?_
  refine s_getI (pc := 2) C fl_X1_9 (SH_plan hb0) rfl dX1_takes_2 ?_
  refine s_icmp_gt (pc := 5) (tgt := 28) C dX1_takes_5 (by decide) (fun h_1 => ?_) (fun h_1 => ?_)
  · replace hf := ifp h_1 hf
    refine s_iconst (pc := 28) (v := 0) C dX1_takes_28 (by decide) ?_
    exact s_zret (pc := 29) C hr hlk dX1_takes_29 (by decide) (congrArg (fun z => some (Value.int z)) (rt hf).1) (rt hf).2
  · replace hf := ifn h_1 hf
    refine s_iloadn (pc := 8) C dX1_takes_8 rfl ?_
    refine s_aloadn (pc := 9) C dX1_takes_9 rfl ?_
    refine s_getI (pc := 10) C fl_X1_15 (SH_plan hb0) rfl dX1_takes_10 ?_
    refine s_icmp_gt (pc := 13) (tgt := 28) C dX1_takes_13 (by decide) (fun h_2 => ?_) (fun h_2 => ?_)
    · replace hf := ifp h_2 hf
      refine s_iconst (pc := 28) (v := 0) C dX1_takes_28 (by decide) ?_
      exact s_zret (pc := 29) C hr hlk dX1_takes_29 (by decide) (congrArg (fun z => some (Value.int z)) (rt hf).1) (rt hf).2
    · replace hf := ifn h_2 hf
      refine s_iloadn (pc := 16) C dX1_takes_16 rfl ?_
      refine s_aloadn (pc := 17) C dX1_takes_17 rfl ?_
      refine s_getI (pc := 18) C fl_X1_18 (SH_plan hb0) rfl dX1_takes_18 ?_
      refine s_icmp_gt (pc := 21) (tgt := 28) C dX1_takes_21 (by decide) (fun h_3 => ?_) (fun h_3 => ?_)
      · replace hf := ifp h_3 hf
        refine s_iconst (pc := 28) (v := 0) C dX1_takes_28 (by decide) ?_
        exact s_zret (pc := 29) C hr hlk dX1_takes_29 (by decide) (congrArg (fun z => some (Value.int z)) (rt hf).1) (rt hf).2
      · replace hf := ifn h_3 hf
        refine s_iconst (pc := 24) (v := 1) C dX1_takes_24 (by decide) ?_
        refine s_goto (pc := 25) (tgt := 29) C dX1_takes_25 (by decide) ?_
        exact s_zret (pc := 29) C hr hlk dX1_takes_29 (by decide) (congrArg (fun z => some (Value.int z)) (rt hf).1) (rt hf).2
def f_X1_hasCell (N : Nat) (b0 : Nat) (a1 : Int32) (a2 : Int32) (a3 : Int32) (σ : St) : Option (Int32 × St) :=
  if a1 < 0 then
    some (0, σ)
  else
    if (σ (2 + b0) 0) ≤ a1 then
      some (0, σ)
    else
      if a2 < 0 then
        some (0, σ)
      else
        if (σ (2 + b0) 1) ≤ a2 then
          some (0, σ)
        else
          if a3 < 0 then
            some (0, σ)
          else
            if (σ (2 + b0) 2) ≤ a3 then
              some (0, σ)
            else
              some (1, σ)
set_option maxRecDepth 100000 in
set_option maxHeartbeats 4000000 in
theorem c_X1_hasCell (l : Launch) (D : va_G) (ca : Nat → ClassId) (ad : Nat → Nat) (N : Nat) (b0 : Nat) (hb0 : b0 < 2) (a1 : Int32) (a2 : Int32) (a3 : Int32) (σ : St) (r : Int32) (τ : St) (hf : f_X1_hasCell N b0 a1 a2 a3 σ = some (r, τ)) : cM l yX1_hasCell (.code yX1_hasCell cX1_hasCell 4 (some .boolean)) (rmk 0) D ca ad SH [.ref (ad (2 + b0)), .int a1, .int a2, .int a3] σ (some (.int r)) τ := by
  refine cM.intro2 (own := RX1) (lo := [some (.ref (ad (2 + b0))), some (.int a1), some (.int a2), some (.int a3)]) (by decide) rfl (ccR (ccI (ccI (ccI cc0)))) (Nat.le_of_ble_eq_true rfl) rfl ?_
  intro p e s m args below meth c A C hr hlk
  unfold f_X1_hasCell at hf
  refine s_iloadn (pc := 0) C dX1_hasCell_0 rfl ?_
  refine s_if_lt (pc := 1) (tgt := 40) C dX1_hasCell_1 (by decide) (fun h_1 => ?_) (fun h_1 => ?_)
  · replace hf := ifp h_1 hf
    refine s_iconst (pc := 40) (v := 0) C dX1_hasCell_40 (by decide) ?_
    exact s_zret (pc := 41) C hr hlk dX1_hasCell_41 (by decide) (congrArg (fun z => some (Value.int z)) (rt hf).1) (rt hf).2
  · replace hf := ifn h_1 hf
    refine s_iloadn (pc := 4) C dX1_hasCell_4 rfl ?_
    refine s_aloadn (pc := 5) C dX1_hasCell_5 rfl ?_
    refine s_getI (pc := 6) C fl_X1_9 (SH_plan hb0) rfl dX1_hasCell_6 ?_
    refine s_icmp_ge (pc := 9) (tgt := 40) C dX1_hasCell_9 (by decide) (fun h_2 => ?_) (fun h_2 => ?_)
    · replace hf := ifp h_2 hf
      refine s_iconst (pc := 40) (v := 0) C dX1_hasCell_40 (by decide) ?_
      exact s_zret (pc := 41) C hr hlk dX1_hasCell_41 (by decide) (congrArg (fun z => some (Value.int z)) (rt hf).1) (rt hf).2
    · replace hf := ifn h_2 hf
      refine s_iloadn (pc := 12) C dX1_hasCell_12 rfl ?_
      refine s_if_lt (pc := 13) (tgt := 40) C dX1_hasCell_13 (by decide) (fun h_3 => ?_) (fun h_3 => ?_)
      · replace hf := ifp h_3 hf
        refine s_iconst (pc := 40) (v := 0) C dX1_hasCell_40 (by decide) ?_
        exact s_zret (pc := 41) C hr hlk dX1_hasCell_41 (by decide) (congrArg (fun z => some (Value.int z)) (rt hf).1) (rt hf).2
      · replace hf := ifn h_3 hf
        refine s_iloadn (pc := 16) C dX1_hasCell_16 rfl ?_
        refine s_aloadn (pc := 17) C dX1_hasCell_17 rfl ?_
        refine s_getI (pc := 18) C fl_X1_15 (SH_plan hb0) rfl dX1_hasCell_18 ?_
        refine s_icmp_ge (pc := 21) (tgt := 40) C dX1_hasCell_21 (by decide) (fun h_4 => ?_) (fun h_4 => ?_)
        · replace hf := ifp h_4 hf
          refine s_iconst (pc := 40) (v := 0) C dX1_hasCell_40 (by decide) ?_
          exact s_zret (pc := 41) C hr hlk dX1_hasCell_41 (by decide) (congrArg (fun z => some (Value.int z)) (rt hf).1) (rt hf).2
        · replace hf := ifn h_4 hf
          refine s_iloadn (pc := 24) C dX1_hasCell_24 rfl ?_
          refine s_if_lt (pc := 25) (tgt := 40) C dX1_hasCell_25 (by decide) (fun h_5 => ?_) (fun h_5 => ?_)
          · replace hf := ifp h_5 hf
            refine s_iconst (pc := 40) (v := 0) C dX1_hasCell_40 (by decide) ?_
            exact s_zret (pc := 41) C hr hlk dX1_hasCell_41 (by decide) (congrArg (fun z => some (Value.int z)) (rt hf).1) (rt hf).2
          · replace hf := ifn h_5 hf
            refine s_iloadn (pc := 28) C dX1_hasCell_28 rfl ?_
            refine s_aloadn (pc := 29) C dX1_hasCell_29 rfl ?_
            refine s_getI (pc := 30) C fl_X1_18 (SH_plan hb0) rfl dX1_hasCell_30 ?_
            refine s_icmp_ge (pc := 33) (tgt := 40) C dX1_hasCell_33 (by decide) (fun h_6 => ?_) (fun h_6 => ?_)
            · replace hf := ifp h_6 hf
              refine s_iconst (pc := 40) (v := 0) C dX1_hasCell_40 (by decide) ?_
              exact s_zret (pc := 41) C hr hlk dX1_hasCell_41 (by decide) (congrArg (fun z => some (Value.int z)) (rt hf).1) (rt hf).2
            · replace hf := ifn h_6 hf
              refine s_iconst (pc := 36) (v := 1) C dX1_hasCell_36 (by decide) ?_
              refine s_goto (pc := 37) (tgt := 41) C dX1_hasCell_37 (by decide) ?_
              exact s_zret (pc := 41) C hr hlk dX1_hasCell_41 (by decide) (congrArg (fun z => some (Value.int z)) (rt hf).1) (rt hf).2
def lp_X1_pieceIn_3 (N : Nat) (b0 : Nat) (a1 : Int32) (a2 : Int32) (a3 : Int32) : Nat → Int32 → Int32 → Int32 → Int32 → St → Option (Int32 × St)
  | 0, _, _, _, _, _ => none
  | n + 1, v1, v2, v3, v4, σ =>
    if 6 ≤ v4 then
      some ((-1), σ)
    else
      if inb v4 6 = true then
      if (σ (13 + 6 * b0 + ix v4) 0 &&& 1) = 0 then
        lp_X1_pieceIn_3 N b0 a1 a2 a3  n v1 v2 v3 (v4 + 1) σ
      else
        if inb v4 6 = true then
        bn (f_X2_covers N (13 + 6 * b0 + ix v4) v1 v2 v3 σ) fun r_1 τ_1 =>
        if r_1 = 0 then
          lp_X1_pieceIn_3 N b0 a1 a2 a3  n v1 v2 v3 (v4 + 1) τ_1
        else
          some (v4, τ_1)
        else none
      else none
set_option maxRecDepth 100000 in
set_option maxHeartbeats 4000000 in
theorem w_X1_pieceIn_3 {l : Launch} {D : va_G} {ca : Nat → ClassId} {ad : Nat → Nat} {p : Program} {e : Env} {s : State} {m : MethodId} {args : Array Value} {below : List Frame} {meth : Method} {c : Code} {A : Nat → Prop} (C : CX p s m args c D ca A RX1 cX1_pieceIn 5) (hr : meth.sig.returnType = (some .int)) (hlk : meth.locks = false) (N : Nat) (b0 : Nat) (hb0 : b0 < 2) (a1 : Int32) (a2 : Int32) (a3 : Int32) (r : Int32) (τ : St)  : ∀ (n : Nat) (v1 v2 v3 v4 : Int32) (σ : St), lp_X1_pieceIn_3 N b0 a1 a2 a3  n v1 v2 v3 v4 σ = some (r, τ) → WW p l e (rmk 1) s m args below meth c 0 0 (EQ D ca ad SH A below args s (some (.int r)) τ) A D ca ad SH 3 [some (.ref (ad (2 + b0))), some (.int v1), some (.int v2), some (.int v3), some (.int v4)] [] σ := by
  intro n
  induction n with
  | zero => intro v1 v2 v3 v4 σ hf; cases hf
  | succ n ih =>
    intro v1 v2 v3 v4 σ hf
    rw [lp_X1_pieceIn_3] at hf
    refine s_iload (pc := 3) C dX1_pieceIn_3 rfl ?_
    refine s_aloadn (pc := 5) C dX1_pieceIn_5 rfl ?_
    refine s_getR (pc := 6) (r := (11 + b0)) C fl_X1_23 (SH_plan hb0) rfl dX1_pieceIn_6 ?_
    refine s_alenI (pc := 9) (v := 6) C (SH_spots hb0) (ty2 ca) (by decide) dX1_pieceIn_9 ?_
    refine s_icmp_ge (pc := 10) (tgt := 51) C dX1_pieceIn_10 (by decide) (fun h_1 => ?_) (fun h_1 => ?_)
    · replace hf := ifp h_1 hf
      refine s_iconst (pc := 51) (v := (-1)) C dX1_pieceIn_51 (by decide) ?_
      exact s_iret (pc := 52) C hr hlk dX1_pieceIn_52 (congrArg (fun z => some (Value.int z)) (rt hf).1) (rt hf).2
    · replace hf := ifn h_1 hf
      refine s_aloadn (pc := 13) C dX1_pieceIn_13 rfl ?_
      refine s_getR (pc := 14) (r := (11 + b0)) C fl_X1_23 (SH_plan hb0) rfl dX1_pieceIn_14 ?_
      refine s_iload (pc := 17) C dX1_pieceIn_17 rfl ?_
      obtain ⟨g_1, hf⟩ := gd hf
      refine s_aald (pc := 19) C (SH_spots hb0) (ty2 ca) g_1 dX1_pieceIn_19 ?_
      refine s_getZ (pc := 20) C fl_X1_35 (SH_spot hb0 (inb_lt g_1)) rfl dX1_pieceIn_20 ?_
      refine s_if_eq (pc := 23) (tgt := 45) C dX1_pieceIn_23 (by decide) (fun h_2 => ?_) (fun h_2 => ?_)
      · replace hf := ifp h_2 hf
        refine s_iinc (pc := 45) (v := (v4 + 1)) (lo' := [some (.ref (ad (2 + b0))), some (.int v1), some (.int v2), some (.int v3), some (.int (v4 + 1))]) C dX1_pieceIn_45 rfl rfl rfl ?_
        refine s_goto (pc := 48) (tgt := 3) C dX1_pieceIn_48 (by decide) ?_
        refine s_few (lo' := [some (.ref (ad (2 + b0))), some (.int v1), some (.int v2), some (.int v3), some (.int (v4 + 1))]) (lfS (lfS (lfS (lfS (lfS lf0))))) ?_
        exact ih v1 v2 v3 (v4 + 1) σ hf
      · replace hf := ifn h_2 hf
        refine s_aloadn (pc := 26) C dX1_pieceIn_26 rfl ?_
        refine s_getR (pc := 27) (r := (11 + b0)) C fl_X1_23 (SH_plan hb0) rfl dX1_pieceIn_27 ?_
        refine s_iload (pc := 30) C dX1_pieceIn_30 rfl ?_
        obtain ⟨g_2, hf⟩ := gd hf
        refine s_aald (pc := 32) C (SH_spots hb0) (ty2 ca) g_2 dX1_pieceIn_32 ?_
        refine s_iloadn (pc := 33) C dX1_pieceIn_33 rfl ?_
        refine s_iloadn (pc := 34) C dX1_pieceIn_34 rfl ?_
        refine s_iloadn (pc := 35) C dX1_pieceIn_35 rfl ?_
        obtain ⟨r_1, τ_1, e_1, hf⟩ := bnd hf
        refine s_callV (pc := 36) (rest := []) C rfl (c_X2_covers l D ca ad N (13 + 6 * b0 + ix v4) (SH_spot hb0 (inb_lt g_2)) v1 v2 v3 σ r_1 τ_1 e_1) kv_X1_39 ⟨rfl, rfl⟩ (by decide) (SH_spot hb0 (inb_lt g_2)) ⟨_, rfl, rfl⟩ rfl rfl (Nat.le_of_ble_eq_true rfl) dX1_pieceIn_36 ⟨Nat.zero_le _, Nat.zero_le _⟩ ?_
        refine s_st (st' := [.int r_1]) rfl ?_
        refine s_if_eq (pc := 39) (tgt := 45) C dX1_pieceIn_39 (by decide) (fun h_3 => ?_) (fun h_3 => ?_)
        · replace hf := ifp h_3 hf
          refine s_iinc (pc := 45) (v := (v4 + 1)) (lo' := [some (.ref (ad (2 + b0))), some (.int v1), some (.int v2), some (.int v3), some (.int (v4 + 1))]) C dX1_pieceIn_45 rfl rfl rfl ?_
          refine s_goto (pc := 48) (tgt := 3) C dX1_pieceIn_48 (by decide) ?_
          refine s_few (lo' := [some (.ref (ad (2 + b0))), some (.int v1), some (.int v2), some (.int v3), some (.int (v4 + 1))]) (lfS (lfS (lfS (lfS (lfS lf0))))) ?_
          exact ih v1 v2 v3 (v4 + 1) τ_1 hf
        · replace hf := ifn h_3 hf
          refine s_iload (pc := 42) C dX1_pieceIn_42 rfl ?_
          exact s_iret (pc := 44) C hr hlk dX1_pieceIn_44 (congrArg (fun z => some (Value.int z)) (rt hf).1) (rt hf).2
def f_X1_pieceIn (N : Nat) (b0 : Nat) (a1 : Int32) (a2 : Int32) (a3 : Int32) (σ : St) : Option (Int32 × St) :=
  lp_X1_pieceIn_3 N b0 a1 a2 a3 N a1 a2 a3 0 σ
set_option maxRecDepth 100000 in
set_option maxHeartbeats 4000000 in
theorem c_X1_pieceIn (l : Launch) (D : va_G) (ca : Nat → ClassId) (ad : Nat → Nat) (N : Nat) (b0 : Nat) (hb0 : b0 < 2) (a1 : Int32) (a2 : Int32) (a3 : Int32) (σ : St) (r : Int32) (τ : St) (hf : f_X1_pieceIn N b0 a1 a2 a3 σ = some (r, τ)) : cM l yX1_pieceIn (.code yX1_pieceIn cX1_pieceIn 5 (some .int)) (rmk 1) D ca ad SH [.ref (ad (2 + b0)), .int a1, .int a2, .int a3] σ (some (.int r)) τ := by
  refine cM.intro2 (own := RX1) (lo := [some (.ref (ad (2 + b0))), some (.int a1), some (.int a2), some (.int a3), none]) (by decide) rfl (ccR (ccI (ccI (ccI cc0)))) (Nat.le_of_ble_eq_true rfl) rfl ?_
  intro p e s m args below meth c A C hr hlk
  unfold f_X1_pieceIn at hf
  refine s_iconst (pc := 0) (v := 0) C dX1_pieceIn_0 (by decide) ?_
  refine s_istore (pc := 1) (lo' := [some (.ref (ad (2 + b0))), some (.int a1), some (.int a2), some (.int a3), some (.int 0)]) C dX1_pieceIn_1 (Nat.le_of_ble_eq_true rfl) rfl ?_
  refine s_few (lo' := [some (.ref (ad (2 + b0))), some (.int a1), some (.int a2), some (.int a3), some (.int 0)]) (lfS (lfS (lfS (lfS (lfS lf0))))) ?_
  exact w_X1_pieceIn_3 C hr hlk N b0 hb0 a1 a2 a3 r τ  N a1 a2 a3 0 σ hf
def lp_X1_size_4 (N : Nat) (b0 : Nat) : Nat → Int32 → Int32 → St → Option (Int32 × St)
  | 0, _, _, _ => none
  | n + 1, v1, v2, σ =>
    if 6 ≤ v2 then
      some (v1, σ)
    else
      if inb v2 6 = true then
      if (σ (13 + 6 * b0 + ix v2) 0 &&& 1) = 0 then
        lp_X1_size_4 N b0  n v1 (v2 + 1) σ
      else
        lp_X1_size_4 N b0  n (v1 + 1) (v2 + 1) σ
      else none
set_option maxRecDepth 100000 in
set_option maxHeartbeats 4000000 in
theorem w_X1_size_4 {l : Launch} {D : va_G} {ca : Nat → ClassId} {ad : Nat → Nat} {p : Program} {e : Env} {s : State} {m : MethodId} {args : Array Value} {below : List Frame} {meth : Method} {c : Code} {A : Nat → Prop} (C : CX p s m args c D ca A RX1 cX1_size 3) (hr : meth.sig.returnType = (some .int)) (hlk : meth.locks = false) (N : Nat) (b0 : Nat) (hb0 : b0 < 2) (r : Int32) (τ : St)  : ∀ (n : Nat) (v1 v2 : Int32) (σ : St), lp_X1_size_4 N b0  n v1 v2 σ = some (r, τ) → WW p l e (rmk 0) s m args below meth c 0 0 (EQ D ca ad SH A below args s (some (.int r)) τ) A D ca ad SH 4 [some (.ref (ad (2 + b0))), some (.int v1), some (.int v2)] [] σ := by
  intro n
  induction n with
  | zero => intro v1 v2 σ hf; cases hf
  | succ n ih =>
    intro v1 v2 σ hf
    rw [lp_X1_size_4] at hf
    refine s_iloadn (pc := 4) C dX1_size_4 rfl ?_
    refine s_aloadn (pc := 5) C dX1_size_5 rfl ?_
    refine s_getR (pc := 6) (r := (11 + b0)) C fl_X1_23 (SH_plan hb0) rfl dX1_size_6 ?_
    refine s_alenI (pc := 9) (v := 6) C (SH_spots hb0) (ty2 ca) (by decide) dX1_size_9 ?_
    refine s_icmp_ge (pc := 10) (tgt := 34) C dX1_size_10 (by decide) (fun h_1 => ?_) (fun h_1 => ?_)
    · replace hf := ifp h_1 hf
      refine s_iloadn (pc := 34) C dX1_size_34 rfl ?_
      exact s_iret (pc := 35) C hr hlk dX1_size_35 (congrArg (fun z => some (Value.int z)) (rt hf).1) (rt hf).2
    · replace hf := ifn h_1 hf
      refine s_aloadn (pc := 13) C dX1_size_13 rfl ?_
      refine s_getR (pc := 14) (r := (11 + b0)) C fl_X1_23 (SH_plan hb0) rfl dX1_size_14 ?_
      refine s_iloadn (pc := 17) C dX1_size_17 rfl ?_
      obtain ⟨g_1, hf⟩ := gd hf
      refine s_aald (pc := 18) C (SH_spots hb0) (ty2 ca) g_1 dX1_size_18 ?_
      refine s_getZ (pc := 19) C fl_X1_35 (SH_spot hb0 (inb_lt g_1)) rfl dX1_size_19 ?_
      refine s_if_eq (pc := 22) (tgt := 28) C dX1_size_22 (by decide) (fun h_2 => ?_) (fun h_2 => ?_)
      · replace hf := ifp h_2 hf
        refine s_iinc (pc := 28) (v := (v2 + 1)) (lo' := [some (.ref (ad (2 + b0))), some (.int v1), some (.int (v2 + 1))]) C dX1_size_28 rfl rfl rfl ?_
        refine s_goto (pc := 31) (tgt := 4) C dX1_size_31 (by decide) ?_
        refine s_few (lo' := [some (.ref (ad (2 + b0))), some (.int v1), some (.int (v2 + 1))]) (lfS (lfS (lfS lf0))) ?_
        exact ih v1 (v2 + 1) σ hf
      · replace hf := ifn h_2 hf
        refine s_iinc (pc := 25) (v := (v1 + 1)) (lo' := [some (.ref (ad (2 + b0))), some (.int (v1 + 1)), some (.int v2)]) C dX1_size_25 rfl rfl rfl ?_
        refine s_iinc (pc := 28) (v := (v2 + 1)) (lo' := [some (.ref (ad (2 + b0))), some (.int (v1 + 1)), some (.int (v2 + 1))]) C dX1_size_28 rfl rfl rfl ?_
        refine s_goto (pc := 31) (tgt := 4) C dX1_size_31 (by decide) ?_
        refine s_few (lo' := [some (.ref (ad (2 + b0))), some (.int (v1 + 1)), some (.int (v2 + 1))]) (lfS (lfS (lfS lf0))) ?_
        exact ih (v1 + 1) (v2 + 1) σ hf
def f_X1_size (N : Nat) (b0 : Nat) (σ : St) : Option (Int32 × St) :=
  lp_X1_size_4 N b0 N 0 0 σ
set_option maxRecDepth 100000 in
set_option maxHeartbeats 4000000 in
theorem c_X1_size (l : Launch) (D : va_G) (ca : Nat → ClassId) (ad : Nat → Nat) (N : Nat) (b0 : Nat) (hb0 : b0 < 2) (σ : St) (r : Int32) (τ : St) (hf : f_X1_size N b0 σ = some (r, τ)) : cM l yX1_size (.code yX1_size cX1_size 3 (some .int)) (rmk 0) D ca ad SH [.ref (ad (2 + b0))] σ (some (.int r)) τ := by
  refine cM.intro2 (own := RX1) (lo := [some (.ref (ad (2 + b0))), none, none]) (by decide) rfl (ccR cc0) (Nat.le_of_ble_eq_true rfl) rfl ?_
  intro p e s m args below meth c A C hr hlk
  unfold f_X1_size at hf
  refine s_iconst (pc := 0) (v := 0) C dX1_size_0 (by decide) ?_
  refine s_istoren (pc := 1) (lo' := [some (.ref (ad (2 + b0))), some (.int 0), none]) C dX1_size_1 (Nat.le_of_ble_eq_true rfl) rfl ?_
  refine s_iconst (pc := 2) (v := 0) C dX1_size_2 (by decide) ?_
  refine s_istoren (pc := 3) (lo' := [some (.ref (ad (2 + b0))), some (.int 0), some (.int 0)]) C dX1_size_3 (Nat.le_of_ble_eq_true rfl) rfl ?_
  refine s_few (lo' := [some (.ref (ad (2 + b0))), some (.int 0), some (.int 0)]) (lfS (lfS (lfS lf0))) ?_
  exact w_X1_size_4 C hr hlk N b0 hb0 r τ  N 0 0 σ hf
def lp_X1_volume_4 (N : Nat) (b0 : Nat) : Nat → Int32 → Int32 → St → Option (Int32 × St)
  | 0, _, _, _ => none
  | n + 1, v1, v2, σ =>
    if 6 ≤ v2 then
      some (v1, σ)
    else
      if inb v2 6 = true then
      bn (f_X2_volume N (13 + 6 * b0 + ix v2) σ) fun r_1 τ_1 =>
      lp_X1_volume_4 N b0  n (v1 + r_1) (v2 + 1) τ_1
      else none
set_option maxRecDepth 100000 in
set_option maxHeartbeats 4000000 in
theorem w_X1_volume_4 {l : Launch} {D : va_G} {ca : Nat → ClassId} {ad : Nat → Nat} {p : Program} {e : Env} {s : State} {m : MethodId} {args : Array Value} {below : List Frame} {meth : Method} {c : Code} {A : Nat → Prop} (C : CX p s m args c D ca A RX1 cX1_volume 3) (hr : meth.sig.returnType = (some .int)) (hlk : meth.locks = false) (N : Nat) (b0 : Nat) (hb0 : b0 < 2) (r : Int32) (τ : St)  : ∀ (n : Nat) (v1 v2 : Int32) (σ : St), lp_X1_volume_4 N b0  n v1 v2 σ = some (r, τ) → WW p l e (rmk 2) s m args below meth c 0 0 (EQ D ca ad SH A below args s (some (.int r)) τ) A D ca ad SH 4 [some (.ref (ad (2 + b0))), some (.int v1), some (.int v2)] [] σ := by
  intro n
  induction n with
  | zero => intro v1 v2 σ hf; cases hf
  | succ n ih =>
    intro v1 v2 σ hf
    rw [lp_X1_volume_4] at hf
    refine s_iloadn (pc := 4) C dX1_volume_4 rfl ?_
    refine s_aloadn (pc := 5) C dX1_volume_5 rfl ?_
    refine s_getR (pc := 6) (r := (11 + b0)) C fl_X1_23 (SH_plan hb0) rfl dX1_volume_6 ?_
    refine s_alenI (pc := 9) (v := 6) C (SH_spots hb0) (ty2 ca) (by decide) dX1_volume_9 ?_
    refine s_icmp_ge (pc := 10) (tgt := 31) C dX1_volume_10 (by decide) (fun h_1 => ?_) (fun h_1 => ?_)
    · replace hf := ifp h_1 hf
      refine s_iloadn (pc := 31) C dX1_volume_31 rfl ?_
      exact s_iret (pc := 32) C hr hlk dX1_volume_32 (congrArg (fun z => some (Value.int z)) (rt hf).1) (rt hf).2
    · replace hf := ifn h_1 hf
      refine s_iloadn (pc := 13) C dX1_volume_13 rfl ?_
      refine s_aloadn (pc := 14) C dX1_volume_14 rfl ?_
      refine s_getR (pc := 15) (r := (11 + b0)) C fl_X1_23 (SH_plan hb0) rfl dX1_volume_15 ?_
      refine s_iloadn (pc := 18) C dX1_volume_18 rfl ?_
      obtain ⟨g_1, hf⟩ := gd hf
      refine s_aald (pc := 19) C (SH_spots hb0) (ty2 ca) g_1 dX1_volume_19 ?_
      obtain ⟨r_1, τ_1, e_1, hf⟩ := bnd hf
      refine s_callV (pc := 20) (rest := [.int v1]) C rfl (c_X2_volume l D ca ad N (13 + 6 * b0 + ix v2) (SH_spot hb0 (inb_lt g_1)) σ r_1 τ_1 e_1) kv_X1_43 ⟨rfl, rfl⟩ (by decide) (SH_spot hb0 (inb_lt g_1)) ⟨_, rfl, rfl⟩ rfl rfl (Nat.le_of_ble_eq_true rfl) dX1_volume_20 ⟨Nat.zero_le _, Nat.zero_le _⟩ ?_
      refine s_st (st' := [.int r_1, .int v1]) rfl ?_
      refine s_iadd (pc := 23) C dX1_volume_23 ?_
      refine s_istoren (pc := 24) (lo' := [some (.ref (ad (2 + b0))), some (.int (v1 + r_1)), some (.int v2)]) C dX1_volume_24 (Nat.le_of_ble_eq_true rfl) rfl ?_
      refine s_iinc (pc := 25) (v := (v2 + 1)) (lo' := [some (.ref (ad (2 + b0))), some (.int (v1 + r_1)), some (.int (v2 + 1))]) C dX1_volume_25 rfl rfl rfl ?_
      refine s_goto (pc := 28) (tgt := 4) C dX1_volume_28 (by decide) ?_
      refine s_few (lo' := [some (.ref (ad (2 + b0))), some (.int (v1 + r_1)), some (.int (v2 + 1))]) (lfS (lfS (lfS lf0))) ?_
      exact ih (v1 + r_1) (v2 + 1) τ_1 hf
def f_X1_volume (N : Nat) (b0 : Nat) (σ : St) : Option (Int32 × St) :=
  lp_X1_volume_4 N b0 N 0 0 σ
set_option maxRecDepth 100000 in
set_option maxHeartbeats 4000000 in
theorem c_X1_volume (l : Launch) (D : va_G) (ca : Nat → ClassId) (ad : Nat → Nat) (N : Nat) (b0 : Nat) (hb0 : b0 < 2) (σ : St) (r : Int32) (τ : St) (hf : f_X1_volume N b0 σ = some (r, τ)) : cM l yX1_volume (.code yX1_volume cX1_volume 3 (some .int)) (rmk 2) D ca ad SH [.ref (ad (2 + b0))] σ (some (.int r)) τ := by
  refine cM.intro2 (own := RX1) (lo := [some (.ref (ad (2 + b0))), none, none]) (by decide) rfl (ccR cc0) (Nat.le_of_ble_eq_true rfl) rfl ?_
  intro p e s m args below meth c A C hr hlk
  unfold f_X1_volume at hf
  refine s_iconst (pc := 0) (v := 0) C dX1_volume_0 (by decide) ?_
  refine s_istoren (pc := 1) (lo' := [some (.ref (ad (2 + b0))), some (.int 0), none]) C dX1_volume_1 (Nat.le_of_ble_eq_true rfl) rfl ?_
  refine s_iconst (pc := 2) (v := 0) C dX1_volume_2 (by decide) ?_
  refine s_istoren (pc := 3) (lo' := [some (.ref (ad (2 + b0))), some (.int 0), some (.int 0)]) C dX1_volume_3 (Nat.le_of_ble_eq_true rfl) rfl ?_
  refine s_few (lo' := [some (.ref (ad (2 + b0))), some (.int 0), some (.int 0)]) (lfS (lfS (lfS lf0))) ?_
  exact w_X1_volume_4 C hr hlk N b0 hb0 r τ  N 0 0 σ hf
def lp_X1_weight_4 (N : Nat) (b0 : Nat) : Nat → Int32 → Int32 → St → Option (Int32 × St)
  | 0, _, _, _ => none
  | n + 1, v1, v2, σ =>
    if 6 ≤ v2 then
      some (v1, σ)
    else
      if inb v2 6 = true then
      if (σ (13 + 6 * b0 + ix v2) 0 &&& 1) = 0 then
        lp_X1_weight_4 N b0  n v1 (v2 + 1) σ
      else
        if inb v2 6 = true then
        lp_X1_weight_4 N b0  n (v1 + (σ (13 + 6 * b0 + ix v2) 8)) (v2 + 1) σ
        else none
      else none
set_option maxRecDepth 100000 in
set_option maxHeartbeats 4000000 in
theorem w_X1_weight_4 {l : Launch} {D : va_G} {ca : Nat → ClassId} {ad : Nat → Nat} {p : Program} {e : Env} {s : State} {m : MethodId} {args : Array Value} {below : List Frame} {meth : Method} {c : Code} {A : Nat → Prop} (C : CX p s m args c D ca A RX1 cX1_weight 3) (hr : meth.sig.returnType = (some .int)) (hlk : meth.locks = false) (N : Nat) (b0 : Nat) (hb0 : b0 < 2) (r : Int32) (τ : St)  : ∀ (n : Nat) (v1 v2 : Int32) (σ : St), lp_X1_weight_4 N b0  n v1 v2 σ = some (r, τ) → WW p l e (rmk 0) s m args below meth c 0 0 (EQ D ca ad SH A below args s (some (.int r)) τ) A D ca ad SH 4 [some (.ref (ad (2 + b0))), some (.int v1), some (.int v2)] [] σ := by
  intro n
  induction n with
  | zero => intro v1 v2 σ hf; cases hf
  | succ n ih =>
    intro v1 v2 σ hf
    rw [lp_X1_weight_4] at hf
    refine s_iloadn (pc := 4) C dX1_weight_4 rfl ?_
    refine s_aloadn (pc := 5) C dX1_weight_5 rfl ?_
    refine s_getR (pc := 6) (r := (11 + b0)) C fl_X1_23 (SH_plan hb0) rfl dX1_weight_6 ?_
    refine s_alenI (pc := 9) (v := 6) C (SH_spots hb0) (ty2 ca) (by decide) dX1_weight_9 ?_
    refine s_icmp_ge (pc := 10) (tgt := 43) C dX1_weight_10 (by decide) (fun h_1 => ?_) (fun h_1 => ?_)
    · replace hf := ifp h_1 hf
      refine s_iloadn (pc := 43) C dX1_weight_43 rfl ?_
      exact s_iret (pc := 44) C hr hlk dX1_weight_44 (congrArg (fun z => some (Value.int z)) (rt hf).1) (rt hf).2
    · replace hf := ifn h_1 hf
      refine s_aloadn (pc := 13) C dX1_weight_13 rfl ?_
      refine s_getR (pc := 14) (r := (11 + b0)) C fl_X1_23 (SH_plan hb0) rfl dX1_weight_14 ?_
      refine s_iloadn (pc := 17) C dX1_weight_17 rfl ?_
      obtain ⟨g_1, hf⟩ := gd hf
      refine s_aald (pc := 18) C (SH_spots hb0) (ty2 ca) g_1 dX1_weight_18 ?_
      refine s_getZ (pc := 19) C fl_X1_35 (SH_spot hb0 (inb_lt g_1)) rfl dX1_weight_19 ?_
      refine s_if_eq (pc := 22) (tgt := 37) C dX1_weight_22 (by decide) (fun h_2 => ?_) (fun h_2 => ?_)
      · replace hf := ifp h_2 hf
        refine s_iinc (pc := 37) (v := (v2 + 1)) (lo' := [some (.ref (ad (2 + b0))), some (.int v1), some (.int (v2 + 1))]) C dX1_weight_37 rfl rfl rfl ?_
        refine s_goto (pc := 40) (tgt := 4) C dX1_weight_40 (by decide) ?_
        refine s_few (lo' := [some (.ref (ad (2 + b0))), some (.int v1), some (.int (v2 + 1))]) (lfS (lfS (lfS lf0))) ?_
        exact ih v1 (v2 + 1) σ hf
      · replace hf := ifn h_2 hf
        refine s_iloadn (pc := 25) C dX1_weight_25 rfl ?_
        refine s_aloadn (pc := 26) C dX1_weight_26 rfl ?_
        refine s_getR (pc := 27) (r := (11 + b0)) C fl_X1_23 (SH_plan hb0) rfl dX1_weight_27 ?_
        refine s_iloadn (pc := 30) C dX1_weight_30 rfl ?_
        obtain ⟨g_2, hf⟩ := gd hf
        refine s_aald (pc := 31) C (SH_spots hb0) (ty2 ca) g_2 dX1_weight_31 ?_
        refine s_getI (pc := 32) C fl_X1_47 (SH_spot hb0 (inb_lt g_2)) rfl dX1_weight_32 ?_
        refine s_iadd (pc := 35) C dX1_weight_35 ?_
        refine s_istoren (pc := 36) (lo' := [some (.ref (ad (2 + b0))), some (.int (v1 + (σ (13 + 6 * b0 + ix v2) 8))), some (.int v2)]) C dX1_weight_36 (Nat.le_of_ble_eq_true rfl) rfl ?_
        refine s_iinc (pc := 37) (v := (v2 + 1)) (lo' := [some (.ref (ad (2 + b0))), some (.int (v1 + (σ (13 + 6 * b0 + ix v2) 8))), some (.int (v2 + 1))]) C dX1_weight_37 rfl rfl rfl ?_
        refine s_goto (pc := 40) (tgt := 4) C dX1_weight_40 (by decide) ?_
        refine s_few (lo' := [some (.ref (ad (2 + b0))), some (.int (v1 + (σ (13 + 6 * b0 + ix v2) 8))), some (.int (v2 + 1))]) (lfS (lfS (lfS lf0))) ?_
        exact ih (v1 + (σ (13 + 6 * b0 + ix v2) 8)) (v2 + 1) σ hf
def f_X1_weight (N : Nat) (b0 : Nat) (σ : St) : Option (Int32 × St) :=
  lp_X1_weight_4 N b0 N 0 0 σ
set_option maxRecDepth 100000 in
set_option maxHeartbeats 4000000 in
theorem c_X1_weight (l : Launch) (D : va_G) (ca : Nat → ClassId) (ad : Nat → Nat) (N : Nat) (b0 : Nat) (hb0 : b0 < 2) (σ : St) (r : Int32) (τ : St) (hf : f_X1_weight N b0 σ = some (r, τ)) : cM l yX1_weight (.code yX1_weight cX1_weight 3 (some .int)) (rmk 0) D ca ad SH [.ref (ad (2 + b0))] σ (some (.int r)) τ := by
  refine cM.intro2 (own := RX1) (lo := [some (.ref (ad (2 + b0))), none, none]) (by decide) rfl (ccR cc0) (Nat.le_of_ble_eq_true rfl) rfl ?_
  intro p e s m args below meth c A C hr hlk
  unfold f_X1_weight at hf
  refine s_iconst (pc := 0) (v := 0) C dX1_weight_0 (by decide) ?_
  refine s_istoren (pc := 1) (lo' := [some (.ref (ad (2 + b0))), some (.int 0), none]) C dX1_weight_1 (Nat.le_of_ble_eq_true rfl) rfl ?_
  refine s_iconst (pc := 2) (v := 0) C dX1_weight_2 (by decide) ?_
  refine s_istoren (pc := 3) (lo' := [some (.ref (ad (2 + b0))), some (.int 0), some (.int 0)]) C dX1_weight_3 (Nat.le_of_ble_eq_true rfl) rfl ?_
  refine s_few (lo' := [some (.ref (ad (2 + b0))), some (.int 0), some (.int 0)]) (lfS (lfS (lfS lf0))) ?_
  exact w_X1_weight_4 C hr hlk N b0 hb0 r τ  N 0 0 σ hf
def lp_X1_top_4 (N : Nat) (b0 : Nat) : Nat → Int32 → Int32 → St → Option (Int32 × St)
  | 0, _, _, _ => none
  | n + 1, v1, v2, σ =>
    if 6 ≤ v2 then
      some (v1, σ)
    else
      if inb v2 6 = true then
      if (σ (13 + 6 * b0 + ix v2) 0 &&& 1) = 0 then
        lp_X1_top_4 N b0  n v1 (v2 + 1) σ
      else
        if inb v2 6 = true then
        bn (f_X2_endAlong N (13 + 6 * b0 + ix v2) 2 σ) fun r_1 τ_1 =>
        lp_X1_top_4 N b0  n (mmax v1 r_1) (v2 + 1) τ_1
        else none
      else none
set_option maxRecDepth 100000 in
set_option maxHeartbeats 4000000 in
theorem w_X1_top_4 {l : Launch} {D : va_G} {ca : Nat → ClassId} {ad : Nat → Nat} {p : Program} {e : Env} {s : State} {m : MethodId} {args : Array Value} {below : List Frame} {meth : Method} {c : Code} {A : Nat → Prop} (C : CX p s m args c D ca A RX1 cX1_top 3) (hr : meth.sig.returnType = (some .int)) (hlk : meth.locks = false) (N : Nat) (b0 : Nat) (hb0 : b0 < 2) (r : Int32) (τ : St)  : ∀ (n : Nat) (v1 v2 : Int32) (σ : St), lp_X1_top_4 N b0  n v1 v2 σ = some (r, τ) → WW p l e (rmk 1) s m args below meth c 0 0 (EQ D ca ad SH A below args s (some (.int r)) τ) A D ca ad SH 4 [some (.ref (ad (2 + b0))), some (.int v1), some (.int v2)] [] σ := by
  intro n
  induction n with
  | zero => intro v1 v2 σ hf; cases hf
  | succ n ih =>
    intro v1 v2 σ hf
    rw [lp_X1_top_4] at hf
    refine s_iloadn (pc := 4) C dX1_top_4 rfl ?_
    refine s_aloadn (pc := 5) C dX1_top_5 rfl ?_
    refine s_getR (pc := 6) (r := (11 + b0)) C fl_X1_23 (SH_plan hb0) rfl dX1_top_6 ?_
    refine s_alenI (pc := 9) (v := 6) C (SH_spots hb0) (ty2 ca) (by decide) dX1_top_9 ?_
    refine s_icmp_ge (pc := 10) (tgt := 46) C dX1_top_10 (by decide) (fun h_1 => ?_) (fun h_1 => ?_)
    · replace hf := ifp h_1 hf
      refine s_iloadn (pc := 46) C dX1_top_46 rfl ?_
      exact s_iret (pc := 47) C hr hlk dX1_top_47 (congrArg (fun z => some (Value.int z)) (rt hf).1) (rt hf).2
    · replace hf := ifn h_1 hf
      refine s_aloadn (pc := 13) C dX1_top_13 rfl ?_
      refine s_getR (pc := 14) (r := (11 + b0)) C fl_X1_23 (SH_plan hb0) rfl dX1_top_14 ?_
      refine s_iloadn (pc := 17) C dX1_top_17 rfl ?_
      obtain ⟨g_1, hf⟩ := gd hf
      refine s_aald (pc := 18) C (SH_spots hb0) (ty2 ca) g_1 dX1_top_18 ?_
      refine s_getZ (pc := 19) C fl_X1_35 (SH_spot hb0 (inb_lt g_1)) rfl dX1_top_19 ?_
      refine s_if_eq (pc := 22) (tgt := 40) C dX1_top_22 (by decide) (fun h_2 => ?_) (fun h_2 => ?_)
      · replace hf := ifp h_2 hf
        refine s_iinc (pc := 40) (v := (v2 + 1)) (lo' := [some (.ref (ad (2 + b0))), some (.int v1), some (.int (v2 + 1))]) C dX1_top_40 rfl rfl rfl ?_
        refine s_goto (pc := 43) (tgt := 4) C dX1_top_43 (by decide) ?_
        refine s_few (lo' := [some (.ref (ad (2 + b0))), some (.int v1), some (.int (v2 + 1))]) (lfS (lfS (lfS lf0))) ?_
        exact ih v1 (v2 + 1) σ hf
      · replace hf := ifn h_2 hf
        refine s_iloadn (pc := 25) C dX1_top_25 rfl ?_
        refine s_aloadn (pc := 26) C dX1_top_26 rfl ?_
        refine s_getR (pc := 27) (r := (11 + b0)) C fl_X1_23 (SH_plan hb0) rfl dX1_top_27 ?_
        refine s_iloadn (pc := 30) C dX1_top_30 rfl ?_
        obtain ⟨g_2, hf⟩ := gd hf
        refine s_aald (pc := 31) C (SH_spots hb0) (ty2 ca) g_2 dX1_top_31 ?_
        refine s_iconst (pc := 32) (v := 2) C dX1_top_32 (by decide) ?_
        obtain ⟨r_1, τ_1, e_1, hf⟩ := bnd hf
        refine s_callV (pc := 33) (rest := [.int v1]) C rfl (c_X2_endAlong l D ca ad N (13 + 6 * b0 + ix v2) (SH_spot hb0 (inb_lt g_2)) 2 σ r_1 τ_1 e_1) kv_X1_50 ⟨rfl, rfl⟩ (by decide) (SH_spot hb0 (inb_lt g_2)) ⟨_, rfl, rfl⟩ rfl rfl (Nat.le_of_ble_eq_true rfl) dX1_top_33 ⟨Nat.zero_le _, Nat.zero_le _⟩ ?_
        refine s_st (st' := [.int r_1, .int v1]) rfl ?_
        refine s_mmax (pc := 36) C rfl hk_X1_54 ⟨by decide, Nat.le_of_ble_eq_true rfl⟩ ⟨Nat.zero_le _, Nat.zero_le _⟩ hm_max dX1_top_36 ?_
        refine s_istoren (pc := 39) (lo' := [some (.ref (ad (2 + b0))), some (.int (mmax v1 r_1)), some (.int v2)]) C dX1_top_39 (Nat.le_of_ble_eq_true rfl) rfl ?_
        refine s_iinc (pc := 40) (v := (v2 + 1)) (lo' := [some (.ref (ad (2 + b0))), some (.int (mmax v1 r_1)), some (.int (v2 + 1))]) C dX1_top_40 rfl rfl rfl ?_
        refine s_goto (pc := 43) (tgt := 4) C dX1_top_43 (by decide) ?_
        refine s_few (lo' := [some (.ref (ad (2 + b0))), some (.int (mmax v1 r_1)), some (.int (v2 + 1))]) (lfS (lfS (lfS lf0))) ?_
        exact ih (mmax v1 r_1) (v2 + 1) τ_1 hf
def f_X1_top (N : Nat) (b0 : Nat) (σ : St) : Option (Int32 × St) :=
  lp_X1_top_4 N b0 N 0 0 σ
set_option maxRecDepth 100000 in
set_option maxHeartbeats 4000000 in
theorem c_X1_top (l : Launch) (D : va_G) (ca : Nat → ClassId) (ad : Nat → Nat) (N : Nat) (b0 : Nat) (hb0 : b0 < 2) (σ : St) (r : Int32) (τ : St) (hf : f_X1_top N b0 σ = some (r, τ)) : cM l yX1_top (.code yX1_top cX1_top 3 (some .int)) (rmk 1) D ca ad SH [.ref (ad (2 + b0))] σ (some (.int r)) τ := by
  refine cM.intro2 (own := RX1) (lo := [some (.ref (ad (2 + b0))), none, none]) (by decide) rfl (ccR cc0) (Nat.le_of_ble_eq_true rfl) rfl ?_
  intro p e s m args below meth c A C hr hlk
  unfold f_X1_top at hf
  refine s_iconst (pc := 0) (v := 0) C dX1_top_0 (by decide) ?_
  refine s_istoren (pc := 1) (lo' := [some (.ref (ad (2 + b0))), some (.int 0), none]) C dX1_top_1 (Nat.le_of_ble_eq_true rfl) rfl ?_
  refine s_iconst (pc := 2) (v := 0) C dX1_top_2 (by decide) ?_
  refine s_istoren (pc := 3) (lo' := [some (.ref (ad (2 + b0))), some (.int 0), some (.int 0)]) C dX1_top_3 (Nat.le_of_ble_eq_true rfl) rfl ?_
  refine s_few (lo' := [some (.ref (ad (2 + b0))), some (.int 0), some (.int 0)]) (lfS (lfS (lfS lf0))) ?_
  exact w_X1_top_4 C hr hlk N b0 hb0 r τ  N 0 0 σ hf
def lp_X1_ends_4 (N : Nat) (b0 : Nat) (a1 : Int32) : Nat → Int32 → Int32 → Int32 → St → Option (Int32 × St)
  | 0, _, _, _, _ => none
  | n + 1, v1, v2, v3, σ =>
    if 6 ≤ v3 then
      some (v2, σ)
    else
      if inb v3 6 = true then
      if (σ (13 + 6 * b0 + ix v3) 0 &&& 1) = 0 then
        lp_X1_ends_4 N b0 a1  n v1 v2 (v3 + 1) σ
      else
        if inb v3 6 = true then
        bn (f_X2_endAlong N (13 + 6 * b0 + ix v3) v1 σ) fun r_1 τ_1 =>
        lp_X1_ends_4 N b0 a1  n v1 (v2 ||| (1 <<< (r_1 &&& 31))) (v3 + 1) τ_1
        else none
      else none
set_option maxRecDepth 100000 in
set_option maxHeartbeats 4000000 in
theorem w_X1_ends_4 {l : Launch} {D : va_G} {ca : Nat → ClassId} {ad : Nat → Nat} {p : Program} {e : Env} {s : State} {m : MethodId} {args : Array Value} {below : List Frame} {meth : Method} {c : Code} {A : Nat → Prop} (C : CX p s m args c D ca A RX1 cX1_ends 4) (hr : meth.sig.returnType = (some .int)) (hlk : meth.locks = false) (N : Nat) (b0 : Nat) (hb0 : b0 < 2) (a1 : Int32) (r : Int32) (τ : St)  : ∀ (n : Nat) (v1 v2 v3 : Int32) (σ : St), lp_X1_ends_4 N b0 a1  n v1 v2 v3 σ = some (r, τ) → WW p l e (rmk 1) s m args below meth c 0 0 (EQ D ca ad SH A below args s (some (.int r)) τ) A D ca ad SH 4 [some (.ref (ad (2 + b0))), some (.int v1), some (.int v2), some (.int v3)] [] σ := by
  intro n
  induction n with
  | zero => intro v1 v2 v3 σ hf; cases hf
  | succ n ih =>
    intro v1 v2 v3 σ hf
    rw [lp_X1_ends_4] at hf
    refine s_iloadn (pc := 4) C dX1_ends_4 rfl ?_
    refine s_aloadn (pc := 5) C dX1_ends_5 rfl ?_
    refine s_getR (pc := 6) (r := (11 + b0)) C fl_X1_23 (SH_plan hb0) rfl dX1_ends_6 ?_
    refine s_alenI (pc := 9) (v := 6) C (SH_spots hb0) (ty2 ca) (by decide) dX1_ends_9 ?_
    refine s_icmp_ge (pc := 10) (tgt := 46) C dX1_ends_10 (by decide) (fun h_1 => ?_) (fun h_1 => ?_)
    · replace hf := ifp h_1 hf
      refine s_iloadn (pc := 46) C dX1_ends_46 rfl ?_
      exact s_iret (pc := 47) C hr hlk dX1_ends_47 (congrArg (fun z => some (Value.int z)) (rt hf).1) (rt hf).2
    · replace hf := ifn h_1 hf
      refine s_aloadn (pc := 13) C dX1_ends_13 rfl ?_
      refine s_getR (pc := 14) (r := (11 + b0)) C fl_X1_23 (SH_plan hb0) rfl dX1_ends_14 ?_
      refine s_iloadn (pc := 17) C dX1_ends_17 rfl ?_
      obtain ⟨g_1, hf⟩ := gd hf
      refine s_aald (pc := 18) C (SH_spots hb0) (ty2 ca) g_1 dX1_ends_18 ?_
      refine s_getZ (pc := 19) C fl_X1_35 (SH_spot hb0 (inb_lt g_1)) rfl dX1_ends_19 ?_
      refine s_if_eq (pc := 22) (tgt := 40) C dX1_ends_22 (by decide) (fun h_2 => ?_) (fun h_2 => ?_)
      · replace hf := ifp h_2 hf
        refine s_iinc (pc := 40) (v := (v3 + 1)) (lo' := [some (.ref (ad (2 + b0))), some (.int v1), some (.int v2), some (.int (v3 + 1))]) C dX1_ends_40 rfl rfl rfl ?_
        refine s_goto (pc := 43) (tgt := 4) C dX1_ends_43 (by decide) ?_
        refine s_few (lo' := [some (.ref (ad (2 + b0))), some (.int v1), some (.int v2), some (.int (v3 + 1))]) (lfS (lfS (lfS (lfS lf0)))) ?_
        exact ih v1 v2 (v3 + 1) σ hf
      · replace hf := ifn h_2 hf
        refine s_iloadn (pc := 25) C dX1_ends_25 rfl ?_
        refine s_iconst (pc := 26) (v := 1) C dX1_ends_26 (by decide) ?_
        refine s_aloadn (pc := 27) C dX1_ends_27 rfl ?_
        refine s_getR (pc := 28) (r := (11 + b0)) C fl_X1_23 (SH_plan hb0) rfl dX1_ends_28 ?_
        refine s_iloadn (pc := 31) C dX1_ends_31 rfl ?_
        obtain ⟨g_2, hf⟩ := gd hf
        refine s_aald (pc := 32) C (SH_spots hb0) (ty2 ca) g_2 dX1_ends_32 ?_
        refine s_iloadn (pc := 33) C dX1_ends_33 rfl ?_
        obtain ⟨r_1, τ_1, e_1, hf⟩ := bnd hf
        refine s_callV (pc := 34) (rest := [.int 1, .int v2]) C rfl (c_X2_endAlong l D ca ad N (13 + 6 * b0 + ix v3) (SH_spot hb0 (inb_lt g_2)) v1 σ r_1 τ_1 e_1) kv_X1_50 ⟨rfl, rfl⟩ (by decide) (SH_spot hb0 (inb_lt g_2)) ⟨_, rfl, rfl⟩ rfl rfl (Nat.le_of_ble_eq_true rfl) dX1_ends_34 ⟨Nat.zero_le _, Nat.zero_le _⟩ ?_
        refine s_st (st' := [.int r_1, .int 1, .int v2]) rfl ?_
        refine s_ishl (pc := 37) C dX1_ends_37 ?_
        refine s_ior (pc := 38) C dX1_ends_38 ?_
        refine s_istoren (pc := 39) (lo' := [some (.ref (ad (2 + b0))), some (.int v1), some (.int (v2 ||| (1 <<< (r_1 &&& 31)))), some (.int v3)]) C dX1_ends_39 (Nat.le_of_ble_eq_true rfl) rfl ?_
        refine s_iinc (pc := 40) (v := (v3 + 1)) (lo' := [some (.ref (ad (2 + b0))), some (.int v1), some (.int (v2 ||| (1 <<< (r_1 &&& 31)))), some (.int (v3 + 1))]) C dX1_ends_40 rfl rfl rfl ?_
        refine s_goto (pc := 43) (tgt := 4) C dX1_ends_43 (by decide) ?_
        refine s_few (lo' := [some (.ref (ad (2 + b0))), some (.int v1), some (.int (v2 ||| (1 <<< (r_1 &&& 31)))), some (.int (v3 + 1))]) (lfS (lfS (lfS (lfS lf0)))) ?_
        exact ih v1 (v2 ||| (1 <<< (r_1 &&& 31))) (v3 + 1) τ_1 hf
def f_X1_ends (N : Nat) (b0 : Nat) (a1 : Int32) (σ : St) : Option (Int32 × St) :=
  lp_X1_ends_4 N b0 a1 N a1 1 0 σ
set_option maxRecDepth 100000 in
set_option maxHeartbeats 4000000 in
theorem c_X1_ends (l : Launch) (D : va_G) (ca : Nat → ClassId) (ad : Nat → Nat) (N : Nat) (b0 : Nat) (hb0 : b0 < 2) (a1 : Int32) (σ : St) (r : Int32) (τ : St) (hf : f_X1_ends N b0 a1 σ = some (r, τ)) : cM l yX1_ends (.code yX1_ends cX1_ends 4 (some .int)) (rmk 1) D ca ad SH [.ref (ad (2 + b0)), .int a1] σ (some (.int r)) τ := by
  refine cM.intro2 (own := RX1) (lo := [some (.ref (ad (2 + b0))), some (.int a1), none, none]) (by decide) rfl (ccR (ccI cc0)) (Nat.le_of_ble_eq_true rfl) rfl ?_
  intro p e s m args below meth c A C hr hlk
  unfold f_X1_ends at hf
  refine s_iconst (pc := 0) (v := 1) C dX1_ends_0 (by decide) ?_
  refine s_istoren (pc := 1) (lo' := [some (.ref (ad (2 + b0))), some (.int a1), some (.int 1), none]) C dX1_ends_1 (Nat.le_of_ble_eq_true rfl) rfl ?_
  refine s_iconst (pc := 2) (v := 0) C dX1_ends_2 (by decide) ?_
  refine s_istoren (pc := 3) (lo' := [some (.ref (ad (2 + b0))), some (.int a1), some (.int 1), some (.int 0)]) C dX1_ends_3 (Nat.le_of_ble_eq_true rfl) rfl ?_
  refine s_few (lo' := [some (.ref (ad (2 + b0))), some (.int a1), some (.int 1), some (.int 0)]) (lfS (lfS (lfS (lfS lf0)))) ?_
  exact w_X1_ends_4 C hr hlk N b0 hb0 a1 r τ  N a1 1 0 σ hf
def lp_X1_supportOf_16 (N : Nat) (b0 : Nat) (q1 : Nat) : Nat → Int32 → Int32 → St → Option (Int32 × St)
  | 0, _, _, _ => none
  | n + 1, v2, v3, σ =>
    if 6 ≤ v3 then
      some (v2, σ)
    else
      if inb v3 6 = true then
      if (σ (13 + 6 * b0 + ix v3) 0 &&& 1) = 0 then
        lp_X1_supportOf_16 N b0 q1  n v2 (v3 + 1) σ
      else
        if inb v3 6 = true then
        bn (f_X2_standsOn N q1 (13 + 6 * b0 + ix v3) σ) fun r_1 τ_1 =>
        if r_1 = 0 then
          lp_X1_supportOf_16 N b0 q1  n v2 (v3 + 1) τ_1
        else
          if inb v3 6 = true then
          bn (f_X2_commonArea N q1 (13 + 6 * b0 + ix v3) τ_1) fun r_2 τ_2 =>
          lp_X1_supportOf_16 N b0 q1  n (v2 + r_2) (v3 + 1) τ_2
          else none
        else none
      else none
set_option maxRecDepth 100000 in
set_option maxHeartbeats 4000000 in
theorem w_X1_supportOf_16 {l : Launch} {D : va_G} {ca : Nat → ClassId} {ad : Nat → Nat} {p : Program} {e : Env} {s : State} {m : MethodId} {args : Array Value} {below : List Frame} {meth : Method} {c : Code} {A : Nat → Prop} (C : CX p s m args c D ca A RX1 cX1_supportOf 4) (hr : meth.sig.returnType = (some .int)) (hlk : meth.locks = false) (N : Nat) (b0 : Nat) (hb0 : b0 < 2) (q1 : Nat) (hq1 : SH[q1]? = some oSpot) (r : Int32) (τ : St)  : ∀ (n : Nat) (v2 v3 : Int32) (σ : St), lp_X1_supportOf_16 N b0 q1  n v2 v3 σ = some (r, τ) → WW p l e (rmk 2) s m args below meth c 0 0 (EQ D ca ad SH A below args s (some (.int r)) τ) A D ca ad SH 16 [some (.ref (ad (2 + b0))), some (.ref (ad q1)), some (.int v2), some (.int v3)] [] σ := by
  intro n
  induction n with
  | zero => intro v2 v3 σ hf; cases hf
  | succ n ih =>
    intro v2 v3 σ hf
    rw [lp_X1_supportOf_16] at hf
    refine s_iloadn (pc := 16) C dX1_supportOf_16 rfl ?_
    refine s_aloadn (pc := 17) C dX1_supportOf_17 rfl ?_
    refine s_getR (pc := 18) (r := (11 + b0)) C fl_X1_23 (SH_plan hb0) rfl dX1_supportOf_18 ?_
    refine s_alenI (pc := 21) (v := 6) C (SH_spots hb0) (ty2 ca) (by decide) dX1_supportOf_21 ?_
    refine s_icmp_ge (pc := 22) (tgt := 69) C dX1_supportOf_22 (by decide) (fun h_1 => ?_) (fun h_1 => ?_)
    · replace hf := ifp h_1 hf
      refine s_iloadn (pc := 69) C dX1_supportOf_69 rfl ?_
      exact s_iret (pc := 70) C hr hlk dX1_supportOf_70 (congrArg (fun z => some (Value.int z)) (rt hf).1) (rt hf).2
    · replace hf := ifn h_1 hf
      refine s_aloadn (pc := 25) C dX1_supportOf_25 rfl ?_
      refine s_getR (pc := 26) (r := (11 + b0)) C fl_X1_23 (SH_plan hb0) rfl dX1_supportOf_26 ?_
      refine s_iloadn (pc := 29) C dX1_supportOf_29 rfl ?_
      obtain ⟨g_1, hf⟩ := gd hf
      refine s_aald (pc := 30) C (SH_spots hb0) (ty2 ca) g_1 dX1_supportOf_30 ?_
      refine s_getZ (pc := 31) C fl_X1_35 (SH_spot hb0 (inb_lt g_1)) rfl dX1_supportOf_31 ?_
      refine s_if_eq (pc := 34) (tgt := 63) C dX1_supportOf_34 (by decide) (fun h_2 => ?_) (fun h_2 => ?_)
      · replace hf := ifp h_2 hf
        refine s_iinc (pc := 63) (v := (v3 + 1)) (lo' := [some (.ref (ad (2 + b0))), some (.ref (ad q1)), some (.int v2), some (.int (v3 + 1))]) C dX1_supportOf_63 rfl rfl rfl ?_
        refine s_goto (pc := 66) (tgt := 16) C dX1_supportOf_66 (by decide) ?_
        refine s_few (lo' := [some (.ref (ad (2 + b0))), some (.ref (ad q1)), some (.int v2), some (.int (v3 + 1))]) (lfS (lfS (lfS (lfS lf0)))) ?_
        exact ih v2 (v3 + 1) σ hf
      · replace hf := ifn h_2 hf
        refine s_aloadn (pc := 37) C dX1_supportOf_37 rfl ?_
        refine s_aloadn (pc := 38) C dX1_supportOf_38 rfl ?_
        refine s_getR (pc := 39) (r := (11 + b0)) C fl_X1_23 (SH_plan hb0) rfl dX1_supportOf_39 ?_
        refine s_iloadn (pc := 42) C dX1_supportOf_42 rfl ?_
        obtain ⟨g_2, hf⟩ := gd hf
        refine s_aald (pc := 43) C (SH_spots hb0) (ty2 ca) g_2 dX1_supportOf_43 ?_
        obtain ⟨r_1, τ_1, e_1, hf⟩ := bnd hf
        refine s_callV (pc := 44) (rest := []) C rfl (c_X2_standsOn l D ca ad N q1 hq1 (13 + 6 * b0 + ix v3) (SH_spot hb0 (inb_lt g_2)) σ r_1 τ_1 e_1) kv_X1_99 ⟨rfl, rfl⟩ (by decide) hq1 ⟨_, rfl, rfl⟩ rfl rfl (Nat.le_of_ble_eq_true rfl) dX1_supportOf_44 ⟨Nat.zero_le _, Nat.zero_le _⟩ ?_
        refine s_st (st' := [.int r_1]) rfl ?_
        refine s_if_eq (pc := 47) (tgt := 63) C dX1_supportOf_47 (by decide) (fun h_3 => ?_) (fun h_3 => ?_)
        · replace hf := ifp h_3 hf
          refine s_iinc (pc := 63) (v := (v3 + 1)) (lo' := [some (.ref (ad (2 + b0))), some (.ref (ad q1)), some (.int v2), some (.int (v3 + 1))]) C dX1_supportOf_63 rfl rfl rfl ?_
          refine s_goto (pc := 66) (tgt := 16) C dX1_supportOf_66 (by decide) ?_
          refine s_few (lo' := [some (.ref (ad (2 + b0))), some (.ref (ad q1)), some (.int v2), some (.int (v3 + 1))]) (lfS (lfS (lfS (lfS lf0)))) ?_
          exact ih v2 (v3 + 1) τ_1 hf
        · replace hf := ifn h_3 hf
          refine s_iloadn (pc := 50) C dX1_supportOf_50 rfl ?_
          refine s_aloadn (pc := 51) C dX1_supportOf_51 rfl ?_
          refine s_aloadn (pc := 52) C dX1_supportOf_52 rfl ?_
          refine s_getR (pc := 53) (r := (11 + b0)) C fl_X1_23 (SH_plan hb0) rfl dX1_supportOf_53 ?_
          refine s_iloadn (pc := 56) C dX1_supportOf_56 rfl ?_
          obtain ⟨g_3, hf⟩ := gd hf
          refine s_aald (pc := 57) C (SH_spots hb0) (ty2 ca) g_3 dX1_supportOf_57 ?_
          obtain ⟨r_2, τ_2, e_2, hf⟩ := bnd hf
          refine s_callV (pc := 58) (rest := [.int v2]) C rfl (c_X2_commonArea l D ca ad N q1 hq1 (13 + 6 * b0 + ix v3) (SH_spot hb0 (inb_lt g_3)) τ_1 r_2 τ_2 e_2) kv_X1_102 ⟨rfl, rfl⟩ (by decide) hq1 ⟨_, rfl, rfl⟩ rfl rfl (Nat.le_of_ble_eq_true rfl) dX1_supportOf_58 ⟨Nat.zero_le _, Nat.zero_le _⟩ ?_
          refine s_st (st' := [.int r_2, .int v2]) rfl ?_
          refine s_iadd (pc := 61) C dX1_supportOf_61 ?_
          refine s_istoren (pc := 62) (lo' := [some (.ref (ad (2 + b0))), some (.ref (ad q1)), some (.int (v2 + r_2)), some (.int v3)]) C dX1_supportOf_62 (Nat.le_of_ble_eq_true rfl) rfl ?_
          refine s_iinc (pc := 63) (v := (v3 + 1)) (lo' := [some (.ref (ad (2 + b0))), some (.ref (ad q1)), some (.int (v2 + r_2)), some (.int (v3 + 1))]) C dX1_supportOf_63 rfl rfl rfl ?_
          refine s_goto (pc := 66) (tgt := 16) C dX1_supportOf_66 (by decide) ?_
          refine s_few (lo' := [some (.ref (ad (2 + b0))), some (.ref (ad q1)), some (.int (v2 + r_2)), some (.int (v3 + 1))]) (lfS (lfS (lfS (lfS lf0)))) ?_
          exact ih (v2 + r_2) (v3 + 1) τ_2 hf
def f_X1_supportOf (N : Nat) (b0 : Nat) (q1 : Nat) (σ : St) : Option (Int32 × St) :=
  if (σ q1 3) = 0 then
    bn (f_X2_area N q1 σ) fun r_1 τ_1 =>
    some (r_1, τ_1)
  else
    lp_X1_supportOf_16 N b0 q1 N 0 0 σ
set_option maxRecDepth 100000 in
set_option maxHeartbeats 4000000 in
theorem c_X1_supportOf (l : Launch) (D : va_G) (ca : Nat → ClassId) (ad : Nat → Nat) (N : Nat) (b0 : Nat) (hb0 : b0 < 2) (q1 : Nat) (hq1 : SH[q1]? = some oSpot) (σ : St) (r : Int32) (τ : St) (hf : f_X1_supportOf N b0 q1 σ = some (r, τ)) : cM l yX1_supportOf (.code yX1_supportOf cX1_supportOf 4 (some .int)) (rmk 2) D ca ad SH [.ref (ad (2 + b0)), .ref (ad q1)] σ (some (.int r)) τ := by
  refine cM.intro2 (own := RX1) (lo := [some (.ref (ad (2 + b0))), some (.ref (ad q1)), none, none]) (by decide) rfl (ccR (ccR cc0)) (Nat.le_of_ble_eq_true rfl) rfl ?_
  intro p e s m args below meth c A C hr hlk
  unfold f_X1_supportOf at hf
  refine s_aloadn (pc := 0) C dX1_supportOf_0 rfl ?_
  refine s_getI (pc := 1) C fl_X1_72 hq1 rfl dX1_supportOf_1 ?_
  refine s_if_ne (pc := 4) (tgt := 12) C dX1_supportOf_4 (by decide) (fun h_1 => ?_) (fun h_1 => ?_)
  · replace hf := ifn h_1 hf
    refine s_iconst (pc := 12) (v := 0) C dX1_supportOf_12 (by decide) ?_
    refine s_istoren (pc := 13) (lo' := [some (.ref (ad (2 + b0))), some (.ref (ad q1)), some (.int 0), none]) C dX1_supportOf_13 (Nat.le_of_ble_eq_true rfl) rfl ?_
    refine s_iconst (pc := 14) (v := 0) C dX1_supportOf_14 (by decide) ?_
    refine s_istoren (pc := 15) (lo' := [some (.ref (ad (2 + b0))), some (.ref (ad q1)), some (.int 0), some (.int 0)]) C dX1_supportOf_15 (Nat.le_of_ble_eq_true rfl) rfl ?_
    refine s_few (lo' := [some (.ref (ad (2 + b0))), some (.ref (ad q1)), some (.int 0), some (.int 0)]) (lfS (lfS (lfS (lfS lf0)))) ?_
    exact w_X1_supportOf_16 C hr hlk N b0 hb0 q1 hq1 r τ  N 0 0 σ hf
  · replace hf := ifp h_1 hf
    refine s_aloadn (pc := 7) C dX1_supportOf_7 rfl ?_
    obtain ⟨r_1, τ_1, e_1, hf⟩ := bnd hf
    refine s_callV (pc := 8) (rest := []) C rfl (c_X2_area l D ca ad N q1 hq1 σ r_1 τ_1 e_1) kv_X1_89 ⟨rfl, rfl⟩ (by decide) hq1 ⟨_, rfl, rfl⟩ rfl rfl (Nat.le_of_ble_eq_true rfl) dX1_supportOf_8 ⟨Nat.zero_le _, Nat.zero_le _⟩ ?_
    refine s_st (st' := [.int r_1]) rfl ?_
    exact s_iret (pc := 11) C hr hlk dX1_supportOf_11 (congrArg (fun z => some (Value.int z)) (rt hf).1) (rt hf).2
def lp_X1_hasRoomFor_2 (N : Nat) (b0 : Nat) (q1 : Nat) : Nat → Int32 → St → Option (Int32 × St)
  | 0, _, _ => none
  | n + 1, v2, σ =>
    if 6 ≤ v2 then
      some (1, σ)
    else
      if inb v2 6 = true then
      if (σ (13 + 6 * b0 + ix v2) 0 &&& 1) = 0 then
        lp_X1_hasRoomFor_2 N b0 q1  n (v2 + 1) σ
      else
        if inb v2 6 = true then
        if (13 + 6 * b0 + ix v2) = q1 then
          lp_X1_hasRoomFor_2 N b0 q1  n (v2 + 1) σ
        else
          if inb v2 6 = true then
          bn (f_X2_meets N (13 + 6 * b0 + ix v2) q1 σ) fun r_1 τ_1 =>
          if r_1 = 0 then
            lp_X1_hasRoomFor_2 N b0 q1  n (v2 + 1) τ_1
          else
            some (0, τ_1)
          else none
        else none
      else none
set_option maxRecDepth 100000 in
set_option maxHeartbeats 4000000 in
theorem w_X1_hasRoomFor_2 {l : Launch} {D : va_G} {ca : Nat → ClassId} {ad : Nat → Nat} {p : Program} {e : Env} {s : State} {m : MethodId} {args : Array Value} {below : List Frame} {meth : Method} {c : Code} {A : Nat → Prop} (C : CX p s m args c D ca A RX1 cX1_hasRoomFor 3) (hr : meth.sig.returnType = (some .boolean)) (hlk : meth.locks = false) (N : Nat) (b0 : Nat) (hb0 : b0 < 2) (q1 : Nat) (hq1 : SH[q1]? = some oSpot) (r : Int32) (τ : St)  : ∀ (n : Nat) (v2 : Int32) (σ : St), lp_X1_hasRoomFor_2 N b0 q1  n v2 σ = some (r, τ) → WW p l e (rmk 2) s m args below meth c 0 0 (EQ D ca ad SH A below args s (some (.int r)) τ) A D ca ad SH 2 [some (.ref (ad (2 + b0))), some (.ref (ad q1)), some (.int v2)] [] σ := by
  intro n
  induction n with
  | zero => intro v2 σ hf; cases hf
  | succ n ih =>
    intro v2 σ hf
    rw [lp_X1_hasRoomFor_2] at hf
    refine s_iloadn (pc := 2) C dX1_hasRoomFor_2 rfl ?_
    refine s_aloadn (pc := 3) C dX1_hasRoomFor_3 rfl ?_
    refine s_getR (pc := 4) (r := (11 + b0)) C fl_X1_23 (SH_plan hb0) rfl dX1_hasRoomFor_4 ?_
    refine s_alenI (pc := 7) (v := 6) C (SH_spots hb0) (ty2 ca) (by decide) dX1_hasRoomFor_7 ?_
    refine s_icmp_ge (pc := 8) (tgt := 54) C dX1_hasRoomFor_8 (by decide) (fun h_1 => ?_) (fun h_1 => ?_)
    · replace hf := ifp h_1 hf
      refine s_iconst (pc := 54) (v := 1) C dX1_hasRoomFor_54 (by decide) ?_
      exact s_zret (pc := 55) C hr hlk dX1_hasRoomFor_55 (by decide) (congrArg (fun z => some (Value.int z)) (rt hf).1) (rt hf).2
    · replace hf := ifn h_1 hf
      refine s_aloadn (pc := 11) C dX1_hasRoomFor_11 rfl ?_
      refine s_getR (pc := 12) (r := (11 + b0)) C fl_X1_23 (SH_plan hb0) rfl dX1_hasRoomFor_12 ?_
      refine s_iloadn (pc := 15) C dX1_hasRoomFor_15 rfl ?_
      obtain ⟨g_1, hf⟩ := gd hf
      refine s_aald (pc := 16) C (SH_spots hb0) (ty2 ca) g_1 dX1_hasRoomFor_16 ?_
      refine s_getZ (pc := 17) C fl_X1_35 (SH_spot hb0 (inb_lt g_1)) rfl dX1_hasRoomFor_17 ?_
      refine s_if_eq (pc := 20) (tgt := 48) C dX1_hasRoomFor_20 (by decide) (fun h_2 => ?_) (fun h_2 => ?_)
      · replace hf := ifp h_2 hf
        refine s_iinc (pc := 48) (v := (v2 + 1)) (lo' := [some (.ref (ad (2 + b0))), some (.ref (ad q1)), some (.int (v2 + 1))]) C dX1_hasRoomFor_48 rfl rfl rfl ?_
        refine s_goto (pc := 51) (tgt := 2) C dX1_hasRoomFor_51 (by decide) ?_
        refine s_few (lo' := [some (.ref (ad (2 + b0))), some (.ref (ad q1)), some (.int (v2 + 1))]) (lfS (lfS (lfS lf0))) ?_
        exact ih (v2 + 1) σ hf
      · replace hf := ifn h_2 hf
        refine s_aloadn (pc := 23) C dX1_hasRoomFor_23 rfl ?_
        refine s_getR (pc := 24) (r := (11 + b0)) C fl_X1_23 (SH_plan hb0) rfl dX1_hasRoomFor_24 ?_
        refine s_iloadn (pc := 27) C dX1_hasRoomFor_27 rfl ?_
        obtain ⟨g_2, hf⟩ := gd hf
        refine s_aald (pc := 28) C (SH_spots hb0) (ty2 ca) g_2 dX1_hasRoomFor_28 ?_
        refine s_aloadn (pc := 29) C dX1_hasRoomFor_29 rfl ?_
        refine s_acmp_eq (pc := 30) (tgt := 48) C (SH_spot hb0 (inb_lt g_2)) hq1 dX1_hasRoomFor_30 (by decide) (fun h_3 => ?_) (fun h_3 => ?_)
        · replace hf := ifp h_3 hf
          refine s_iinc (pc := 48) (v := (v2 + 1)) (lo' := [some (.ref (ad (2 + b0))), some (.ref (ad q1)), some (.int (v2 + 1))]) C dX1_hasRoomFor_48 rfl rfl rfl ?_
          refine s_goto (pc := 51) (tgt := 2) C dX1_hasRoomFor_51 (by decide) ?_
          refine s_few (lo' := [some (.ref (ad (2 + b0))), some (.ref (ad q1)), some (.int (v2 + 1))]) (lfS (lfS (lfS lf0))) ?_
          exact ih (v2 + 1) σ hf
        · replace hf := ifn h_3 hf
          refine s_aloadn (pc := 33) C dX1_hasRoomFor_33 rfl ?_
          refine s_getR (pc := 34) (r := (11 + b0)) C fl_X1_23 (SH_plan hb0) rfl dX1_hasRoomFor_34 ?_
          refine s_iloadn (pc := 37) C dX1_hasRoomFor_37 rfl ?_
          obtain ⟨g_3, hf⟩ := gd hf
          refine s_aald (pc := 38) C (SH_spots hb0) (ty2 ca) g_3 dX1_hasRoomFor_38 ?_
          refine s_aloadn (pc := 39) C dX1_hasRoomFor_39 rfl ?_
          obtain ⟨r_1, τ_1, e_1, hf⟩ := bnd hf
          refine s_callV (pc := 40) (rest := []) C rfl (c_X2_meets l D ca ad N (13 + 6 * b0 + ix v2) (SH_spot hb0 (inb_lt g_3)) q1 hq1 σ r_1 τ_1 e_1) kv_X1_96 ⟨rfl, rfl⟩ (by decide) (SH_spot hb0 (inb_lt g_3)) ⟨_, rfl, rfl⟩ rfl rfl (Nat.le_of_ble_eq_true rfl) dX1_hasRoomFor_40 ⟨Nat.zero_le _, Nat.zero_le _⟩ ?_
          refine s_st (st' := [.int r_1]) rfl ?_
          refine s_if_eq (pc := 43) (tgt := 48) C dX1_hasRoomFor_43 (by decide) (fun h_4 => ?_) (fun h_4 => ?_)
          · replace hf := ifp h_4 hf
            refine s_iinc (pc := 48) (v := (v2 + 1)) (lo' := [some (.ref (ad (2 + b0))), some (.ref (ad q1)), some (.int (v2 + 1))]) C dX1_hasRoomFor_48 rfl rfl rfl ?_
            refine s_goto (pc := 51) (tgt := 2) C dX1_hasRoomFor_51 (by decide) ?_
            refine s_few (lo' := [some (.ref (ad (2 + b0))), some (.ref (ad q1)), some (.int (v2 + 1))]) (lfS (lfS (lfS lf0))) ?_
            exact ih (v2 + 1) τ_1 hf
          · replace hf := ifn h_4 hf
            refine s_iconst (pc := 46) (v := 0) C dX1_hasRoomFor_46 (by decide) ?_
            exact s_zret (pc := 47) C hr hlk dX1_hasRoomFor_47 (by decide) (congrArg (fun z => some (Value.int z)) (rt hf).1) (rt hf).2
def f_X1_hasRoomFor (N : Nat) (b0 : Nat) (q1 : Nat) (σ : St) : Option (Int32 × St) :=
  lp_X1_hasRoomFor_2 N b0 q1 N 0 σ
set_option maxRecDepth 100000 in
set_option maxHeartbeats 4000000 in
theorem c_X1_hasRoomFor (l : Launch) (D : va_G) (ca : Nat → ClassId) (ad : Nat → Nat) (N : Nat) (b0 : Nat) (hb0 : b0 < 2) (q1 : Nat) (hq1 : SH[q1]? = some oSpot) (σ : St) (r : Int32) (τ : St) (hf : f_X1_hasRoomFor N b0 q1 σ = some (r, τ)) : cM l yX1_hasRoomFor (.code yX1_hasRoomFor cX1_hasRoomFor 3 (some .boolean)) (rmk 2) D ca ad SH [.ref (ad (2 + b0)), .ref (ad q1)] σ (some (.int r)) τ := by
  refine cM.intro2 (own := RX1) (lo := [some (.ref (ad (2 + b0))), some (.ref (ad q1)), none]) (by decide) rfl (ccR (ccR cc0)) (Nat.le_of_ble_eq_true rfl) rfl ?_
  intro p e s m args below meth c A C hr hlk
  unfold f_X1_hasRoomFor at hf
  refine s_iconst (pc := 0) (v := 0) C dX1_hasRoomFor_0 (by decide) ?_
  refine s_istoren (pc := 1) (lo' := [some (.ref (ad (2 + b0))), some (.ref (ad q1)), some (.int 0)]) C dX1_hasRoomFor_1 (Nat.le_of_ble_eq_true rfl) rfl ?_
  refine s_few (lo' := [some (.ref (ad (2 + b0))), some (.ref (ad q1)), some (.int 0)]) (lfS (lfS (lfS lf0))) ?_
  exact w_X1_hasRoomFor_2 C hr hlk N b0 hb0 q1 hq1 r τ  N 0 σ hf
def lp_X1_noteStanders_23 (N : Nat) (b0 : Nat) (k2 : Int32 → St → Option (St)) : Nat → Int32 → Int32 → St → Option (St)
  | 0, _, _, _ => none
  | n + 1, v1, v2, σ =>
    if 6 ≤ v2 then
      k2 (v1 + 1) σ
    else
      if inb v1 6 = true then
      if (σ (13 + 6 * b0 + ix v1) 0 &&& 1) = 0 then
        k2 (v1 + 1) σ
      else
        if inb v2 6 = true then
        if (σ (13 + 6 * b0 + ix v2) 0 &&& 1) = 0 then
          lp_X1_noteStanders_23 N b0 k2 n v1 (v2 + 1) σ
        else
          if inb v2 6 = true then
          if inb v1 6 = true then
          bn (f_X2_standsOn N (13 + 6 * b0 + ix v2) (13 + 6 * b0 + ix v1) σ) fun r_1 τ_1 =>
          if r_1 = 0 then
            lp_X1_noteStanders_23 N b0 k2 n v1 (v2 + 1) τ_1
          else
            if inb v1 6 = true then
            lp_X1_noteStanders_23 N b0 k2 n v1 (v2 + 1) (su τ_1 (13 + 6 * b0 + ix v1) 10 ((τ_1 (13 + 6 * b0 + ix v1) 10) ||| (1 <<< (v2 &&& 31))))
            else none
          else none
          else none
        else none
      else none
set_option maxRecDepth 100000 in
set_option maxHeartbeats 4000000 in
theorem w_X1_noteStanders_23 {l : Launch} {D : va_G} {ca : Nat → ClassId} {ad : Nat → Nat} {p : Program} {e : Env} {s : State} {m : MethodId} {args : Array Value} {below : List Frame} {meth : Method} {c : Code} {A : Nat → Prop} (C : CX p s m args c D ca A RX1 cX1_noteStanders 3) (hr : meth.sig.returnType = none) (hlk : meth.locks = false) (N : Nat) (b0 : Nat) (hb0 : b0 < 2) (τ : St) (k2 : Int32 → St → Option (St))  (hk2 : ∀ (w1 : Int32) (σ : St), k2 w1 σ = some τ → WW p l e (rmk 2) s m args below meth c 0 0 (EQ D ca ad SH A below args s none τ) A D ca ad SH 2 [some (.ref (ad (2 + b0))), some (.int w1), none] [] σ) : ∀ (n : Nat) (v1 v2 : Int32) (σ : St), lp_X1_noteStanders_23 N b0 k2 n v1 v2 σ = some τ → WW p l e (rmk 2) s m args below meth c 0 0 (EQ D ca ad SH A below args s none τ) A D ca ad SH 23 [some (.ref (ad (2 + b0))), some (.int v1), some (.int v2)] [] σ := by
  intro n
  induction n with
  | zero => intro v1 v2 σ hf; cases hf
  | succ n ih =>
    intro v1 v2 σ hf
    rw [lp_X1_noteStanders_23] at hf
    refine s_iloadn (pc := 23) C dX1_noteStanders_23 rfl ?_
    refine s_aloadn (pc := 24) C dX1_noteStanders_24 rfl ?_
    refine s_getR (pc := 25) (r := (11 + b0)) C fl_X1_23 (SH_plan hb0) rfl dX1_noteStanders_25 ?_
    refine s_alenI (pc := 28) (v := 6) C (SH_spots hb0) (ty2 ca) (by decide) dX1_noteStanders_28 ?_
    refine s_icmp_ge (pc := 29) (tgt := 97) C dX1_noteStanders_29 (by decide) (fun h_1 => ?_) (fun h_1 => ?_)
    · replace hf := ifp h_1 hf
      refine s_iinc (pc := 97) (v := (v1 + 1)) (lo' := [some (.ref (ad (2 + b0))), some (.int (v1 + 1)), some (.int v2)]) C dX1_noteStanders_97 rfl rfl rfl ?_
      refine s_goto (pc := 100) (tgt := 2) C dX1_noteStanders_100 (by decide) ?_
      refine s_few (lo' := [some (.ref (ad (2 + b0))), some (.int (v1 + 1)), none]) (lfS (lfS (lfN lf0))) ?_
      exact hk2 (v1 + 1) σ hf
    · replace hf := ifn h_1 hf
      refine s_aloadn (pc := 32) C dX1_noteStanders_32 rfl ?_
      refine s_getR (pc := 33) (r := (11 + b0)) C fl_X1_23 (SH_plan hb0) rfl dX1_noteStanders_33 ?_
      refine s_iloadn (pc := 36) C dX1_noteStanders_36 rfl ?_
      obtain ⟨g_1, hf⟩ := gd hf
      refine s_aald (pc := 37) C (SH_spots hb0) (ty2 ca) g_1 dX1_noteStanders_37 ?_
      refine s_getZ (pc := 38) C fl_X1_35 (SH_spot hb0 (inb_lt g_1)) rfl dX1_noteStanders_38 ?_
      refine s_if_eq (pc := 41) (tgt := 97) C dX1_noteStanders_41 (by decide) (fun h_2 => ?_) (fun h_2 => ?_)
      · replace hf := ifp h_2 hf
        refine s_iinc (pc := 97) (v := (v1 + 1)) (lo' := [some (.ref (ad (2 + b0))), some (.int (v1 + 1)), some (.int v2)]) C dX1_noteStanders_97 rfl rfl rfl ?_
        refine s_goto (pc := 100) (tgt := 2) C dX1_noteStanders_100 (by decide) ?_
        refine s_few (lo' := [some (.ref (ad (2 + b0))), some (.int (v1 + 1)), none]) (lfS (lfS (lfN lf0))) ?_
        exact hk2 (v1 + 1) σ hf
      · replace hf := ifn h_2 hf
        refine s_aloadn (pc := 44) C dX1_noteStanders_44 rfl ?_
        refine s_getR (pc := 45) (r := (11 + b0)) C fl_X1_23 (SH_plan hb0) rfl dX1_noteStanders_45 ?_
        refine s_iloadn (pc := 48) C dX1_noteStanders_48 rfl ?_
        obtain ⟨g_2, hf⟩ := gd hf
        refine s_aald (pc := 49) C (SH_spots hb0) (ty2 ca) g_2 dX1_noteStanders_49 ?_
        refine s_getZ (pc := 50) C fl_X1_35 (SH_spot hb0 (inb_lt g_2)) rfl dX1_noteStanders_50 ?_
        refine s_if_eq (pc := 53) (tgt := 91) C dX1_noteStanders_53 (by decide) (fun h_3 => ?_) (fun h_3 => ?_)
        · replace hf := ifp h_3 hf
          refine s_iinc (pc := 91) (v := (v2 + 1)) (lo' := [some (.ref (ad (2 + b0))), some (.int v1), some (.int (v2 + 1))]) C dX1_noteStanders_91 rfl rfl rfl ?_
          refine s_goto (pc := 94) (tgt := 23) C dX1_noteStanders_94 (by decide) ?_
          refine s_few (lo' := [some (.ref (ad (2 + b0))), some (.int v1), some (.int (v2 + 1))]) (lfS (lfS (lfS lf0))) ?_
          exact ih v1 (v2 + 1) σ hf
        · replace hf := ifn h_3 hf
          refine s_aloadn (pc := 56) C dX1_noteStanders_56 rfl ?_
          refine s_getR (pc := 57) (r := (11 + b0)) C fl_X1_23 (SH_plan hb0) rfl dX1_noteStanders_57 ?_
          refine s_iloadn (pc := 60) C dX1_noteStanders_60 rfl ?_
          obtain ⟨g_3, hf⟩ := gd hf
          refine s_aald (pc := 61) C (SH_spots hb0) (ty2 ca) g_3 dX1_noteStanders_61 ?_
          refine s_aloadn (pc := 62) C dX1_noteStanders_62 rfl ?_
          refine s_getR (pc := 63) (r := (11 + b0)) C fl_X1_23 (SH_plan hb0) rfl dX1_noteStanders_63 ?_
          refine s_iloadn (pc := 66) C dX1_noteStanders_66 rfl ?_
          obtain ⟨g_4, hf⟩ := gd hf
          refine s_aald (pc := 67) C (SH_spots hb0) (ty2 ca) g_4 dX1_noteStanders_67 ?_
          obtain ⟨r_1, τ_1, e_1, hf⟩ := bnd hf
          refine s_callV (pc := 68) (rest := []) C rfl (c_X2_standsOn l D ca ad N (13 + 6 * b0 + ix v2) (SH_spot hb0 (inb_lt g_3)) (13 + 6 * b0 + ix v1) (SH_spot hb0 (inb_lt g_4)) σ r_1 τ_1 e_1) kv_X1_99 ⟨rfl, rfl⟩ (by decide) (SH_spot hb0 (inb_lt g_3)) ⟨_, rfl, rfl⟩ rfl rfl (Nat.le_of_ble_eq_true rfl) dX1_noteStanders_68 ⟨Nat.zero_le _, Nat.zero_le _⟩ ?_
          refine s_st (st' := [.int r_1]) rfl ?_
          refine s_if_eq (pc := 71) (tgt := 91) C dX1_noteStanders_71 (by decide) (fun h_4 => ?_) (fun h_4 => ?_)
          · replace hf := ifp h_4 hf
            refine s_iinc (pc := 91) (v := (v2 + 1)) (lo' := [some (.ref (ad (2 + b0))), some (.int v1), some (.int (v2 + 1))]) C dX1_noteStanders_91 rfl rfl rfl ?_
            refine s_goto (pc := 94) (tgt := 23) C dX1_noteStanders_94 (by decide) ?_
            refine s_few (lo' := [some (.ref (ad (2 + b0))), some (.int v1), some (.int (v2 + 1))]) (lfS (lfS (lfS lf0))) ?_
            exact ih v1 (v2 + 1) τ_1 hf
          · replace hf := ifn h_4 hf
            refine s_aloadn (pc := 74) C dX1_noteStanders_74 rfl ?_
            refine s_getR (pc := 75) (r := (11 + b0)) C fl_X1_23 (SH_plan hb0) rfl dX1_noteStanders_75 ?_
            refine s_iloadn (pc := 78) C dX1_noteStanders_78 rfl ?_
            obtain ⟨g_5, hf⟩ := gd hf
            refine s_aald (pc := 79) C (SH_spots hb0) (ty2 ca) g_5 dX1_noteStanders_79 ?_
            refine s_dup (pc := 80) C dX1_noteStanders_80 rfl ?_
            refine s_getI (pc := 81) C fl_X1_114 (SH_spot hb0 (inb_lt g_5)) rfl dX1_noteStanders_81 ?_
            refine s_iconst (pc := 84) (v := 1) C dX1_noteStanders_84 (by decide) ?_
            refine s_iloadn (pc := 85) C dX1_noteStanders_85 rfl ?_
            refine s_ishl (pc := 86) C dX1_noteStanders_86 ?_
            refine s_ior (pc := 87) C dX1_noteStanders_87 ?_
            refine s_putI (pc := 88) C fp_X1_114 (SH_spot hb0 (inb_lt g_5)) rfl dX1_noteStanders_88 ?_
            refine s_iinc (pc := 91) (v := (v2 + 1)) (lo' := [some (.ref (ad (2 + b0))), some (.int v1), some (.int (v2 + 1))]) C dX1_noteStanders_91 rfl rfl rfl ?_
            refine s_goto (pc := 94) (tgt := 23) C dX1_noteStanders_94 (by decide) ?_
            refine s_few (lo' := [some (.ref (ad (2 + b0))), some (.int v1), some (.int (v2 + 1))]) (lfS (lfS (lfS lf0))) ?_
            exact ih v1 (v2 + 1) (su τ_1 (13 + 6 * b0 + ix v1) 10 ((τ_1 (13 + 6 * b0 + ix v1) 10) ||| (1 <<< (v2 &&& 31)))) hf
def lp_X1_noteStanders_2 (N : Nat) (b0 : Nat) : Nat → Int32 → St → Option (St)
  | 0, _, _ => none
  | n + 1, v1, σ =>
    if 6 ≤ v1 then
      some σ
    else
      if inb v1 6 = true then
      lp_X1_noteStanders_23 N b0 (fun w1 σ => lp_X1_noteStanders_2 N b0  n w1 σ) N v1 0 (su σ (13 + 6 * b0 + ix v1) 10 0)
      else none
set_option maxRecDepth 100000 in
set_option maxHeartbeats 4000000 in
theorem w_X1_noteStanders_2 {l : Launch} {D : va_G} {ca : Nat → ClassId} {ad : Nat → Nat} {p : Program} {e : Env} {s : State} {m : MethodId} {args : Array Value} {below : List Frame} {meth : Method} {c : Code} {A : Nat → Prop} (C : CX p s m args c D ca A RX1 cX1_noteStanders 3) (hr : meth.sig.returnType = none) (hlk : meth.locks = false) (N : Nat) (b0 : Nat) (hb0 : b0 < 2) (τ : St)  : ∀ (n : Nat) (v1 : Int32) (σ : St), lp_X1_noteStanders_2 N b0  n v1 σ = some τ → WW p l e (rmk 2) s m args below meth c 0 0 (EQ D ca ad SH A below args s none τ) A D ca ad SH 2 [some (.ref (ad (2 + b0))), some (.int v1), none] [] σ := by
  intro n
  induction n with
  | zero => intro v1 σ hf; cases hf
  | succ n ih =>
    intro v1 σ hf
    rw [lp_X1_noteStanders_2] at hf
    refine s_iloadn (pc := 2) C dX1_noteStanders_2 rfl ?_
    refine s_aloadn (pc := 3) C dX1_noteStanders_3 rfl ?_
    refine s_getR (pc := 4) (r := (11 + b0)) C fl_X1_23 (SH_plan hb0) rfl dX1_noteStanders_4 ?_
    refine s_alenI (pc := 7) (v := 6) C (SH_spots hb0) (ty2 ca) (by decide) dX1_noteStanders_7 ?_
    refine s_icmp_ge (pc := 8) (tgt := 103) C dX1_noteStanders_8 (by decide) (fun h_1 => ?_) (fun h_1 => ?_)
    · replace hf := ifp h_1 hf
      exact s_vret (pc := 103) C hr hlk dX1_noteStanders_103 rfl (rtv hf)
    · replace hf := ifn h_1 hf
      refine s_aloadn (pc := 11) C dX1_noteStanders_11 rfl ?_
      refine s_getR (pc := 12) (r := (11 + b0)) C fl_X1_23 (SH_plan hb0) rfl dX1_noteStanders_12 ?_
      refine s_iloadn (pc := 15) C dX1_noteStanders_15 rfl ?_
      obtain ⟨g_1, hf⟩ := gd hf
      refine s_aald (pc := 16) C (SH_spots hb0) (ty2 ca) g_1 dX1_noteStanders_16 ?_
      refine s_iconst (pc := 17) (v := 0) C dX1_noteStanders_17 (by decide) ?_
      refine s_putI (pc := 18) C fp_X1_114 (SH_spot hb0 (inb_lt g_1)) rfl dX1_noteStanders_18 ?_
      refine s_iconst (pc := 21) (v := 0) C dX1_noteStanders_21 (by decide) ?_
      refine s_istoren (pc := 22) (lo' := [some (.ref (ad (2 + b0))), some (.int v1), some (.int 0)]) C dX1_noteStanders_22 (Nat.le_of_ble_eq_true rfl) rfl ?_
      refine s_few (lo' := [some (.ref (ad (2 + b0))), some (.int v1), some (.int 0)]) (lfS (lfS (lfS lf0))) ?_
      exact w_X1_noteStanders_23 C hr hlk N b0 hb0 τ (fun w1 σ => lp_X1_noteStanders_2 N b0  n w1 σ) (fun w1 σ h => ih w1 σ h) N v1 0 (su σ (13 + 6 * b0 + ix v1) 10 0) hf
def f_X1_noteStanders (N : Nat) (b0 : Nat) (σ : St) : Option (St) :=
  lp_X1_noteStanders_2 N b0 N 0 σ
set_option maxRecDepth 100000 in
set_option maxHeartbeats 4000000 in
theorem c_X1_noteStanders (l : Launch) (D : va_G) (ca : Nat → ClassId) (ad : Nat → Nat) (N : Nat) (b0 : Nat) (hb0 : b0 < 2) (σ : St) (τ : St) (hf : f_X1_noteStanders N b0 σ = some τ) : cM l yX1_noteStanders (.code yX1_noteStanders cX1_noteStanders 3 none) (rmk 2) D ca ad SH [.ref (ad (2 + b0))] σ none τ := by
  refine cM.intro2 (own := RX1) (lo := [some (.ref (ad (2 + b0))), none, none]) (by decide) rfl (ccR cc0) (Nat.le_of_ble_eq_true rfl) rfl ?_
  intro p e s m args below meth c A C hr hlk
  unfold f_X1_noteStanders at hf
  refine s_iconst (pc := 0) (v := 0) C dX1_noteStanders_0 (by decide) ?_
  refine s_istoren (pc := 1) (lo' := [some (.ref (ad (2 + b0))), some (.int 0), none]) C dX1_noteStanders_1 (Nat.le_of_ble_eq_true rfl) rfl ?_
  refine s_few (lo' := [some (.ref (ad (2 + b0))), some (.int 0), none]) (lfS (lfS (lfN lf0))) ?_
  exact w_X1_noteStanders_2 C hr hlk N b0 hb0 τ  N 0 σ hf
def lp_X1_weightOn_80 (N : Nat) (b0 : Nat) (q1 : Nat) : Nat → Int32 → Int32 → Int32 → Int32 → St → Option (Int32 × St)
  | 0, _, _, _, _, _ => none
  | n + 1, v2, v3, v4, v5, σ =>
    if 6 ≤ v5 then
      some (v4, σ)
    else
      bn (f_X3_isIn N v2 v5 σ) fun r_1 τ_1 =>
      if r_1 = 0 then
        lp_X1_weightOn_80 N b0 q1  n v2 v3 v4 (v5 + 1) τ_1
      else
        if inb v5 6 = true then
        lp_X1_weightOn_80 N b0 q1  n v2 v3 (v4 + (τ_1 (13 + 6 * b0 + ix v5) 8)) (v5 + 1) τ_1
        else none
set_option maxRecDepth 100000 in
set_option maxHeartbeats 4000000 in
theorem w_X1_weightOn_80 {l : Launch} {D : va_G} {ca : Nat → ClassId} {ad : Nat → Nat} {p : Program} {e : Env} {s : State} {m : MethodId} {args : Array Value} {below : List Frame} {meth : Method} {c : Code} {A : Nat → Prop} (C : CX p s m args c D ca A RX1 cX1_weightOn 6) (hr : meth.sig.returnType = (some .int)) (hlk : meth.locks = false) (N : Nat) (b0 : Nat) (hb0 : b0 < 2) (q1 : Nat) (hq1 : SH[q1]? = some oSpot) (r : Int32) (τ : St)  : ∀ (n : Nat) (v2 v3 v4 v5 : Int32) (σ : St), lp_X1_weightOn_80 N b0 q1  n v2 v3 v4 v5 σ = some (r, τ) → WW p l e (rmk 1) s m args below meth c 0 0 (EQ D ca ad SH A below args s (some (.int r)) τ) A D ca ad SH 80 [some (.ref (ad (2 + b0))), some (.ref (ad q1)), some (.int v2), some (.int v3), some (.int v4), some (.int v5)] [] σ := by
  intro n
  induction n with
  | zero => intro v2 v3 v4 v5 σ hf; cases hf
  | succ n ih =>
    intro v2 v3 v4 v5 σ hf
    rw [lp_X1_weightOn_80] at hf
    refine s_iload (pc := 80) C dX1_weightOn_80 rfl ?_
    refine s_aloadn (pc := 82) C dX1_weightOn_82 rfl ?_
    refine s_getR (pc := 83) (r := (11 + b0)) C fl_X1_23 (SH_plan hb0) rfl dX1_weightOn_83 ?_
    refine s_alenI (pc := 86) (v := 6) C (SH_spots hb0) (ty2 ca) (by decide) dX1_weightOn_86 ?_
    refine s_icmp_ge (pc := 87) (tgt := 120) C dX1_weightOn_87 (by decide) (fun h_1 => ?_) (fun h_1 => ?_)
    · replace hf := ifp h_1 hf
      refine s_iload (pc := 120) C dX1_weightOn_120 rfl ?_
      exact s_iret (pc := 122) C hr hlk dX1_weightOn_122 (congrArg (fun z => some (Value.int z)) (rt hf).1) (rt hf).2
    · replace hf := ifn h_1 hf
      refine s_iloadn (pc := 90) C dX1_weightOn_90 rfl ?_
      refine s_iload (pc := 91) C dX1_weightOn_91 rfl ?_
      obtain ⟨r_1, τ_1, e_1, hf⟩ := bnd hf
      refine s_callN (pc := 93) (rest := []) C rfl (c_X3_isIn l D ca ad N v2 v5 σ r_1 τ_1 e_1) kn_X1_117 ⟨rfl, rfl⟩ (by decide) rfl rfl (Nat.le_of_ble_eq_true rfl) dX1_weightOn_93 ⟨Nat.zero_le _, Nat.zero_le _⟩ ?_
      refine s_st (st' := [.int r_1]) rfl ?_
      refine s_if_eq (pc := 96) (tgt := 114) C dX1_weightOn_96 (by decide) (fun h_2 => ?_) (fun h_2 => ?_)
      · replace hf := ifp h_2 hf
        refine s_iinc (pc := 114) (v := (v5 + 1)) (lo' := [some (.ref (ad (2 + b0))), some (.ref (ad q1)), some (.int v2), some (.int v3), some (.int v4), some (.int (v5 + 1))]) C dX1_weightOn_114 rfl rfl rfl ?_
        refine s_goto (pc := 117) (tgt := 80) C dX1_weightOn_117 (by decide) ?_
        refine s_few (lo' := [some (.ref (ad (2 + b0))), some (.ref (ad q1)), some (.int v2), some (.int v3), some (.int v4), some (.int (v5 + 1))]) (lfS (lfS (lfS (lfS (lfS (lfS lf0)))))) ?_
        exact ih v2 v3 v4 (v5 + 1) τ_1 hf
      · replace hf := ifn h_2 hf
        refine s_iload (pc := 99) C dX1_weightOn_99 rfl ?_
        refine s_aloadn (pc := 101) C dX1_weightOn_101 rfl ?_
        refine s_getR (pc := 102) (r := (11 + b0)) C fl_X1_23 (SH_plan hb0) rfl dX1_weightOn_102 ?_
        refine s_iload (pc := 105) C dX1_weightOn_105 rfl ?_
        obtain ⟨g_1, hf⟩ := gd hf
        refine s_aald (pc := 107) C (SH_spots hb0) (ty2 ca) g_1 dX1_weightOn_107 ?_
        refine s_getI (pc := 108) C fl_X1_47 (SH_spot hb0 (inb_lt g_1)) rfl dX1_weightOn_108 ?_
        refine s_iadd (pc := 111) C dX1_weightOn_111 ?_
        refine s_istore (pc := 112) (lo' := [some (.ref (ad (2 + b0))), some (.ref (ad q1)), some (.int v2), some (.int v3), some (.int (v4 + (τ_1 (13 + 6 * b0 + ix v5) 8))), some (.int v5)]) C dX1_weightOn_112 (Nat.le_of_ble_eq_true rfl) rfl ?_
        refine s_iinc (pc := 114) (v := (v5 + 1)) (lo' := [some (.ref (ad (2 + b0))), some (.ref (ad q1)), some (.int v2), some (.int v3), some (.int (v4 + (τ_1 (13 + 6 * b0 + ix v5) 8))), some (.int (v5 + 1))]) C dX1_weightOn_114 rfl rfl rfl ?_
        refine s_goto (pc := 117) (tgt := 80) C dX1_weightOn_117 (by decide) ?_
        refine s_few (lo' := [some (.ref (ad (2 + b0))), some (.ref (ad q1)), some (.int v2), some (.int v3), some (.int (v4 + (τ_1 (13 + 6 * b0 + ix v5) 8))), some (.int (v5 + 1))]) (lfS (lfS (lfS (lfS (lfS (lfS lf0)))))) ?_
        exact ih v2 v3 (v4 + (τ_1 (13 + 6 * b0 + ix v5) 8)) (v5 + 1) τ_1 hf
def lp_X1_weightOn_30 (N : Nat) (b0 : Nat) (q1 : Nat) (k10 : Int32 → Int32 → Int32 → St → Option (Int32 × St)) : Nat → Int32 → Int32 → Int32 → Int32 → St → Option (Int32 × St)
  | 0, _, _, _, _, _ => none
  | n + 1, v2, v3, v4, v5, σ =>
    if 6 ≤ v5 then
      k10 v2 v3 (v4 + 1) σ
    else
      bn (f_X3_isIn N v2 v5 σ) fun r_1 τ_1 =>
      if r_1 = 0 then
        lp_X1_weightOn_30 N b0 q1 k10 n v2 v3 v4 (v5 + 1) τ_1
      else
        if inb v5 6 = true then
        lp_X1_weightOn_30 N b0 q1 k10 n (v2 ||| (τ_1 (13 + 6 * b0 + ix v5) 10)) v3 v4 (v5 + 1) τ_1
        else none
set_option maxRecDepth 100000 in
set_option maxHeartbeats 4000000 in
theorem w_X1_weightOn_30 {l : Launch} {D : va_G} {ca : Nat → ClassId} {ad : Nat → Nat} {p : Program} {e : Env} {s : State} {m : MethodId} {args : Array Value} {below : List Frame} {meth : Method} {c : Code} {A : Nat → Prop} (C : CX p s m args c D ca A RX1 cX1_weightOn 6) (hr : meth.sig.returnType = (some .int)) (hlk : meth.locks = false) (N : Nat) (b0 : Nat) (hb0 : b0 < 2) (q1 : Nat) (hq1 : SH[q1]? = some oSpot) (r : Int32) (τ : St) (k10 : Int32 → Int32 → Int32 → St → Option (Int32 × St))  (hk10 : ∀ (w2 w3 w4 : Int32) (σ : St), k10 w2 w3 w4 σ = some (r, τ) → WW p l e (rmk 1) s m args below meth c 0 0 (EQ D ca ad SH A below args s (some (.int r)) τ) A D ca ad SH 10 [some (.ref (ad (2 + b0))), some (.ref (ad q1)), some (.int w2), some (.int w3), some (.int w4), none] [] σ) : ∀ (n : Nat) (v2 v3 v4 v5 : Int32) (σ : St), lp_X1_weightOn_30 N b0 q1 k10 n v2 v3 v4 v5 σ = some (r, τ) → WW p l e (rmk 1) s m args below meth c 0 0 (EQ D ca ad SH A below args s (some (.int r)) τ) A D ca ad SH 30 [some (.ref (ad (2 + b0))), some (.ref (ad q1)), some (.int v2), some (.int v3), some (.int v4), some (.int v5)] [] σ := by
  intro n
  induction n with
  | zero => intro v2 v3 v4 v5 σ hf; cases hf
  | succ n ih =>
    intro v2 v3 v4 v5 σ hf
    rw [lp_X1_weightOn_30] at hf
    refine s_iload (pc := 30) C dX1_weightOn_30 rfl ?_
    refine s_aloadn (pc := 32) C dX1_weightOn_32 rfl ?_
    refine s_getR (pc := 33) (r := (11 + b0)) C fl_X1_23 (SH_plan hb0) rfl dX1_weightOn_33 ?_
    refine s_alenI (pc := 36) (v := 6) C (SH_spots hb0) (ty2 ca) (by decide) dX1_weightOn_36 ?_
    refine s_icmp_ge (pc := 37) (tgt := 68) C dX1_weightOn_37 (by decide) (fun h_1 => ?_) (fun h_1 => ?_)
    · replace hf := ifp h_1 hf
      refine s_iinc (pc := 68) (v := (v4 + 1)) (lo' := [some (.ref (ad (2 + b0))), some (.ref (ad q1)), some (.int v2), some (.int v3), some (.int (v4 + 1)), some (.int v5)]) C dX1_weightOn_68 rfl rfl rfl ?_
      refine s_goto (pc := 71) (tgt := 10) C dX1_weightOn_71 (by decide) ?_
      refine s_few (lo' := [some (.ref (ad (2 + b0))), some (.ref (ad q1)), some (.int v2), some (.int v3), some (.int (v4 + 1)), none]) (lfS (lfS (lfS (lfS (lfS (lfN lf0)))))) ?_
      exact hk10 v2 v3 (v4 + 1) σ hf
    · replace hf := ifn h_1 hf
      refine s_iloadn (pc := 40) C dX1_weightOn_40 rfl ?_
      refine s_iload (pc := 41) C dX1_weightOn_41 rfl ?_
      obtain ⟨r_1, τ_1, e_1, hf⟩ := bnd hf
      refine s_callN (pc := 43) (rest := []) C rfl (c_X3_isIn l D ca ad N v2 v5 σ r_1 τ_1 e_1) kn_X1_117 ⟨rfl, rfl⟩ (by decide) rfl rfl (Nat.le_of_ble_eq_true rfl) dX1_weightOn_43 ⟨Nat.zero_le _, Nat.zero_le _⟩ ?_
      refine s_st (st' := [.int r_1]) rfl ?_
      refine s_if_eq (pc := 46) (tgt := 62) C dX1_weightOn_46 (by decide) (fun h_2 => ?_) (fun h_2 => ?_)
      · replace hf := ifp h_2 hf
        refine s_iinc (pc := 62) (v := (v5 + 1)) (lo' := [some (.ref (ad (2 + b0))), some (.ref (ad q1)), some (.int v2), some (.int v3), some (.int v4), some (.int (v5 + 1))]) C dX1_weightOn_62 rfl rfl rfl ?_
        refine s_goto (pc := 65) (tgt := 30) C dX1_weightOn_65 (by decide) ?_
        refine s_few (lo' := [some (.ref (ad (2 + b0))), some (.ref (ad q1)), some (.int v2), some (.int v3), some (.int v4), some (.int (v5 + 1))]) (lfS (lfS (lfS (lfS (lfS (lfS lf0)))))) ?_
        exact ih v2 v3 v4 (v5 + 1) τ_1 hf
      · replace hf := ifn h_2 hf
        refine s_iloadn (pc := 49) C dX1_weightOn_49 rfl ?_
        refine s_aloadn (pc := 50) C dX1_weightOn_50 rfl ?_
        refine s_getR (pc := 51) (r := (11 + b0)) C fl_X1_23 (SH_plan hb0) rfl dX1_weightOn_51 ?_
        refine s_iload (pc := 54) C dX1_weightOn_54 rfl ?_
        obtain ⟨g_1, hf⟩ := gd hf
        refine s_aald (pc := 56) C (SH_spots hb0) (ty2 ca) g_1 dX1_weightOn_56 ?_
        refine s_getI (pc := 57) C fl_X1_114 (SH_spot hb0 (inb_lt g_1)) rfl dX1_weightOn_57 ?_
        refine s_ior (pc := 60) C dX1_weightOn_60 ?_
        refine s_istoren (pc := 61) (lo' := [some (.ref (ad (2 + b0))), some (.ref (ad q1)), some (.int (v2 ||| (τ_1 (13 + 6 * b0 + ix v5) 10))), some (.int v3), some (.int v4), some (.int v5)]) C dX1_weightOn_61 (Nat.le_of_ble_eq_true rfl) rfl ?_
        refine s_iinc (pc := 62) (v := (v5 + 1)) (lo' := [some (.ref (ad (2 + b0))), some (.ref (ad q1)), some (.int (v2 ||| (τ_1 (13 + 6 * b0 + ix v5) 10))), some (.int v3), some (.int v4), some (.int (v5 + 1))]) C dX1_weightOn_62 rfl rfl rfl ?_
        refine s_goto (pc := 65) (tgt := 30) C dX1_weightOn_65 (by decide) ?_
        refine s_few (lo' := [some (.ref (ad (2 + b0))), some (.ref (ad q1)), some (.int (v2 ||| (τ_1 (13 + 6 * b0 + ix v5) 10))), some (.int v3), some (.int v4), some (.int (v5 + 1))]) (lfS (lfS (lfS (lfS (lfS (lfS lf0)))))) ?_
        exact ih (v2 ||| (τ_1 (13 + 6 * b0 + ix v5) 10)) v3 v4 (v5 + 1) τ_1 hf
def lp_X1_weightOn_10 (N : Nat) (b0 : Nat) (q1 : Nat) : Nat → Int32 → Int32 → Int32 → St → Option (Int32 × St)
  | 0, _, _, _, _ => none
  | n + 1, v2, v3, v4, σ =>
    if 6 ≤ v4 then
      lp_X1_weightOn_80 N b0 q1 N v2 v3 0 0 σ
    else
      if v3 = v2 then
        lp_X1_weightOn_80 N b0 q1 N v2 v3 0 0 σ
      else
        lp_X1_weightOn_30 N b0 q1 (fun w2 w3 w4 σ => lp_X1_weightOn_10 N b0 q1  n w2 w3 w4 σ) N v2 v2 v4 0 σ
set_option maxRecDepth 100000 in
set_option maxHeartbeats 4000000 in
theorem w_X1_weightOn_10 {l : Launch} {D : va_G} {ca : Nat → ClassId} {ad : Nat → Nat} {p : Program} {e : Env} {s : State} {m : MethodId} {args : Array Value} {below : List Frame} {meth : Method} {c : Code} {A : Nat → Prop} (C : CX p s m args c D ca A RX1 cX1_weightOn 6) (hr : meth.sig.returnType = (some .int)) (hlk : meth.locks = false) (N : Nat) (b0 : Nat) (hb0 : b0 < 2) (q1 : Nat) (hq1 : SH[q1]? = some oSpot) (r : Int32) (τ : St)  : ∀ (n : Nat) (v2 v3 v4 : Int32) (σ : St), lp_X1_weightOn_10 N b0 q1  n v2 v3 v4 σ = some (r, τ) → WW p l e (rmk 1) s m args below meth c 0 0 (EQ D ca ad SH A below args s (some (.int r)) τ) A D ca ad SH 10 [some (.ref (ad (2 + b0))), some (.ref (ad q1)), some (.int v2), some (.int v3), some (.int v4), none] [] σ := by
  intro n
  induction n with
  | zero => intro v2 v3 v4 σ hf; cases hf
  | succ n ih =>
    intro v2 v3 v4 σ hf
    rw [lp_X1_weightOn_10] at hf
    refine s_iload (pc := 10) C dX1_weightOn_10 rfl ?_
    refine s_aloadn (pc := 12) C dX1_weightOn_12 rfl ?_
    refine s_getR (pc := 13) (r := (11 + b0)) C fl_X1_23 (SH_plan hb0) rfl dX1_weightOn_13 ?_
    refine s_alenI (pc := 16) (v := 6) C (SH_spots hb0) (ty2 ca) (by decide) dX1_weightOn_16 ?_
    refine s_icmp_ge (pc := 17) (tgt := 74) C dX1_weightOn_17 (by decide) (fun h_1 => ?_) (fun h_1 => ?_)
    · replace hf := ifp h_1 hf
      refine s_iconst (pc := 74) (v := 0) C dX1_weightOn_74 (by decide) ?_
      refine s_istore (pc := 75) (lo' := [some (.ref (ad (2 + b0))), some (.ref (ad q1)), some (.int v2), some (.int v3), some (.int 0), none]) C dX1_weightOn_75 (Nat.le_of_ble_eq_true rfl) rfl ?_
      refine s_iconst (pc := 77) (v := 0) C dX1_weightOn_77 (by decide) ?_
      refine s_istore (pc := 78) (lo' := [some (.ref (ad (2 + b0))), some (.ref (ad q1)), some (.int v2), some (.int v3), some (.int 0), some (.int 0)]) C dX1_weightOn_78 (Nat.le_of_ble_eq_true rfl) rfl ?_
      refine s_few (lo' := [some (.ref (ad (2 + b0))), some (.ref (ad q1)), some (.int v2), some (.int v3), some (.int 0), some (.int 0)]) (lfS (lfS (lfS (lfS (lfS (lfS lf0)))))) ?_
      exact w_X1_weightOn_80 C hr hlk N b0 hb0 q1 hq1 r τ  N v2 v3 0 0 σ hf
    · replace hf := ifn h_1 hf
      refine s_iloadn (pc := 20) C dX1_weightOn_20 rfl ?_
      refine s_iloadn (pc := 21) C dX1_weightOn_21 rfl ?_
      refine s_icmp_eq (pc := 22) (tgt := 74) C dX1_weightOn_22 (by decide) (fun h_2 => ?_) (fun h_2 => ?_)
      · replace hf := ifp h_2 hf
        refine s_iconst (pc := 74) (v := 0) C dX1_weightOn_74 (by decide) ?_
        refine s_istore (pc := 75) (lo' := [some (.ref (ad (2 + b0))), some (.ref (ad q1)), some (.int v2), some (.int v3), some (.int 0), none]) C dX1_weightOn_75 (Nat.le_of_ble_eq_true rfl) rfl ?_
        refine s_iconst (pc := 77) (v := 0) C dX1_weightOn_77 (by decide) ?_
        refine s_istore (pc := 78) (lo' := [some (.ref (ad (2 + b0))), some (.ref (ad q1)), some (.int v2), some (.int v3), some (.int 0), some (.int 0)]) C dX1_weightOn_78 (Nat.le_of_ble_eq_true rfl) rfl ?_
        refine s_few (lo' := [some (.ref (ad (2 + b0))), some (.ref (ad q1)), some (.int v2), some (.int v3), some (.int 0), some (.int 0)]) (lfS (lfS (lfS (lfS (lfS (lfS lf0)))))) ?_
        exact w_X1_weightOn_80 C hr hlk N b0 hb0 q1 hq1 r τ  N v2 v3 0 0 σ hf
      · replace hf := ifn h_2 hf
        refine s_iloadn (pc := 25) C dX1_weightOn_25 rfl ?_
        refine s_istoren (pc := 26) (lo' := [some (.ref (ad (2 + b0))), some (.ref (ad q1)), some (.int v2), some (.int v2), some (.int v4), none]) C dX1_weightOn_26 (Nat.le_of_ble_eq_true rfl) rfl ?_
        refine s_iconst (pc := 27) (v := 0) C dX1_weightOn_27 (by decide) ?_
        refine s_istore (pc := 28) (lo' := [some (.ref (ad (2 + b0))), some (.ref (ad q1)), some (.int v2), some (.int v2), some (.int v4), some (.int 0)]) C dX1_weightOn_28 (Nat.le_of_ble_eq_true rfl) rfl ?_
        refine s_few (lo' := [some (.ref (ad (2 + b0))), some (.ref (ad q1)), some (.int v2), some (.int v2), some (.int v4), some (.int 0)]) (lfS (lfS (lfS (lfS (lfS (lfS lf0)))))) ?_
        exact w_X1_weightOn_30 C hr hlk N b0 hb0 q1 hq1 r τ (fun w2 w3 w4 σ => lp_X1_weightOn_10 N b0 q1  n w2 w3 w4 σ) (fun w2 w3 w4 σ h => ih w2 w3 w4 σ h) N v2 v2 v4 0 σ hf
def f_X1_weightOn (N : Nat) (b0 : Nat) (q1 : Nat) (σ : St) : Option (Int32 × St) :=
  lp_X1_weightOn_10 N b0 q1 N (σ q1 10) 0 0 σ
set_option maxRecDepth 100000 in
set_option maxHeartbeats 4000000 in
theorem c_X1_weightOn (l : Launch) (D : va_G) (ca : Nat → ClassId) (ad : Nat → Nat) (N : Nat) (b0 : Nat) (hb0 : b0 < 2) (q1 : Nat) (hq1 : SH[q1]? = some oSpot) (σ : St) (r : Int32) (τ : St) (hf : f_X1_weightOn N b0 q1 σ = some (r, τ)) : cM l yX1_weightOn (.code yX1_weightOn cX1_weightOn 6 (some .int)) (rmk 1) D ca ad SH [.ref (ad (2 + b0)), .ref (ad q1)] σ (some (.int r)) τ := by
  refine cM.intro2 (own := RX1) (lo := [some (.ref (ad (2 + b0))), some (.ref (ad q1)), none, none, none, none]) (by decide) rfl (ccR (ccR cc0)) (Nat.le_of_ble_eq_true rfl) rfl ?_
  intro p e s m args below meth c A C hr hlk
  unfold f_X1_weightOn at hf
  refine s_aloadn (pc := 0) C dX1_weightOn_0 rfl ?_
  refine s_getI (pc := 1) C fl_X1_114 hq1 rfl dX1_weightOn_1 ?_
  refine s_istoren (pc := 4) (lo' := [some (.ref (ad (2 + b0))), some (.ref (ad q1)), some (.int (σ q1 10)), none, none, none]) C dX1_weightOn_4 (Nat.le_of_ble_eq_true rfl) rfl ?_
  refine s_iconst (pc := 5) (v := 0) C dX1_weightOn_5 (by decide) ?_
  refine s_istoren (pc := 6) (lo' := [some (.ref (ad (2 + b0))), some (.ref (ad q1)), some (.int (σ q1 10)), some (.int 0), none, none]) C dX1_weightOn_6 (Nat.le_of_ble_eq_true rfl) rfl ?_
  refine s_iconst (pc := 7) (v := 0) C dX1_weightOn_7 (by decide) ?_
  refine s_istore (pc := 8) (lo' := [some (.ref (ad (2 + b0))), some (.ref (ad q1)), some (.int (σ q1 10)), some (.int 0), some (.int 0), none]) C dX1_weightOn_8 (Nat.le_of_ble_eq_true rfl) rfl ?_
  refine s_few (lo' := [some (.ref (ad (2 + b0))), some (.ref (ad q1)), some (.int (σ q1 10)), some (.int 0), some (.int 0), none]) (lfS (lfS (lfS (lfS (lfS (lfN lf0)))))) ?_
  exact w_X1_weightOn_10 C hr hlk N b0 hb0 q1 hq1 r τ  N (σ q1 10) 0 0 σ hf
def lp_X1_weightsAreBorne_6 (N : Nat) (b0 : Nat) : Nat → Int32 → St → Option (Int32 × St)
  | 0, _, _ => none
  | n + 1, v1, σ =>
    if 6 ≤ v1 then
      some (1, σ)
    else
      if inb v1 6 = true then
      if (σ (13 + 6 * b0 + ix v1) 0 &&& 1) = 0 then
        lp_X1_weightsAreBorne_6 N b0  n (v1 + 1) σ
      else
        if inb v1 6 = true then
        if (σ (13 + 6 * b0 + ix v1) 9) = (-1) then
          lp_X1_weightsAreBorne_6 N b0  n (v1 + 1) σ
        else
          if inb v1 6 = true then
          bn (f_X1_weightOn N b0 (13 + 6 * b0 + ix v1) σ) fun r_1 τ_1 =>
          if inb v1 6 = true then
          if r_1 ≤ (τ_1 (13 + 6 * b0 + ix v1) 9) then
            lp_X1_weightsAreBorne_6 N b0  n (v1 + 1) τ_1
          else
            some (0, τ_1)
          else none
          else none
        else none
      else none
set_option maxRecDepth 100000 in
set_option maxHeartbeats 4000000 in
theorem w_X1_weightsAreBorne_6 {l : Launch} {D : va_G} {ca : Nat → ClassId} {ad : Nat → Nat} {p : Program} {e : Env} {s : State} {m : MethodId} {args : Array Value} {below : List Frame} {meth : Method} {c : Code} {A : Nat → Prop} (C : CX p s m args c D ca A RX1 cX1_weightsAreBorne 2) (hr : meth.sig.returnType = (some .boolean)) (hlk : meth.locks = false) (N : Nat) (b0 : Nat) (hb0 : b0 < 2) (r : Int32) (τ : St)  : ∀ (n : Nat) (v1 : Int32) (σ : St), lp_X1_weightsAreBorne_6 N b0  n v1 σ = some (r, τ) → WW p l e (rmk 3) s m args below meth c 0 0 (EQ D ca ad SH A below args s (some (.int r)) τ) A D ca ad SH 6 [some (.ref (ad (2 + b0))), some (.int v1)] [] σ := by
  intro n
  induction n with
  | zero => intro v1 σ hf; cases hf
  | succ n ih =>
    intro v1 σ hf
    rw [lp_X1_weightsAreBorne_6] at hf
    refine s_iloadn (pc := 6) C dX1_weightsAreBorne_6 rfl ?_
    refine s_aloadn (pc := 7) C dX1_weightsAreBorne_7 rfl ?_
    refine s_getR (pc := 8) (r := (11 + b0)) C fl_X1_23 (SH_plan hb0) rfl dX1_weightsAreBorne_8 ?_
    refine s_alenI (pc := 11) (v := 6) C (SH_spots hb0) (ty2 ca) (by decide) dX1_weightsAreBorne_11 ?_
    refine s_icmp_ge (pc := 12) (tgt := 70) C dX1_weightsAreBorne_12 (by decide) (fun h_1 => ?_) (fun h_1 => ?_)
    · replace hf := ifp h_1 hf
      refine s_iconst (pc := 70) (v := 1) C dX1_weightsAreBorne_70 (by decide) ?_
      exact s_zret (pc := 71) C hr hlk dX1_weightsAreBorne_71 (by decide) (congrArg (fun z => some (Value.int z)) (rt hf).1) (rt hf).2
    · replace hf := ifn h_1 hf
      refine s_aloadn (pc := 15) C dX1_weightsAreBorne_15 rfl ?_
      refine s_getR (pc := 16) (r := (11 + b0)) C fl_X1_23 (SH_plan hb0) rfl dX1_weightsAreBorne_16 ?_
      refine s_iloadn (pc := 19) C dX1_weightsAreBorne_19 rfl ?_
      obtain ⟨g_1, hf⟩ := gd hf
      refine s_aald (pc := 20) C (SH_spots hb0) (ty2 ca) g_1 dX1_weightsAreBorne_20 ?_
      refine s_getZ (pc := 21) C fl_X1_35 (SH_spot hb0 (inb_lt g_1)) rfl dX1_weightsAreBorne_21 ?_
      refine s_if_eq (pc := 24) (tgt := 64) C dX1_weightsAreBorne_24 (by decide) (fun h_2 => ?_) (fun h_2 => ?_)
      · replace hf := ifp h_2 hf
        refine s_iinc (pc := 64) (v := (v1 + 1)) (lo' := [some (.ref (ad (2 + b0))), some (.int (v1 + 1))]) C dX1_weightsAreBorne_64 rfl rfl rfl ?_
        refine s_goto (pc := 67) (tgt := 6) C dX1_weightsAreBorne_67 (by decide) ?_
        refine s_few (lo' := [some (.ref (ad (2 + b0))), some (.int (v1 + 1))]) (lfS (lfS lf0)) ?_
        exact ih (v1 + 1) σ hf
      · replace hf := ifn h_2 hf
        refine s_aloadn (pc := 27) C dX1_weightsAreBorne_27 rfl ?_
        refine s_getR (pc := 28) (r := (11 + b0)) C fl_X1_23 (SH_plan hb0) rfl dX1_weightsAreBorne_28 ?_
        refine s_iloadn (pc := 31) C dX1_weightsAreBorne_31 rfl ?_
        obtain ⟨g_2, hf⟩ := gd hf
        refine s_aald (pc := 32) C (SH_spots hb0) (ty2 ca) g_2 dX1_weightsAreBorne_32 ?_
        refine s_getI (pc := 33) C fl_X1_108 (SH_spot hb0 (inb_lt g_2)) rfl dX1_weightsAreBorne_33 ?_
        refine s_iconst (pc := 36) (v := (-1)) C dX1_weightsAreBorne_36 (by decide) ?_
        refine s_icmp_eq (pc := 37) (tgt := 64) C dX1_weightsAreBorne_37 (by decide) (fun h_3 => ?_) (fun h_3 => ?_)
        · replace hf := ifp h_3 hf
          refine s_iinc (pc := 64) (v := (v1 + 1)) (lo' := [some (.ref (ad (2 + b0))), some (.int (v1 + 1))]) C dX1_weightsAreBorne_64 rfl rfl rfl ?_
          refine s_goto (pc := 67) (tgt := 6) C dX1_weightsAreBorne_67 (by decide) ?_
          refine s_few (lo' := [some (.ref (ad (2 + b0))), some (.int (v1 + 1))]) (lfS (lfS lf0)) ?_
          exact ih (v1 + 1) σ hf
        · replace hf := ifn h_3 hf
          refine s_aloadn (pc := 40) C dX1_weightsAreBorne_40 rfl ?_
          refine s_aloadn (pc := 41) C dX1_weightsAreBorne_41 rfl ?_
          refine s_getR (pc := 42) (r := (11 + b0)) C fl_X1_23 (SH_plan hb0) rfl dX1_weightsAreBorne_42 ?_
          refine s_iloadn (pc := 45) C dX1_weightsAreBorne_45 rfl ?_
          obtain ⟨g_3, hf⟩ := gd hf
          refine s_aald (pc := 46) C (SH_spots hb0) (ty2 ca) g_3 dX1_weightsAreBorne_46 ?_
          obtain ⟨r_1, τ_1, e_1, hf⟩ := bnd hf
          refine s_callV (pc := 47) (rest := []) C rfl (c_X1_weightOn l D ca ad N b0 hb0 (13 + 6 * b0 + ix v1) (SH_spot hb0 (inb_lt g_3)) σ r_1 τ_1 e_1) kv_X1_111 ⟨rfl, rfl⟩ (by decide) (SH_plan hb0) ⟨_, rfl, rfl⟩ rfl rfl (Nat.le_of_ble_eq_true rfl) dX1_weightsAreBorne_47 ⟨Nat.zero_le _, Nat.zero_le _⟩ ?_
          refine s_st (st' := [.int r_1]) rfl ?_
          refine s_aloadn (pc := 50) C dX1_weightsAreBorne_50 rfl ?_
          refine s_getR (pc := 51) (r := (11 + b0)) C fl_X1_23 (SH_plan hb0) rfl dX1_weightsAreBorne_51 ?_
          refine s_iloadn (pc := 54) C dX1_weightsAreBorne_54 rfl ?_
          obtain ⟨g_4, hf⟩ := gd hf
          refine s_aald (pc := 55) C (SH_spots hb0) (ty2 ca) g_4 dX1_weightsAreBorne_55 ?_
          refine s_getI (pc := 56) C fl_X1_108 (SH_spot hb0 (inb_lt g_4)) rfl dX1_weightsAreBorne_56 ?_
          refine s_icmp_le (pc := 59) (tgt := 64) C dX1_weightsAreBorne_59 (by decide) (fun h_4 => ?_) (fun h_4 => ?_)
          · replace hf := ifp h_4 hf
            refine s_iinc (pc := 64) (v := (v1 + 1)) (lo' := [some (.ref (ad (2 + b0))), some (.int (v1 + 1))]) C dX1_weightsAreBorne_64 rfl rfl rfl ?_
            refine s_goto (pc := 67) (tgt := 6) C dX1_weightsAreBorne_67 (by decide) ?_
            refine s_few (lo' := [some (.ref (ad (2 + b0))), some (.int (v1 + 1))]) (lfS (lfS lf0)) ?_
            exact ih (v1 + 1) τ_1 hf
          · replace hf := ifn h_4 hf
            refine s_iconst (pc := 62) (v := 0) C dX1_weightsAreBorne_62 (by decide) ?_
            exact s_zret (pc := 63) C hr hlk dX1_weightsAreBorne_63 (by decide) (congrArg (fun z => some (Value.int z)) (rt hf).1) (rt hf).2
def f_X1_weightsAreBorne (N : Nat) (b0 : Nat) (σ : St) : Option (Int32 × St) :=
  bv (f_X1_noteStanders N b0 σ) fun τ_1 =>
  lp_X1_weightsAreBorne_6 N b0 N 0 τ_1
set_option maxRecDepth 100000 in
set_option maxHeartbeats 4000000 in
theorem c_X1_weightsAreBorne (l : Launch) (D : va_G) (ca : Nat → ClassId) (ad : Nat → Nat) (N : Nat) (b0 : Nat) (hb0 : b0 < 2) (σ : St) (r : Int32) (τ : St) (hf : f_X1_weightsAreBorne N b0 σ = some (r, τ)) : cM l yX1_weightsAreBorne (.code yX1_weightsAreBorne cX1_weightsAreBorne 2 (some .boolean)) (rmk 3) D ca ad SH [.ref (ad (2 + b0))] σ (some (.int r)) τ := by
  refine cM.intro2 (own := RX1) (lo := [some (.ref (ad (2 + b0))), none]) (by decide) rfl (ccR cc0) (Nat.le_of_ble_eq_true rfl) rfl ?_
  intro p e s m args below meth c A C hr hlk
  unfold f_X1_weightsAreBorne at hf
  refine s_aloadn (pc := 0) C dX1_weightsAreBorne_0 rfl ?_
  obtain ⟨τ_1, e_1, hf⟩ := bvd hf
  refine s_callV (pc := 1) (rest := []) C rfl (c_X1_noteStanders l D ca ad N b0 hb0 σ τ_1 e_1) kv_X1_105 ⟨rfl, rfl⟩ (by decide) (SH_plan hb0) ⟨_, rfl, rfl⟩ rfl rfl (Nat.le_of_ble_eq_true rfl) dX1_weightsAreBorne_1 ⟨Nat.zero_le _, Nat.zero_le _⟩ ?_
  refine s_st (st' := []) rfl ?_
  refine s_iconst (pc := 4) (v := 0) C dX1_weightsAreBorne_4 (by decide) ?_
  refine s_istoren (pc := 5) (lo' := [some (.ref (ad (2 + b0))), some (.int 0)]) C dX1_weightsAreBorne_5 (Nat.le_of_ble_eq_true rfl) rfl ?_
  refine s_few (lo' := [some (.ref (ad (2 + b0))), some (.int 0)]) (lfS (lfS lf0)) ?_
  exact w_X1_weightsAreBorne_6 C hr hlk N b0 hb0 r τ  N 0 τ_1 hf
def f_X1_isPlanWith (N : Nat) (b0 : Nat) (q1 : Nat) (a2 : Int32) (σ : St) : Option (Int32 × St) :=
  bn (f_X1_takes N b0 ((σ q1 1) + (σ q1 4)) ((σ q1 2) + (σ q1 5)) ((σ q1 3) + (σ q1 6)) σ) fun r_1 τ_1 =>
  if r_1 = 0 then
    some (0, τ_1)
  else
    bn (f_X1_hasRoomFor N b0 q1 τ_1) fun r_2 τ_2 =>
    if r_2 = 0 then
      some (0, τ_2)
    else
      bn (f_X1_supportOf N b0 q1 τ_2) fun r_3 τ_3 =>
      bn (f_X2_area N q1 τ_3) fun r_4 τ_4 =>
      if (100 * r_3) < (a2 * r_4) then
        some (0, τ_4)
      else
        bn (f_X1_weightsAreBorne N b0 τ_4) fun r_5 τ_5 =>
        if r_5 = 0 then
          some (0, τ_5)
        else
          some (1, τ_5)
set_option maxRecDepth 100000 in
set_option maxHeartbeats 4000000 in
theorem c_X1_isPlanWith (l : Launch) (D : va_G) (ca : Nat → ClassId) (ad : Nat → Nat) (N : Nat) (b0 : Nat) (hb0 : b0 < 2) (q1 : Nat) (hq1 : SH[q1]? = some oSpot) (a2 : Int32) (σ : St) (r : Int32) (τ : St) (hf : f_X1_isPlanWith N b0 q1 a2 σ = some (r, τ)) : cM l yX1_isPlanWith (.code yX1_isPlanWith cX1_isPlanWith 3 (some .boolean)) (rmk 4) D ca ad SH [.ref (ad (2 + b0)), .ref (ad q1), .int a2] σ (some (.int r)) τ := by
  refine cM.intro2 (own := RX1) (lo := [some (.ref (ad (2 + b0))), some (.ref (ad q1)), some (.int a2)]) (by decide) rfl (ccR (ccR (ccI cc0))) (Nat.le_of_ble_eq_true rfl) rfl ?_
  intro p e s m args below meth c A C hr hlk
  unfold f_X1_isPlanWith at hf
  refine s_aloadn (pc := 0) C dX1_isPlanWith_0 rfl ?_
  refine s_aloadn (pc := 1) C dX1_isPlanWith_1 rfl ?_
  refine s_getI (pc := 2) C fl_X1_60 hq1 rfl dX1_isPlanWith_2 ?_
  refine s_aloadn (pc := 5) C dX1_isPlanWith_5 rfl ?_
  refine s_getI (pc := 6) C fl_X1_63 hq1 rfl dX1_isPlanWith_6 ?_
  refine s_iadd (pc := 9) C dX1_isPlanWith_9 ?_
  refine s_aloadn (pc := 10) C dX1_isPlanWith_10 rfl ?_
  refine s_getI (pc := 11) C fl_X1_66 hq1 rfl dX1_isPlanWith_11 ?_
  refine s_aloadn (pc := 14) C dX1_isPlanWith_14 rfl ?_
  refine s_getI (pc := 15) C fl_X1_69 hq1 rfl dX1_isPlanWith_15 ?_
  refine s_iadd (pc := 18) C dX1_isPlanWith_18 ?_
  refine s_aloadn (pc := 19) C dX1_isPlanWith_19 rfl ?_
  refine s_getI (pc := 20) C fl_X1_72 hq1 rfl dX1_isPlanWith_20 ?_
  refine s_aloadn (pc := 23) C dX1_isPlanWith_23 rfl ?_
  refine s_getI (pc := 24) C fl_X1_75 hq1 rfl dX1_isPlanWith_24 ?_
  refine s_iadd (pc := 27) C dX1_isPlanWith_27 ?_
  obtain ⟨r_1, τ_1, e_1, hf⟩ := bnd hf
  refine s_callV (pc := 28) (rest := []) C rfl (c_X1_takes l D ca ad N b0 hb0 ((σ q1 1) + (σ q1 4)) ((σ q1 2) + (σ q1 5)) ((σ q1 3) + (σ q1 6)) σ r_1 τ_1 e_1) kv_X1_78 ⟨rfl, rfl⟩ (by decide) (SH_plan hb0) ⟨_, rfl, rfl⟩ rfl rfl (Nat.le_of_ble_eq_true rfl) dX1_isPlanWith_28 ⟨Nat.zero_le _, Nat.zero_le _⟩ ?_
  refine s_st (st' := [.int r_1]) rfl ?_
  refine s_if_eq (pc := 31) (tgt := 70) C dX1_isPlanWith_31 (by decide) (fun h_1 => ?_) (fun h_1 => ?_)
  · replace hf := ifp h_1 hf
    refine s_iconst (pc := 70) (v := 0) C dX1_isPlanWith_70 (by decide) ?_
    exact s_zret (pc := 71) C hr hlk dX1_isPlanWith_71 (by decide) (congrArg (fun z => some (Value.int z)) (rt hf).1) (rt hf).2
  · replace hf := ifn h_1 hf
    refine s_aloadn (pc := 34) C dX1_isPlanWith_34 rfl ?_
    refine s_aloadn (pc := 35) C dX1_isPlanWith_35 rfl ?_
    obtain ⟨r_2, τ_2, e_2, hf⟩ := bnd hf
    refine s_callV (pc := 36) (rest := []) C rfl (c_X1_hasRoomFor l D ca ad N b0 hb0 q1 hq1 τ_1 r_2 τ_2 e_2) kv_X1_81 ⟨rfl, rfl⟩ (by decide) (SH_plan hb0) ⟨_, rfl, rfl⟩ rfl rfl (Nat.le_of_ble_eq_true rfl) dX1_isPlanWith_36 ⟨Nat.zero_le _, Nat.zero_le _⟩ ?_
    refine s_st (st' := [.int r_2]) rfl ?_
    refine s_if_eq (pc := 39) (tgt := 70) C dX1_isPlanWith_39 (by decide) (fun h_2 => ?_) (fun h_2 => ?_)
    · replace hf := ifp h_2 hf
      refine s_iconst (pc := 70) (v := 0) C dX1_isPlanWith_70 (by decide) ?_
      exact s_zret (pc := 71) C hr hlk dX1_isPlanWith_71 (by decide) (congrArg (fun z => some (Value.int z)) (rt hf).1) (rt hf).2
    · replace hf := ifn h_2 hf
      refine s_bipush (pc := 42) (v := 100) C dX1_isPlanWith_42 (by decide) ?_
      refine s_aloadn (pc := 44) C dX1_isPlanWith_44 rfl ?_
      refine s_aloadn (pc := 45) C dX1_isPlanWith_45 rfl ?_
      obtain ⟨r_3, τ_3, e_3, hf⟩ := bnd hf
      refine s_callV (pc := 46) (rest := [.int 100]) C rfl (c_X1_supportOf l D ca ad N b0 hb0 q1 hq1 τ_2 r_3 τ_3 e_3) kv_X1_85 ⟨rfl, rfl⟩ (by decide) (SH_plan hb0) ⟨_, rfl, rfl⟩ rfl rfl (Nat.le_of_ble_eq_true rfl) dX1_isPlanWith_46 ⟨Nat.zero_le _, Nat.zero_le _⟩ ?_
      refine s_st (st' := [.int r_3, .int 100]) rfl ?_
      refine s_imul (pc := 49) C dX1_isPlanWith_49 ?_
      refine s_iloadn (pc := 50) C dX1_isPlanWith_50 rfl ?_
      refine s_aloadn (pc := 51) C dX1_isPlanWith_51 rfl ?_
      obtain ⟨r_4, τ_4, e_4, hf⟩ := bnd hf
      refine s_callV (pc := 52) (rest := [.int a2, .int (100 * r_3)]) C rfl (c_X2_area l D ca ad N q1 hq1 τ_3 r_4 τ_4 e_4) kv_X1_89 ⟨rfl, rfl⟩ (by decide) hq1 ⟨_, rfl, rfl⟩ rfl rfl (Nat.le_of_ble_eq_true rfl) dX1_isPlanWith_52 ⟨Nat.zero_le _, Nat.zero_le _⟩ ?_
      refine s_st (st' := [.int r_4, .int a2, .int (100 * r_3)]) rfl ?_
      refine s_imul (pc := 55) C dX1_isPlanWith_55 ?_
      refine s_icmp_lt (pc := 56) (tgt := 70) C dX1_isPlanWith_56 (by decide) (fun h_3 => ?_) (fun h_3 => ?_)
      · replace hf := ifp h_3 hf
        refine s_iconst (pc := 70) (v := 0) C dX1_isPlanWith_70 (by decide) ?_
        exact s_zret (pc := 71) C hr hlk dX1_isPlanWith_71 (by decide) (congrArg (fun z => some (Value.int z)) (rt hf).1) (rt hf).2
      · replace hf := ifn h_3 hf
        refine s_aloadn (pc := 59) C dX1_isPlanWith_59 rfl ?_
        obtain ⟨r_5, τ_5, e_5, hf⟩ := bnd hf
        refine s_callV (pc := 60) (rest := []) C rfl (c_X1_weightsAreBorne l D ca ad N b0 hb0 τ_4 r_5 τ_5 e_5) kv_X1_92 ⟨rfl, rfl⟩ (by decide) (SH_plan hb0) ⟨_, rfl, rfl⟩ rfl rfl (Nat.le_of_ble_eq_true rfl) dX1_isPlanWith_60 ⟨Nat.zero_le _, Nat.zero_le _⟩ ?_
        refine s_st (st' := [.int r_5]) rfl ?_
        refine s_if_eq (pc := 63) (tgt := 70) C dX1_isPlanWith_63 (by decide) (fun h_4 => ?_) (fun h_4 => ?_)
        · replace hf := ifp h_4 hf
          refine s_iconst (pc := 70) (v := 0) C dX1_isPlanWith_70 (by decide) ?_
          exact s_zret (pc := 71) C hr hlk dX1_isPlanWith_71 (by decide) (congrArg (fun z => some (Value.int z)) (rt hf).1) (rt hf).2
        · replace hf := ifn h_4 hf
          refine s_iconst (pc := 66) (v := 1) C dX1_isPlanWith_66 (by decide) ?_
          refine s_goto (pc := 67) (tgt := 71) C dX1_isPlanWith_67 (by decide) ?_
          exact s_zret (pc := 71) C hr hlk dX1_isPlanWith_71 (by decide) (congrArg (fun z => some (Value.int z)) (rt hf).1) (rt hf).2
end
