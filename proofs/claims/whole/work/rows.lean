section
-- ===== PART A: goes FIRST, ahead of the names: the tables' words, and 'selects' of the private methods out of them =====
/-- a private method of a class that the tables say can be made, by its rows of tables_1 -/
def lw_okq (q : MethodName × Nat) : Prop := (q.1.cls ≠ "java/lang/invoke/MethodHandle" ∧ q.1.cls ≠ "java/lang/invoke/VarHandle") ∧ Cond.instantiable q.1.cls q.2 ∈ tables_1 ∧ Cond.privateMethod q.1 ∈ tables_1 ∧ Cond.instanceMethod q.1 ∈ tables_1
theorem lw_p0 : lw_okq (⟨"PackingSearch", "fitsAlone", "(LPackingSearch$Piece;)Z"⟩, 13) := ⟨⟨by decide +kernel, by decide +kernel⟩, List.mem_of_getElem? (i := 19) (by decide +kernel), List.mem_of_getElem? (i := 200) (by decide +kernel), List.mem_of_getElem? (i := 201) (by decide +kernel)⟩
theorem lw_p1 : lw_okq (⟨"PackingSearch", "unpackedCount", "()I"⟩, 13) := ⟨⟨by decide +kernel, by decide +kernel⟩, List.mem_of_getElem? (i := 19) (by decide +kernel), List.mem_of_getElem? (i := 243) (by decide +kernel), List.mem_of_getElem? (i := 244) (by decide +kernel)⟩
theorem lw_p2 : lw_okq (⟨"java/lang/Throwable", "fillInStackTrace", "(I)Ljava/lang/Throwable;"⟩, 6) := ⟨⟨by decide +kernel, by decide +kernel⟩, List.mem_of_getElem? (i := 328) (by decide +kernel), List.mem_of_getElem? (i := 326) (by decide +kernel), List.mem_of_getElem? (i := 327) (by decide +kernel)⟩
theorem lw_p3 : lw_okq (⟨"PackingSearch", "known", "(I)LPackingSearch$Piece;"⟩, 13) := ⟨⟨by decide +kernel, by decide +kernel⟩, List.mem_of_getElem? (i := 19) (by decide +kernel), List.mem_of_getElem? (i := 387) (by decide +kernel), List.mem_of_getElem? (i := 388) (by decide +kernel)⟩
theorem lw_p4 : lw_okq (⟨"PackingSearch$Piece", "isLikeOneLet", "(I)Z"⟩, 8) := ⟨⟨by decide +kernel, by decide +kernel⟩, List.mem_of_getElem? (i := 37) (by decide +kernel), List.mem_of_getElem? (i := 415) (by decide +kernel), List.mem_of_getElem? (i := 416) (by decide +kernel)⟩
theorem lw_p5 : lw_okq (⟨"PackingSearch", "positionOf", "(LPackingSearch$Piece;I)I"⟩, 13) := ⟨⟨by decide +kernel, by decide +kernel⟩, List.mem_of_getElem? (i := 19) (by decide +kernel), List.mem_of_getElem? (i := 449) (by decide +kernel), List.mem_of_getElem? (i := 450) (by decide +kernel)⟩
theorem lw_p6 : lw_okq (⟨"PackingSearch", "startSearch", "(I)V"⟩, 13) := ⟨⟨by decide +kernel, by decide +kernel⟩, List.mem_of_getElem? (i := 19) (by decide +kernel), List.mem_of_getElem? (i := 469) (by decide +kernel), List.mem_of_getElem? (i := 470) (by decide +kernel)⟩
theorem lw_p7 : lw_okq (⟨"PackingSearch", "putInOrder", "()V"⟩, 13) := ⟨⟨by decide +kernel, by decide +kernel⟩, List.mem_of_getElem? (i := 19) (by decide +kernel), List.mem_of_getElem? (i := 481) (by decide +kernel), List.mem_of_getElem? (i := 482) (by decide +kernel)⟩
theorem lw_p8 : lw_okq (⟨"PackingSearch", "searchFrom", "(I)V"⟩, 13) := ⟨⟨by decide +kernel, by decide +kernel⟩, List.mem_of_getElem? (i := 19) (by decide +kernel), List.mem_of_getElem? (i := 485) (by decide +kernel), List.mem_of_getElem? (i := 486) (by decide +kernel)⟩
theorem lw_p9 : lw_okq (⟨"PackingSearch", "lookAtTrial", "()V"⟩, 13) := ⟨⟨by decide +kernel, by decide +kernel⟩, List.mem_of_getElem? (i := 19) (by decide +kernel), List.mem_of_getElem? (i := 489) (by decide +kernel), List.mem_of_getElem? (i := 490) (by decide +kernel)⟩
theorem lw_p10 : lw_okq (⟨"PackingSearch", "tryWay", "(ILPackingSearch$Piece;LPackingSearch$Spot;I)V"⟩, 13) := ⟨⟨by decide +kernel, by decide +kernel⟩, List.mem_of_getElem? (i := 19) (by decide +kernel), List.mem_of_getElem? (i := 501) (by decide +kernel), List.mem_of_getElem? (i := 502) (by decide +kernel)⟩
theorem lw_p11 : lw_okq (⟨"PackingSearch$Plan", "hasRoomFor", "(LPackingSearch$Spot;)Z"⟩, 4) := ⟨⟨by decide +kernel, by decide +kernel⟩, List.mem_of_getElem? (i := 72) (by decide +kernel), List.mem_of_getElem? (i := 522) (by decide +kernel), List.mem_of_getElem? (i := 523) (by decide +kernel)⟩
theorem lw_p12 : lw_okq (⟨"PackingSearch$Plan", "weightsAreBorne", "()Z"⟩, 4) := ⟨⟨by decide +kernel, by decide +kernel⟩, List.mem_of_getElem? (i := 72) (by decide +kernel), List.mem_of_getElem? (i := 549) (by decide +kernel), List.mem_of_getElem? (i := 550) (by decide +kernel)⟩
theorem lw_p13 : lw_okq (⟨"PackingSearch", "spotOf", "(I)LPackingSearch$Spot;"⟩, 13) := ⟨⟨by decide +kernel, by decide +kernel⟩, List.mem_of_getElem? (i := 19) (by decide +kernel), List.mem_of_getElem? (i := 570) (by decide +kernel), List.mem_of_getElem? (i := 571) (by decide +kernel)⟩
theorem lw_p14 : lw_okq (⟨"PackingSearchModel", "noPiece", "(I)Z"⟩, 37) := ⟨⟨by decide +kernel, by decide +kernel⟩, List.mem_of_getElem? (i := 695) (by decide +kernel), List.mem_of_getElem? (i := 831) (by decide +kernel), List.mem_of_getElem? (i := 832) (by decide +kernel)⟩
theorem lw_p15 : lw_okq (⟨"PackingSearchModel", "let", "(II)Z"⟩, 37) := ⟨⟨by decide +kernel, by decide +kernel⟩, List.mem_of_getElem? (i := 695) (by decide +kernel), List.mem_of_getElem? (i := 835) (by decide +kernel), List.mem_of_getElem? (i := 836) (by decide +kernel)⟩
def lw_privs_1 : List (MethodName × Nat) := [(⟨"PackingSearch", "fitsAlone", "(LPackingSearch$Piece;)Z"⟩, 13), (⟨"PackingSearch", "unpackedCount", "()I"⟩, 13), (⟨"java/lang/Throwable", "fillInStackTrace", "(I)Ljava/lang/Throwable;"⟩, 6), (⟨"PackingSearch", "known", "(I)LPackingSearch$Piece;"⟩, 13), (⟨"PackingSearch$Piece", "isLikeOneLet", "(I)Z"⟩, 8), (⟨"PackingSearch", "positionOf", "(LPackingSearch$Piece;I)I"⟩, 13), (⟨"PackingSearch", "startSearch", "(I)V"⟩, 13), (⟨"PackingSearch", "putInOrder", "()V"⟩, 13), (⟨"PackingSearch", "searchFrom", "(I)V"⟩, 13), (⟨"PackingSearch", "lookAtTrial", "()V"⟩, 13), (⟨"PackingSearch", "tryWay", "(ILPackingSearch$Piece;LPackingSearch$Spot;I)V"⟩, 13), (⟨"PackingSearch$Plan", "hasRoomFor", "(LPackingSearch$Spot;)Z"⟩, 4), (⟨"PackingSearch$Plan", "weightsAreBorne", "()Z"⟩, 4), (⟨"PackingSearch", "spotOf", "(I)LPackingSearch$Spot;"⟩, 13), (⟨"PackingSearchModel", "noPiece", "(I)Z"⟩, 37), (⟨"PackingSearchModel", "let", "(II)Z"⟩, 37)]
theorem lw_r1 : ∀ q ∈ lw_privs_1, lw_okq q := List.forall_mem_cons.mpr ⟨lw_p0, List.forall_mem_cons.mpr ⟨lw_p1, List.forall_mem_cons.mpr ⟨lw_p2, List.forall_mem_cons.mpr ⟨lw_p3, List.forall_mem_cons.mpr ⟨lw_p4, List.forall_mem_cons.mpr ⟨lw_p5, List.forall_mem_cons.mpr ⟨lw_p6, List.forall_mem_cons.mpr ⟨lw_p7, List.forall_mem_cons.mpr ⟨lw_p8, List.forall_mem_cons.mpr ⟨lw_p9, List.forall_mem_cons.mpr ⟨lw_p10, List.forall_mem_cons.mpr ⟨lw_p11, List.forall_mem_cons.mpr ⟨lw_p12, List.forall_mem_cons.mpr ⟨lw_p13, List.forall_mem_cons.mpr ⟨lw_p14, List.forall_mem_cons.mpr ⟨lw_p15, fun _ h => absurd h List.not_mem_nil⟩⟩⟩⟩⟩⟩⟩⟩⟩⟩⟩⟩⟩⟩⟩⟩
theorem lw_p16 : lw_okq (⟨"PackingSearchModel", "byMarks", "(II)Z"⟩, 37) := ⟨⟨by decide +kernel, by decide +kernel⟩, List.mem_of_getElem? (i := 695) (by decide +kernel), List.mem_of_getElem? (i := 839) (by decide +kernel), List.mem_of_getElem? (i := 840) (by decide +kernel)⟩
theorem lw_p17 : lw_okq (⟨"PackingSearchModel", "measure", "(III)I"⟩, 37) := ⟨⟨by decide +kernel, by decide +kernel⟩, List.mem_of_getElem? (i := 695) (by decide +kernel), List.mem_of_getElem? (i := 843) (by decide +kernel), List.mem_of_getElem? (i := 844) (by decide +kernel)⟩
theorem lw_p18 : lw_okq (⟨"PackingSearchModel", "findOrder", "()V"⟩, 37) := ⟨⟨by decide +kernel, by decide +kernel⟩, List.mem_of_getElem? (i := 695) (by decide +kernel), List.mem_of_getElem? (i := 858) (by decide +kernel), List.mem_of_getElem? (i := 859) (by decide +kernel)⟩
theorem lw_p19 : lw_okq (⟨"PackingSearchModel", "search", "(I)Z"⟩, 37) := ⟨⟨by decide +kernel, by decide +kernel⟩, List.mem_of_getElem? (i := 695) (by decide +kernel), List.mem_of_getElem? (i := 870) (by decide +kernel), List.mem_of_getElem? (i := 871) (by decide +kernel)⟩
theorem lw_p20 : lw_okq (⟨"PackingSearchModel", "enter", "(I)V"⟩, 37) := ⟨⟨by decide +kernel, by decide +kernel⟩, List.mem_of_getElem? (i := 695) (by decide +kernel), List.mem_of_getElem? (i := 874) (by decide +kernel), List.mem_of_getElem? (i := 875) (by decide +kernel)⟩
theorem lw_p21 : lw_okq (⟨"PackingSearchModel", "end", "(III)V"⟩, 37) := ⟨⟨by decide +kernel, by decide +kernel⟩, List.mem_of_getElem? (i := 695) (by decide +kernel), List.mem_of_getElem? (i := 878) (by decide +kernel), List.mem_of_getElem? (i := 879) (by decide +kernel)⟩
theorem lw_p22 : lw_okq (⟨"PackingSearchModel", "look", "()V"⟩, 37) := ⟨⟨by decide +kernel, by decide +kernel⟩, List.mem_of_getElem? (i := 695) (by decide +kernel), List.mem_of_getElem? (i := 882) (by decide +kernel), List.mem_of_getElem? (i := 883) (by decide +kernel)⟩
theorem lw_p23 : lw_okq (⟨"PackingSearchModel", "volumeNow", "()I"⟩, 37) := ⟨⟨by decide +kernel, by decide +kernel⟩, List.mem_of_getElem? (i := 695) (by decide +kernel), List.mem_of_getElem? (i := 886) (by decide +kernel), List.mem_of_getElem? (i := 887) (by decide +kernel)⟩
theorem lw_p24 : lw_okq (⟨"PackingSearchModel", "volume", "(I)I"⟩, 37) := ⟨⟨by decide +kernel, by decide +kernel⟩, List.mem_of_getElem? (i := 695) (by decide +kernel), List.mem_of_getElem? (i := 890) (by decide +kernel), List.mem_of_getElem? (i := 891) (by decide +kernel)⟩
theorem lw_p25 : lw_okq (⟨"PackingSearchModel", "advance", "(I)Z"⟩, 37) := ⟨⟨by decide +kernel, by decide +kernel⟩, List.mem_of_getElem? (i := 695) (by decide +kernel), List.mem_of_getElem? (i := 894) (by decide +kernel), List.mem_of_getElem? (i := 895) (by decide +kernel)⟩
theorem lw_p26 : lw_okq (⟨"PackingSearchModel", "stand", "(IIIII)V"⟩, 37) := ⟨⟨by decide +kernel, by decide +kernel⟩, List.mem_of_getElem? (i := 695) (by decide +kernel), List.mem_of_getElem? (i := 898) (by decide +kernel), List.mem_of_getElem? (i := 899) (by decide +kernel)⟩
theorem lw_p27 : lw_okq (⟨"PackingSearchModel", "isPlan", "()Z"⟩, 37) := ⟨⟨by decide +kernel, by decide +kernel⟩, List.mem_of_getElem? (i := 695) (by decide +kernel), List.mem_of_getElem? (i := 902) (by decide +kernel), List.mem_of_getElem? (i := 903) (by decide +kernel)⟩
theorem lw_p28 : lw_okq (⟨"PackingSearchModel", "supportOf", "(I)I"⟩, 37) := ⟨⟨by decide +kernel, by decide +kernel⟩, List.mem_of_getElem? (i := 695) (by decide +kernel), List.mem_of_getElem? (i := 906) (by decide +kernel), List.mem_of_getElem? (i := 907) (by decide +kernel)⟩
theorem lw_p29 : lw_okq (⟨"PackingSearchModel", "standsOn", "(II)Z"⟩, 37) := ⟨⟨by decide +kernel, by decide +kernel⟩, List.mem_of_getElem? (i := 695) (by decide +kernel), List.mem_of_getElem? (i := 910) (by decide +kernel), List.mem_of_getElem? (i := 911) (by decide +kernel)⟩
theorem lw_p30 : lw_okq (⟨"PackingSearchModel", "area", "(II)I"⟩, 37) := ⟨⟨by decide +kernel, by decide +kernel⟩, List.mem_of_getElem? (i := 695) (by decide +kernel), List.mem_of_getElem? (i := 914) (by decide +kernel), List.mem_of_getElem? (i := 915) (by decide +kernel)⟩
theorem lw_p31 : lw_okq (⟨"PackingSearchModel", "borne", "(I)I"⟩, 37) := ⟨⟨by decide +kernel, by decide +kernel⟩, List.mem_of_getElem? (i := 695) (by decide +kernel), List.mem_of_getElem? (i := 921) (by decide +kernel), List.mem_of_getElem? (i := 922) (by decide +kernel)⟩
def lw_privs_2 : List (MethodName × Nat) := [(⟨"PackingSearchModel", "byMarks", "(II)Z"⟩, 37), (⟨"PackingSearchModel", "measure", "(III)I"⟩, 37), (⟨"PackingSearchModel", "findOrder", "()V"⟩, 37), (⟨"PackingSearchModel", "search", "(I)Z"⟩, 37), (⟨"PackingSearchModel", "enter", "(I)V"⟩, 37), (⟨"PackingSearchModel", "end", "(III)V"⟩, 37), (⟨"PackingSearchModel", "look", "()V"⟩, 37), (⟨"PackingSearchModel", "volumeNow", "()I"⟩, 37), (⟨"PackingSearchModel", "volume", "(I)I"⟩, 37), (⟨"PackingSearchModel", "advance", "(I)Z"⟩, 37), (⟨"PackingSearchModel", "stand", "(IIIII)V"⟩, 37), (⟨"PackingSearchModel", "isPlan", "()Z"⟩, 37), (⟨"PackingSearchModel", "supportOf", "(I)I"⟩, 37), (⟨"PackingSearchModel", "standsOn", "(II)Z"⟩, 37), (⟨"PackingSearchModel", "area", "(II)I"⟩, 37), (⟨"PackingSearchModel", "borne", "(I)I"⟩, 37)]
theorem lw_r2 : ∀ q ∈ lw_privs_2, lw_okq q := List.forall_mem_cons.mpr ⟨lw_p16, List.forall_mem_cons.mpr ⟨lw_p17, List.forall_mem_cons.mpr ⟨lw_p18, List.forall_mem_cons.mpr ⟨lw_p19, List.forall_mem_cons.mpr ⟨lw_p20, List.forall_mem_cons.mpr ⟨lw_p21, List.forall_mem_cons.mpr ⟨lw_p22, List.forall_mem_cons.mpr ⟨lw_p23, List.forall_mem_cons.mpr ⟨lw_p24, List.forall_mem_cons.mpr ⟨lw_p25, List.forall_mem_cons.mpr ⟨lw_p26, List.forall_mem_cons.mpr ⟨lw_p27, List.forall_mem_cons.mpr ⟨lw_p28, List.forall_mem_cons.mpr ⟨lw_p29, List.forall_mem_cons.mpr ⟨lw_p30, List.forall_mem_cons.mpr ⟨lw_p31, fun _ h => absurd h List.not_mem_nil⟩⟩⟩⟩⟩⟩⟩⟩⟩⟩⟩⟩⟩⟩⟩⟩
theorem lw_p32 : lw_okq (⟨"PackingSearchModel", "goesIn", "(I)Z"⟩, 37) := ⟨⟨by decide +kernel, by decide +kernel⟩, List.mem_of_getElem? (i := 695) (by decide +kernel), List.mem_of_getElem? (i := 937) (by decide +kernel), List.mem_of_getElem? (i := 938) (by decide +kernel)⟩
def lw_privs_3 : List (MethodName × Nat) := [(⟨"PackingSearchModel", "goesIn", "(I)Z"⟩, 37)]
theorem lw_r3 : ∀ q ∈ lw_privs_3, lw_okq q := List.forall_mem_cons.mpr ⟨lw_p32, fun _ h => absurd h List.not_mem_nil⟩
def lw_privs : List (MethodName × Nat) := lw_privs_1 ++ (lw_privs_2 ++ (lw_privs_3))
def lw_tbl : List Cond := k2_sels lw_privs ++ tables_1
theorem lw_privs_ok : ∀ q ∈ lw_privs, lw_okq q := by
  show ∀ q ∈ lw_privs_1 ++ (lw_privs_2 ++ (lw_privs_3)), lw_okq q
  exact List.forall_mem_append.mpr ⟨lw_r1, List.forall_mem_append.mpr ⟨lw_r2, lw_r3⟩⟩
end
section
def RX0 : String := "PackingSearch$Piece"
def TX0 : u_T := fun k => match k with
  | 0 => ("PackingSearch$Piece", "width", "I", false)
  | 1 => ("PackingSearch$Piece", "depth", "I", false)
  | 2 => ("PackingSearch$Piece", "height", "I", false)
  | 3 => ("PackingSearch$Piece", "weight", "I", false)
  | 4 => ("PackingSearch$Piece", "letWays", "I", false)
  | 5 => ("PackingSearch$Piece", "mostBorne", "I", false)
  | 6 => ("PackingSearch$Piece", "ranking", "I", false)
  | _ => ("PackingSearch$Piece", "packedInto", "I", false)
def tyX0 : Nat → FieldType := fun k => match k with
  | 0 => .int
  | 1 => .int
  | 2 => .int
  | 3 => .int
  | 4 => .int
  | 5 => .int
  | 6 => .int
  | _ => .int
abbrev wsX00 : List Cond := u_ws RX0 TX0 8
theorem nmX0 : ∀ a, a < 8 → ∀ b, b < 8 → a ≠ b → (TX0 a).2.1 ≠ (TX0 b).2.1 := by decide +kernel
theorem tyX0_ok : ∀ k, k < 8 → parseFieldDescriptor (TX0 k).2.2.1 = some (tyX0 k) := by decide +kernel
abbrev cX0_init : ByteArray := prog_2_method_1_code
def yX0_init : MethodName := ⟨RX0, "<init>", "()V"⟩
abbrev cX0_become : ByteArray := prog_2_method_2_code
def yX0_become : MethodName := ⟨RX0, "become", "(IIII)V"⟩
abbrev cX0_isPacked : ByteArray := prog_2_method_3_code
def yX0_isPacked : MethodName := ⟨RX0, "isPacked", "()Z"⟩
abbrev cX0_volume : ByteArray := prog_2_method_4_code
def yX0_volume : MethodName := ⟨RX0, "volume", "()I"⟩
abbrev cX0_lets : ByteArray := prog_2_method_5_code
def yX0_lets : MethodName := ⟨RX0, "lets", "(I)Z"⟩
abbrev cX0_wayCount : ByteArray := prog_2_method_6_code
def yX0_wayCount : MethodName := ⟨RX0, "wayCount", "()I"⟩
abbrev cX0_mark : ByteArray := prog_2_method_7_code
def yX0_mark : MethodName := ⟨RX0, "mark", "(I)V"⟩
abbrev cX0_isLikeOneLet : ByteArray := prog_2_method_8_code
def yX0_isLikeOneLet : MethodName := ⟨RX0, "isLikeOneLet", "(I)Z"⟩
abbrev cX0_marksFor : ByteArray := prog_2_method_9_code
def yX0_marksFor : MethodName := ⟨RX0, "marksFor", "(I)I"⟩
abbrev cX0_widthIn : ByteArray := prog_2_method_10_code
def yX0_widthIn : MethodName := ⟨RX0, "widthIn", "(I)I"⟩
abbrev cX0_depthIn : ByteArray := prog_2_method_11_code
def yX0_depthIn : MethodName := ⟨RX0, "depthIn", "(I)I"⟩
abbrev cX0_heightIn : ByteArray := prog_2_method_12_code
def yX0_heightIn : MethodName := ⟨RX0, "heightIn", "(I)I"⟩
def RX1 : String := "PackingSearch$Plan"
def TX1 : u_T := fun k => match k with
  | 0 => ("PackingSearch$Plan", "boxWidth", "I", true)
  | 1 => ("PackingSearch$Plan", "boxDepth", "I", true)
  | 2 => ("PackingSearch$Plan", "boxHeight", "I", true)
  | _ => ("PackingSearch$Plan", "spots", "[LPackingSearch$Spot;", true)
def tyX1 : Nat → FieldType := fun k => match k with
  | 0 => .int
  | 1 => .int
  | 2 => .int
  | _ => .array (.object "PackingSearch$Spot")
abbrev wsX10 : List Cond := u_ws RX1 TX1 4
theorem nmX1 : ∀ a, a < 4 → ∀ b, b < 4 → a ≠ b → (TX1 a).2.1 ≠ (TX1 b).2.1 := by decide +kernel
theorem tyX1_ok : ∀ k, k < 4 → parseFieldDescriptor (TX1 k).2.2.1 = some (tyX1 k) := by decide +kernel
abbrev cX1_init : ByteArray := prog_3_method_1_code
def yX1_init : MethodName := ⟨RX1, "<init>", "(III)V"⟩
abbrev cX1_clear : ByteArray := prog_3_method_2_code
def yX1_clear : MethodName := ⟨RX1, "clear", "()V"⟩
abbrev cX1_copyFrom : ByteArray := prog_3_method_3_code
def yX1_copyFrom : MethodName := ⟨RX1, "copyFrom", "(LPackingSearch$Plan;)V"⟩
abbrev cX1_boxVolume : ByteArray := prog_3_method_4_code
def yX1_boxVolume : MethodName := ⟨RX1, "boxVolume", "()I"⟩
abbrev cX1_takes : ByteArray := prog_3_method_5_code
def yX1_takes : MethodName := ⟨RX1, "takes", "(III)Z"⟩
abbrev cX1_hasCell : ByteArray := prog_3_method_6_code
def yX1_hasCell : MethodName := ⟨RX1, "hasCell", "(III)Z"⟩
abbrev cX1_pieceIn : ByteArray := prog_3_method_7_code
def yX1_pieceIn : MethodName := ⟨RX1, "pieceIn", "(III)I"⟩
abbrev cX1_size : ByteArray := prog_3_method_8_code
def yX1_size : MethodName := ⟨RX1, "size", "()I"⟩
abbrev cX1_volume : ByteArray := prog_3_method_9_code
def yX1_volume : MethodName := ⟨RX1, "volume", "()I"⟩
abbrev cX1_weight : ByteArray := prog_3_method_10_code
def yX1_weight : MethodName := ⟨RX1, "weight", "()I"⟩
abbrev cX1_top : ByteArray := prog_3_method_11_code
def yX1_top : MethodName := ⟨RX1, "top", "()I"⟩
abbrev cX1_ends : ByteArray := prog_3_method_12_code
def yX1_ends : MethodName := ⟨RX1, "ends", "(I)I"⟩
abbrev cX1_isPlanWith : ByteArray := prog_3_method_13_code
def yX1_isPlanWith : MethodName := ⟨RX1, "isPlanWith", "(LPackingSearch$Spot;I)Z"⟩
abbrev cX1_hasRoomFor : ByteArray := prog_3_method_14_code
def yX1_hasRoomFor : MethodName := ⟨RX1, "hasRoomFor", "(LPackingSearch$Spot;)Z"⟩
abbrev cX1_supportOf : ByteArray := prog_3_method_15_code
def yX1_supportOf : MethodName := ⟨RX1, "supportOf", "(LPackingSearch$Spot;)I"⟩
abbrev cX1_weightsAreBorne : ByteArray := prog_3_method_16_code
def yX1_weightsAreBorne : MethodName := ⟨RX1, "weightsAreBorne", "()Z"⟩
abbrev cX1_noteStanders : ByteArray := prog_3_method_17_code
def yX1_noteStanders : MethodName := ⟨RX1, "noteStanders", "()V"⟩
abbrev cX1_weightOn : ByteArray := prog_3_method_18_code
def yX1_weightOn : MethodName := ⟨RX1, "weightOn", "(LPackingSearch$Spot;)I"⟩
def RX2 : String := "PackingSearch$Spot"
def TX2 : u_T := fun k => match k with
  | 0 => ("PackingSearch$Spot", "placed", "Z", false)
  | 1 => ("PackingSearch$Spot", "x", "I", false)
  | 2 => ("PackingSearch$Spot", "y", "I", false)
  | 3 => ("PackingSearch$Spot", "z", "I", false)
  | 4 => ("PackingSearch$Spot", "width", "I", false)
  | 5 => ("PackingSearch$Spot", "depth", "I", false)
  | 6 => ("PackingSearch$Spot", "height", "I", false)
  | 7 => ("PackingSearch$Spot", "way", "I", false)
  | 8 => ("PackingSearch$Spot", "weight", "I", false)
  | 9 => ("PackingSearch$Spot", "mostBorne", "I", false)
  | _ => ("PackingSearch$Spot", "standers", "I", false)
def tyX2 : Nat → FieldType := fun k => match k with
  | 0 => .boolean
  | 1 => .int
  | 2 => .int
  | 3 => .int
  | 4 => .int
  | 5 => .int
  | 6 => .int
  | 7 => .int
  | 8 => .int
  | 9 => .int
  | _ => .int
abbrev wsX20 : List Cond := u_ws RX2 TX2 11
theorem nmX2 : ∀ a, a < 11 → ∀ b, b < 11 → a ≠ b → (TX2 a).2.1 ≠ (TX2 b).2.1 := by decide +kernel
theorem tyX2_ok : ∀ k, k < 11 → parseFieldDescriptor (TX2 k).2.2.1 = some (tyX2 k) := by decide +kernel
abbrev cX2_init : ByteArray := prog_4_method_1_code
def yX2_init : MethodName := ⟨RX2, "<init>", "()V"⟩
abbrev cX2_stand : ByteArray := prog_4_method_2_code
def yX2_stand : MethodName := ⟨RX2, "stand", "(LPackingSearch$Piece;IIII)V"⟩
abbrev cX2_leave : ByteArray := prog_4_method_3_code
def yX2_leave : MethodName := ⟨RX2, "leave", "()V"⟩
abbrev cX2_copyFrom : ByteArray := prog_4_method_4_code
def yX2_copyFrom : MethodName := ⟨RX2, "copyFrom", "(LPackingSearch$Spot;)V"⟩
abbrev cX2_detail : ByteArray := prog_4_method_5_code
def yX2_detail : MethodName := ⟨RX2, "detail", "(I)I"⟩
abbrev cX2_endAlong : ByteArray := prog_4_method_6_code
def yX2_endAlong : MethodName := ⟨RX2, "endAlong", "(I)I"⟩
abbrev cX2_area : ByteArray := prog_4_method_7_code
def yX2_area : MethodName := ⟨RX2, "area", "()I"⟩
abbrev cX2_volume : ByteArray := prog_4_method_8_code
def yX2_volume : MethodName := ⟨RX2, "volume", "()I"⟩
abbrev cX2_covers : ByteArray := prog_4_method_9_code
def yX2_covers : MethodName := ⟨RX2, "covers", "(III)Z"⟩
abbrev cX2_meetsFromAbove : ByteArray := prog_4_method_10_code
def yX2_meetsFromAbove : MethodName := ⟨RX2, "meetsFromAbove", "(LPackingSearch$Spot;)Z"⟩
abbrev cX2_meets : ByteArray := prog_4_method_11_code
def yX2_meets : MethodName := ⟨RX2, "meets", "(LPackingSearch$Spot;)Z"⟩
abbrev cX2_standsOn : ByteArray := prog_4_method_12_code
def yX2_standsOn : MethodName := ⟨RX2, "standsOn", "(LPackingSearch$Spot;)Z"⟩
abbrev cX2_commonArea : ByteArray := prog_4_method_13_code
def yX2_commonArea : MethodName := ⟨RX2, "commonArea", "(LPackingSearch$Spot;)I"⟩
def RX3 : String := "PackingSearch"
def TX3 : u_T := fun k => match k with
  | 0 => ("PackingSearch", "pieces", "[LPackingSearch$Piece;", true)
  | 1 => ("PackingSearch", "plan", "LPackingSearch$Plan;", true)
  | 2 => ("PackingSearch", "trial", "LPackingSearch$Plan;", true)
  | 3 => ("PackingSearch", "order", "[I", true)
  | 4 => ("PackingSearch", "pieceCount", "I", false)
  | 5 => ("PackingSearch", "orderLength", "I", false)
  | 6 => ("PackingSearch", "leastShare", "I", false)
  | 7 => ("PackingSearch", "closedBoxes", "I", false)
  | 8 => ("PackingSearch", "stepsAllowed", "I", false)
  | 9 => ("PackingSearch", "stepsDone", "I", false)
  | 10 => ("PackingSearch", "bestVolume", "I", false)
  | 11 => ("PackingSearch", "cutShort", "Z", false)
  | _ => ("PackingSearch", "didAll", "Z", false)
def tyX3 : Nat → FieldType := fun k => match k with
  | 0 => .array (.object "PackingSearch$Piece")
  | 1 => .object "PackingSearch$Plan"
  | 2 => .object "PackingSearch$Plan"
  | 3 => .array .int
  | 4 => .int
  | 5 => .int
  | 6 => .int
  | 7 => .int
  | 8 => .int
  | 9 => .int
  | 10 => .int
  | 11 => .boolean
  | _ => .boolean
abbrev wsX30 : List Cond := u_ws RX3 TX3 13
theorem nmX3 : ∀ a, a < 13 → ∀ b, b < 13 → a ≠ b → (TX3 a).2.1 ≠ (TX3 b).2.1 := by decide +kernel
theorem tyX3_ok : ∀ k, k < 13 → parseFieldDescriptor (TX3 k).2.2.1 = some (tyX3 k) := by decide +kernel
abbrev cX3_init : ByteArray := prog_1_method_1_code
def yX3_init : MethodName := ⟨RX3, "<init>", "(III)V"⟩
abbrev cX3_piece : ByteArray := prog_1_method_2_code
def yX3_piece : MethodName := ⟨RX3, "piece", "(IIII)I"⟩
abbrev cX3_turn : ByteArray := prog_1_method_3_code
def yX3_turn : MethodName := ⟨RX3, "turn", "(II)I"⟩
abbrev cX3_limit : ByteArray := prog_1_method_4_code
def yX3_limit : MethodName := ⟨RX3, "limit", "(II)V"⟩
abbrev cX3_rank : ByteArray := prog_1_method_5_code
def yX3_rank : MethodName := ⟨RX3, "rank", "(II)I"⟩
abbrev cX3_share : ByteArray := prog_1_method_6_code
def yX3_share : MethodName := ⟨RX3, "share", "(I)V"⟩
abbrev cX3_solve : ByteArray := prog_1_method_7_code
def yX3_solve : MethodName := ⟨RX3, "solve", "(I)I"⟩
abbrev cX3_exact : ByteArray := prog_1_method_8_code
def yX3_exact : MethodName := ⟨RX3, "exact", "()Z"⟩
abbrev cX3_steps : ByteArray := prog_1_method_9_code
def yX3_steps : MethodName := ⟨RX3, "steps", "()I"⟩
abbrev cX3_bound : ByteArray := prog_1_method_10_code
def yX3_bound : MethodName := ⟨RX3, "bound", "()I"⟩
abbrev cX3_at : ByteArray := prog_1_method_11_code
def yX3_at : MethodName := ⟨RX3, "at", "(II)I"⟩
abbrev cX3_over : ByteArray := prog_1_method_12_code
def yX3_over : MethodName := ⟨RX3, "over", "(II)Z"⟩
abbrev cX3_support : ByteArray := prog_1_method_13_code
def yX3_support : MethodName := ⟨RX3, "support", "(I)I"⟩
abbrev cX3_bears : ByteArray := prog_1_method_14_code
def yX3_bears : MethodName := ⟨RX3, "bears", "(I)I"⟩
abbrev cX3_cell : ByteArray := prog_1_method_15_code
def yX3_cell : MethodName := ⟨RX3, "cell", "(III)I"⟩
abbrev cX3_close : ByteArray := prog_1_method_16_code
def yX3_close : MethodName := ⟨RX3, "close", "()I"⟩
abbrev cX3_box : ByteArray := prog_1_method_17_code
def yX3_box : MethodName := ⟨RX3, "box", "(I)I"⟩
abbrev cX3_count : ByteArray := prog_1_method_18_code
def yX3_count : MethodName := ⟨RX3, "count", "(I)I"⟩
abbrev cX3_asSide : ByteArray := prog_1_method_19_code
def yX3_asSide : MethodName := ⟨RX3, "asSide", "(I)I"⟩
abbrev cX3_isSide : ByteArray := prog_1_method_20_code
def yX3_isSide : MethodName := ⟨RX3, "isSide", "(I)Z"⟩
abbrev cX3_isIn : ByteArray := prog_1_method_21_code
def yX3_isIn : MethodName := ⟨RX3, "isIn", "(II)Z"⟩
abbrev cX3_known : ByteArray := prog_1_method_22_code
def yX3_known : MethodName := ⟨RX3, "known", "(I)LPackingSearch$Piece;"⟩
abbrev cX3_spotOf : ByteArray := prog_1_method_23_code
def yX3_spotOf : MethodName := ⟨RX3, "spotOf", "(I)LPackingSearch$Spot;"⟩
abbrev cX3_unpackedCount : ByteArray := prog_1_method_24_code
def yX3_unpackedCount : MethodName := ⟨RX3, "unpackedCount", "()I"⟩
abbrev cX3_positionOf : ByteArray := prog_1_method_25_code
def yX3_positionOf : MethodName := ⟨RX3, "positionOf", "(LPackingSearch$Piece;I)I"⟩
abbrev cX3_fitsAlone : ByteArray := prog_1_method_26_code
def yX3_fitsAlone : MethodName := ⟨RX3, "fitsAlone", "(LPackingSearch$Piece;)Z"⟩
abbrev cX3_startSearch : ByteArray := prog_1_method_27_code
def yX3_startSearch : MethodName := ⟨RX3, "startSearch", "(I)V"⟩
abbrev cX3_putInOrder : ByteArray := prog_1_method_28_code
def yX3_putInOrder : MethodName := ⟨RX3, "putInOrder", "()V"⟩
abbrev cX3_searchFrom : ByteArray := prog_1_method_29_code
def yX3_searchFrom : MethodName := ⟨RX3, "searchFrom", "(I)V"⟩
abbrev cX3_tryWay : ByteArray := prog_1_method_30_code
def yX3_tryWay : MethodName := ⟨RX3, "tryWay", "(ILPackingSearch$Piece;LPackingSearch$Spot;I)V"⟩
abbrev cX3_lookAtTrial : ByteArray := prog_1_method_31_code
def yX3_lookAtTrial : MethodName := ⟨RX3, "lookAtTrial", "()V"⟩
def RX4 : String := "PackingSearchModel"
def TX4 : u_T := fun k => match k with
  | 0 => ("PackingSearchModel", "thrownCode", "I", false)
  | 1 => ("PackingSearchModel", "width", "I", true)
  | 2 => ("PackingSearchModel", "depth", "I", true)
  | 3 => ("PackingSearchModel", "height", "I", true)
  | 4 => ("PackingSearchModel", "pieces", "I", false)
  | 5 => ("PackingSearchModel", "size", "[I", true)
  | 6 => ("PackingSearchModel", "weight", "[I", true)
  | 7 => ("PackingSearchModel", "marks", "[I", true)
  | 8 => ("PackingSearchModel", "most", "[I", true)
  | 9 => ("PackingSearchModel", "ranks", "[I", true)
  | 10 => ("PackingSearchModel", "boxes", "[I", true)
  | 11 => ("PackingSearchModel", "share", "I", false)
  | 12 => ("PackingSearchModel", "closed", "I", false)
  | 13 => ("PackingSearchModel", "way", "[I", true)
  | 14 => ("PackingSearchModel", "x", "[I", true)
  | 15 => ("PackingSearchModel", "y", "[I", true)
  | 16 => ("PackingSearchModel", "z", "[I", true)
  | 17 => ("PackingSearchModel", "w", "[I", true)
  | 18 => ("PackingSearchModel", "d", "[I", true)
  | 19 => ("PackingSearchModel", "h", "[I", true)
  | 20 => ("PackingSearchModel", "looked", "Z", false)
  | 21 => ("PackingSearchModel", "best", "I", false)
  | 22 => ("PackingSearchModel", "keptWay", "[I", true)
  | 23 => ("PackingSearchModel", "keptX", "[I", true)
  | 24 => ("PackingSearchModel", "keptY", "[I", true)
  | 25 => ("PackingSearchModel", "keptZ", "[I", true)
  | 26 => ("PackingSearchModel", "stepsNow", "I", false)
  | 27 => ("PackingSearchModel", "all", "Z", false)
  | 28 => ("PackingSearchModel", "count", "I", false)
  | 29 => ("PackingSearchModel", "order", "[I", true)
  | 30 => ("PackingSearchModel", "tryWay", "[I", true)
  | 31 => ("PackingSearchModel", "tryX", "[I", true)
  | 32 => ("PackingSearchModel", "tryY", "[I", true)
  | 33 => ("PackingSearchModel", "tryZ", "[I", true)
  | 34 => ("PackingSearchModel", "ends", "[I", true)
  | 35 => ("PackingSearchModel", "endCount", "[I", true)
  | _ => ("PackingSearchModel", "stack", "[I", true)
def tyX4 : Nat → FieldType := fun k => match k with
  | 0 => .int
  | 1 => .int
  | 2 => .int
  | 3 => .int
  | 4 => .int
  | 5 => .array .int
  | 6 => .array .int
  | 7 => .array .int
  | 8 => .array .int
  | 9 => .array .int
  | 10 => .array .int
  | 11 => .int
  | 12 => .int
  | 13 => .array .int
  | 14 => .array .int
  | 15 => .array .int
  | 16 => .array .int
  | 17 => .array .int
  | 18 => .array .int
  | 19 => .array .int
  | 20 => .boolean
  | 21 => .int
  | 22 => .array .int
  | 23 => .array .int
  | 24 => .array .int
  | 25 => .array .int
  | 26 => .int
  | 27 => .boolean
  | 28 => .int
  | 29 => .array .int
  | 30 => .array .int
  | 31 => .array .int
  | 32 => .array .int
  | 33 => .array .int
  | 34 => .array .int
  | 35 => .array .int
  | _ => .array .int
abbrev wsX40 : List Cond := u_ws RX4 TX4 37
theorem nmX4 : ∀ a, a < 37 → ∀ b, b < 37 → a ≠ b → (TX4 a).2.1 ≠ (TX4 b).2.1 := by decide +kernel
theorem tyX4_ok : ∀ k, k < 37 → parseFieldDescriptor (TX4 k).2.2.1 = some (tyX4 k) := by decide +kernel
abbrev cX4_init : ByteArray := prog_6_method_1_code
def yX4_init : MethodName := ⟨RX4, "<init>", "(III)V"⟩
abbrev cX4_held : ByteArray := prog_6_method_2_code
def yX4_held : MethodName := ⟨RX4, "held", "(I)I"⟩
abbrev cX4_from : ByteArray := prog_6_method_3_code
def yX4_from : MethodName := ⟨RX4, "from", "(II)I"⟩
abbrev cX4_measure : ByteArray := prog_6_method_4_code
def yX4_measure : MethodName := ⟨RX4, "measure", "(III)I"⟩
abbrev cX4_byMarks : ByteArray := prog_6_method_5_code
def yX4_byMarks : MethodName := ⟨RX4, "byMarks", "(II)Z"⟩
abbrev cX4_let : ByteArray := prog_6_method_6_code
def yX4_let : MethodName := ⟨RX4, "let", "(II)Z"⟩
abbrev cX4_stand : ByteArray := prog_6_method_7_code
def yX4_stand : MethodName := ⟨RX4, "stand", "(IIIII)V"⟩
abbrev cX4_common : ByteArray := prog_6_method_8_code
def yX4_common : MethodName := ⟨RX4, "common", "(IIII)I"⟩
abbrev cX4_area : ByteArray := prog_6_method_9_code
def yX4_area : MethodName := ⟨RX4, "area", "(II)I"⟩
abbrev cX4_standsOn : ByteArray := prog_6_method_10_code
def yX4_standsOn : MethodName := ⟨RX4, "standsOn", "(II)Z"⟩
abbrev cX4_supportOf : ByteArray := prog_6_method_11_code
def yX4_supportOf : MethodName := ⟨RX4, "supportOf", "(I)I"⟩
abbrev cX4_borne : ByteArray := prog_6_method_12_code
def yX4_borne : MethodName := ⟨RX4, "borne", "(I)I"⟩
abbrev cX4_isPlan : ByteArray := prog_6_method_13_code
def yX4_isPlan : MethodName := ⟨RX4, "isPlan", "()Z"⟩
abbrev cX4_volume : ByteArray := prog_6_method_14_code
def yX4_volume : MethodName := ⟨RX4, "volume", "(I)I"⟩
abbrev cX4_volumeNow : ByteArray := prog_6_method_15_code
def yX4_volumeNow : MethodName := ⟨RX4, "volumeNow", "()I"⟩
abbrev cX4_findOrder : ByteArray := prog_6_method_16_code
def yX4_findOrder : MethodName := ⟨RX4, "findOrder", "()V"⟩
abbrev cX4_end : ByteArray := prog_6_method_17_code
def yX4_end : MethodName := ⟨RX4, "end", "(III)V"⟩
abbrev cX4_enter : ByteArray := prog_6_method_18_code
def yX4_enter : MethodName := ⟨RX4, "enter", "(I)V"⟩
abbrev cX4_advance : ByteArray := prog_6_method_19_code
def yX4_advance : MethodName := ⟨RX4, "advance", "(I)Z"⟩
abbrev cX4_look : ByteArray := prog_6_method_20_code
def yX4_look : MethodName := ⟨RX4, "look", "()V"⟩
abbrev cX4_search : ByteArray := prog_6_method_21_code
def yX4_search : MethodName := ⟨RX4, "search", "(I)Z"⟩
abbrev cX4_thrown : ByteArray := prog_6_method_22_code
def yX4_thrown : MethodName := ⟨RX4, "thrown", "()I"⟩
abbrev cX4_noPiece : ByteArray := prog_6_method_23_code
def yX4_noPiece : MethodName := ⟨RX4, "noPiece", "(I)Z"⟩
abbrev cX4_not : ByteArray := prog_6_method_24_code
def yX4_not : MethodName := ⟨RX4, "not", "(III)Z"⟩
abbrev cX4_piece : ByteArray := prog_6_method_25_code
def yX4_piece : MethodName := ⟨RX4, "piece", "(IIII)I"⟩
abbrev cX4_turn : ByteArray := prog_6_method_26_code
def yX4_turn : MethodName := ⟨RX4, "turn", "(II)I"⟩
abbrev cX4_limit : ByteArray := prog_6_method_27_code
def yX4_limit : MethodName := ⟨RX4, "limit", "(II)V"⟩
abbrev cX4_rank : ByteArray := prog_6_method_28_code
def yX4_rank : MethodName := ⟨RX4, "rank", "(II)I"⟩
abbrev cX4_share : ByteArray := prog_6_method_29_code
def yX4_share : MethodName := ⟨RX4, "share", "(I)V"⟩
abbrev cX4_solve : ByteArray := prog_6_method_30_code
def yX4_solve : MethodName := ⟨RX4, "solve", "(I)I"⟩
abbrev cX4_exact : ByteArray := prog_6_method_31_code
def yX4_exact : MethodName := ⟨RX4, "exact", "()Z"⟩
abbrev cX4_steps : ByteArray := prog_6_method_32_code
def yX4_steps : MethodName := ⟨RX4, "steps", "()I"⟩
abbrev cX4_goesIn : ByteArray := prog_6_method_33_code
def yX4_goesIn : MethodName := ⟨RX4, "goesIn", "(I)Z"⟩
abbrev cX4_bound : ByteArray := prog_6_method_34_code
def yX4_bound : MethodName := ⟨RX4, "bound", "()I"⟩
abbrev cX4_at : ByteArray := prog_6_method_35_code
def yX4_at : MethodName := ⟨RX4, "at", "(II)I"⟩
abbrev cX4_over : ByteArray := prog_6_method_36_code
def yX4_over : MethodName := ⟨RX4, "over", "(II)Z"⟩
abbrev cX4_support : ByteArray := prog_6_method_37_code
def yX4_support : MethodName := ⟨RX4, "support", "(I)I"⟩
abbrev cX4_bears : ByteArray := prog_6_method_38_code
def yX4_bears : MethodName := ⟨RX4, "bears", "(I)I"⟩
abbrev cX4_cell : ByteArray := prog_6_method_39_code
def yX4_cell : MethodName := ⟨RX4, "cell", "(III)I"⟩
abbrev cX4_close : ByteArray := prog_6_method_40_code
def yX4_close : MethodName := ⟨RX4, "close", "()I"⟩
abbrev cX4_box : ByteArray := prog_6_method_41_code
def yX4_box : MethodName := ⟨RX4, "box", "(I)I"⟩
abbrev cX4_count : ByteArray := prog_6_method_42_code
def yX4_count : MethodName := ⟨RX4, "count", "(I)I"⟩
def RJx00060 : String := "java/lang/ArrayIndexOutOfBoundsException"
def TJx00060 : u_T := fun k => match k with
  | 0 => ("java/lang/Throwable", "cause", "Ljava/lang/Throwable;", false)
  | 1 => ("java/lang/Throwable", "stackTrace", "[Ljava/lang/StackTraceElement;", false)
  | 2 => ("java/lang/Throwable", "suppressedExceptions", "Ljava/util/List;", false)
  | 3 => ("java/lang/Throwable", "detailMessage", "Ljava/lang/String;", false)
  | 4 => ("java/lang/Throwable", "backtrace", "Ljava/lang/Object;", false)
  | _ => ("java/lang/Throwable", "depth", "I", false)
def tyJx00060 : Nat → FieldType := fun k => match k with
  | 0 => .object "java/lang/Throwable"
  | 1 => .array (.object "java/lang/StackTraceElement")
  | 2 => .object "java/util/List"
  | 3 => .object "java/lang/String"
  | 4 => .object "java/lang/Object"
  | _ => .int
abbrev wsJx000600 : List Cond := u_ws RJx00060 TJx00060 6
theorem nmJx00060 : ∀ a, a < 6 → ∀ b, b < 6 → a ≠ b → (TJx00060 a).2.1 ≠ (TJx00060 b).2.1 := by decide +kernel
theorem tyJx00060_ok : ∀ k, k < 6 → parseFieldDescriptor (TJx00060 k).2.2.1 = some (tyJx00060 k) := by decide +kernel
abbrev cJx00060_init_a7421 : ByteArray := prog_8_method_2_code
def yJx00060_init_a7421 : MethodName := ⟨RJx00060, "<init>", "(Ljava/lang/String;)V"⟩
def RJ6 : String := "java/lang/Integer"
def TJ6 : u_T := fun k => match k with
  | _ => ("", "", "", false)
def tyJ6 : Nat → FieldType := fun k => match k with
  | _ => .int
abbrev wsJ60 : List Cond := u_ws RJ6 TJ6 0
theorem nmJ6 : ∀ a, a < 0 → ∀ b, b < 0 → a ≠ b → (TJ6 a).2.1 ≠ (TJ6 b).2.1 := by decide +kernel
theorem tyJ6_ok : ∀ k, k < 0 → parseFieldDescriptor (TJ6 k).2.2.1 = some (tyJ6 k) := by decide +kernel
abbrev cJ6_bitCount_0f7a4 : ByteArray := prog_13_method_49_code
def yJ6_bitCount_0f7a4 : MethodName := ⟨RJ6, "bitCount", "(I)I"⟩
def RJ9 : String := "java/lang/Math"
def TJ9 : u_T := fun k => match k with
  | _ => ("", "", "", false)
def tyJ9 : Nat → FieldType := fun k => match k with
  | _ => .int
abbrev wsJ90 : List Cond := u_ws RJ9 TJ9 0
theorem nmJ9 : ∀ a, a < 0 → ∀ b, b < 0 → a ≠ b → (TJ9 a).2.1 ≠ (TJ9 b).2.1 := by decide +kernel
theorem tyJ9_ok : ∀ k, k < 0 → parseFieldDescriptor (TJ9 k).2.2.1 = some (tyJ9 k) := by decide +kernel
abbrev cJ9_max_7cf53 : ByteArray := prog_14_method_65_code
def yJ9_max_7cf53 : MethodName := ⟨RJ9, "max", "(II)I"⟩
abbrev cJ9_min_7cf53 : ByteArray := prog_14_method_69_code
def yJ9_min_7cf53 : MethodName := ⟨RJ9, "min", "(II)I"⟩
def RJ0 : String := "java/lang/String"
def TJ0 : u_T := fun k => match k with
  | _ => ("", "", "", false)
def tyJ0 : Nat → FieldType := fun k => match k with
  | _ => .int
abbrev wsJ00 : List Cond := u_ws RJ0 TJ0 0
theorem nmJ0 : ∀ a, a < 0 → ∀ b, b < 0 → a ≠ b → (TJ0 a).2.1 ≠ (TJ0 b).2.1 := by decide +kernel
theorem tyJ0_ok : ∀ k, k < 0 → parseFieldDescriptor (TJ0 k).2.2.1 = some (tyJ0 k) := by decide +kernel
def RL : String := "PackingSearchLaw"
abbrev cL_cell : ByteArray := method_2_code
def yL_cell : MethodName := ⟨RL, "cell", "([II)I"⟩
abbrev cL_piece : ByteArray := method_3_code
def yL_piece : MethodName := ⟨RL, "piece", "(LPackingSearch;IIII[J)I"⟩
abbrev cL_turn : ByteArray := method_4_code
def yL_turn : MethodName := ⟨RL, "turn", "(LPackingSearch;II[J)I"⟩
abbrev cL_limit : ByteArray := method_5_code
def yL_limit : MethodName := ⟨RL, "limit", "(LPackingSearch;II)I"⟩
abbrev cL_rank : ByteArray := method_6_code
def yL_rank : MethodName := ⟨RL, "rank", "(LPackingSearch;II[J)I"⟩
abbrev cL_share : ByteArray := method_7_code
def yL_share : MethodName := ⟨RL, "share", "(LPackingSearch;I)I"⟩
abbrev cL_solve : ByteArray := method_8_code
def yL_solve : MethodName := ⟨RL, "solve", "(LPackingSearch;I[J)I"⟩
abbrev cL_at : ByteArray := method_9_code
def yL_at : MethodName := ⟨RL, "at", "(LPackingSearch;II[J)I"⟩
abbrev cL_over : ByteArray := method_10_code
def yL_over : MethodName := ⟨RL, "over", "(LPackingSearch;II[J)I"⟩
abbrev cL_support : ByteArray := method_11_code
def yL_support : MethodName := ⟨RL, "support", "(LPackingSearch;I[J)I"⟩
abbrev cL_bears : ByteArray := method_12_code
def yL_bears : MethodName := ⟨RL, "bears", "(LPackingSearch;I[J)I"⟩
abbrev cL_cell_ : ByteArray := method_13_code
def yL_cell_ : MethodName := ⟨RL, "cell", "(LPackingSearch;III[J)I"⟩
abbrev cL_close : ByteArray := method_14_code
def yL_close : MethodName := ⟨RL, "close", "(LPackingSearch;[J)I"⟩
abbrev cL_box : ByteArray := method_15_code
def yL_box : MethodName := ⟨RL, "box", "(LPackingSearch;I[J)I"⟩
abbrev cL_law : ByteArray := code
def yL_law : MethodName := ⟨RL, "law", "([I)Z"⟩
abbrev vwCl : List vw_C := [(RJx00060, TJx00060, 6), (RX0, TX0, 8), (RX1, TX1, 4), (RX2, TX2, 11), (RX3, TX3, 13), (RX4, TX4, 37)]
end
section
/-! the words, the array classes, the nest's links -/
def WS : List Cond := lw_tbl.filter goodWord
theorem ws_mem {w : Cond} (i : Nat) (h : lw_tbl[i]? = some w) (g : goodWord w = true) : w ∈ WS := List.mem_filter.mpr ⟨List.mem_of_getElem? h, g⟩
def tys (ca : Nat → ClassId) : List (ClassId × FieldType) := [(ca 0, .int), (ca 1, .object "PackingSearch$Piece"), (ca 2, .object "PackingSearch$Spot"), (ca 3, .long)]
def NW : List Cond := [.methodLinkNest RX0 33 yX3_isIn "PackingSearch", .methodLinkNest RX1 117 yX3_isIn "PackingSearch"]
def NWs (U : State) : Prop := ∀ w ∈ NW, va_Nw w U
theorem NWs.same {u U : State} (h : u.vm = U.vm) (hN : NWs u) : NWs U := fun w hw => va_Nw.same (by simp only [NW, List.mem_cons, List.not_mem_nil, or_false] at hw; rcases hw with rfl | rfl <;> rfl) h (hN w hw)
theorem NWs.warm {s U : State} (hW : s.WarmedH U.vm) (hN : NWs s) : NWs U := fun w hw => by
  have h1 := hN w hw
  simp only [NW, List.mem_cons, List.not_mem_nil, or_false] at hw
  rcases hw with rfl | rfl <;> exact va_Nw.warmM hW h1
end
section
/-! worlds of a shape: places k with an address ad k; the state is a number for each place and field -/
abbrev St : Type := Nat → Nat → Int32
/-- a field: a reference to a place, or a number (true: a boolean) -/
abbrev sF : Type := Nat ⊕ Bool
/-- a place: an object (its class's number, its fields), or an array (number of its class, length, none: ints; some none: longs that are ints; some (some b): references to the places b, b + 1, ..) -/
abbrev sO : Type := (Nat × List sF) ⊕ (Nat × Nat × Option (Option Nat))
def su (σ : St) (k j : Nat) (v : Int32) : St := fun a b => if a = k ∧ b = j then v else σ a b
theorem su_same (σ : St) (k j : Nat) (v : Int32) : su σ k j v k j = v := by simp [su]
theorem su_ne (σ : St) {k j a b : Nat} (v : Int32) (h : ¬ (a = k ∧ b = j)) : su σ k j v a b = σ a b := by simp only [su, if_neg h]
def sv (ad : Nat → Nat) (f : Nat → Int32) (j : Nat) : sF → Value
  | .inl p => .ref (ad p)
  | .inr false => .int (f j)
  | .inr true => .int (f j &&& 1)
def sc (ca : Nat → ClassId) (ad : Nat → Nat) (f : Nat → Int32) : sO → va_E
  | .inl o => .inr (o.1, o.2.mapIdx (fun j x => sv ad f j x))
  | .inr (t, n, none) => .inl (ca t, n, .inl f)
  | .inr (t, n, some none) => .inl (ca t, n, .inr (.inl (fun j => (f j).toInt64)))
  | .inr (t, n, some (some b)) => .inl (ca t, n, .inr (.inr (.inr (.inr (fun j => some (ad (b + j)))))))
def wd (sh : List sO) (ca : Nat → ClassId) (ad : Nat → Nat) (σ : St) : va_W := sh.mapIdx (fun k o => (ad k, sc ca ad (σ k) o))
theorem wd_at {sh : List sO} {ca : Nat → ClassId} {ad : Nat → Nat} {σ : St} {k : Nat} {o : sO} (h : sh[k]? = some o) : (wd sh ca ad σ)[k]? = some (ad k, sc ca ad (σ k) o) := by
  simp [wd, h]
theorem wd_set {sh : List sO} {ca : Nat → ClassId} {ad : Nat → Nat} {σ τ : St} {k : Nat} {o : sO} {e : va_E} (h : sh[k]? = some o) (he : e = sc ca ad (τ k) o) (ho : ∀ a, a ≠ k → τ a = σ a) : (wd sh ca ad σ).set k (ad k, e) = wd sh ca ad τ := by
  apply List.ext_getElem?
  intro i
  have hk : k < sh.length := (List.getElem?_eq_some_iff.mp h).1
  by_cases hi : i = k
  · subst hi
    rw [wd_at h, List.getElem?_set_self (by simpa [wd] using hk), he]
  · rw [List.getElem?_set_ne (Ne.symm hi)]
    simp [wd, ho i hi]
theorem su_row {σ : St} {k j : Nat} {v : Int32} {a : Nat} (h : a ≠ k) : su σ k j v a = σ a := by
  funext b
  simp [su, h]
theorem su_at {σ : St} {k j : Nat} {v : Int32} : su σ k j v k = upd (σ k) j v := by
  funext b
  simp [su, upd]
theorem sv_set {ad : Nat → Nat} {f : Nat → Int32} {fs : List sF} {j : Nat} {v : Int32} {x : sF} (h : fs[j]? = some x) (hv : sv ad (upd f j v) j x = .int v) : (fs.mapIdx (fun i y => sv ad f i y)).set j (.int v) = fs.mapIdx (fun i y => sv ad (upd f j v) i y) := by
  apply List.ext_getElem?
  intro i
  have hk : j < fs.length := (List.getElem?_eq_some_iff.mp h).1
  by_cases hi : i = j
  · subst hi
    rw [List.getElem?_set_self (by simpa using hk)]
    simp [h, hv]
  · rw [List.getElem?_set_ne (Ne.symm hi)]
    simp only [List.getElem?_mapIdx]
    cases fs[i]? with
    | none => rfl
    | some y =>
      rcases y with y | y
      · rfl
      · cases y <;> simp [sv, upd, hi]
/-! locals -/
def lh (ls : Array Slot) (lo : List (Option Value)) : Prop := ls.size = lo.length ∧ lv_wf ls ∧ (∀ (i : Nat) (v : Value), lo[i]? = some (some v) → ls[i]? = some (.val v)) ∧ ∀ (i : Nat) (v : Value), lo[i]? = some (some v) → v.category = 1
def lvl (lo : List (Option Value)) : List (Nat × Value) := (List.range lo.length).filterMap (fun i => match lo[i]? with | some (some v) => some (i, v) | _ => none)
theorem lvl_mem {lo : List (Option Value)} {q : Nat × Value} : q ∈ lvl lo ↔ lo[q.1]? = some (some q.2) := by
  obtain ⟨i, v⟩ := q
  simp only [lvl, List.mem_filterMap, List.mem_range]
  constructor
  · rintro ⟨a, ha, h⟩
    split at h
    · rename_i w hw
      cases h
      exact hw
    · cases h
  · intro h
    exact ⟨i, (List.getElem?_eq_some_iff.mp h).1, by simp [h]⟩
theorem lh_has {ls : Array Slot} {lo : List (Option Value)} (h : lh ls lo) : lv_has ls lo.length (lvl lo) := ⟨h.1, h.2.1, fun q hq => h.2.2.1 q.1 q.2 (lvl_mem.mp hq)⟩
theorem lh_set {ls ls' : Array Slot} {lo : List (Option Value)} {i : Nat} {v : Value} (h : lh ls lo) (hi : i < lo.length) (hc : v.category = 1) (h' : lv_has ls' lo.length ((i, v) :: (lvl lo).filter (fun q => !(q.1 == i) && !(q.1 + 1 == i && q.2.category == 2)))) : lh ls' (lo.set i (some v)) := by
  refine ⟨by rw [h'.1, List.length_set], h'.2.1, fun j w hj => ?_, fun j w hj => ?_⟩
  · by_cases e : j = i
    · subst e
      rw [List.getElem?_set_self hi] at hj
      cases hj
      exact h'.2.2 (j, v) List.mem_cons_self
    · rw [List.getElem?_set_ne (Ne.symm e)] at hj
      refine h'.2.2 (j, w) (List.mem_cons_of_mem _ (List.mem_filter.mpr ⟨lvl_mem.mpr hj, ?_⟩))
      have := h.2.2.2 j w hj
      simp [e, this]
  · by_cases e : j = i
    · subst e
      rw [List.getElem?_set_self hi] at hj
      cases hj
      exact hc
    · rw [List.getElem?_set_ne (Ne.symm e)] at hj
      exact h.2.2.2 j w hj
theorem lh_sub {ls : Array Slot} {lo lo' : List (Option Value)} (h : lh ls lo) (hl : lo'.length = lo.length) (hs : ∀ (i : Nat) (v : Value), lo'[i]? = some (some v) → lo[i]? = some (some v)) : lh ls lo' := ⟨by rw [hl]; exact h.1, h.2.1, fun i v hi => h.2.2.1 i v (hs i v hi), fun i v hi => h.2.2.2 i v (hs i v hi)⟩
/-- fewer locals: each is the same or forgotten -/
def lfew : List (Option Value) → List (Option Value) → Prop
  | [], [] => True
  | a :: r, b :: q => (b = none ∨ b = a) ∧ lfew r q
  | _, _ => False
theorem lfew_len : ∀ {lo lo' : List (Option Value)}, lfew lo lo' → lo'.length = lo.length
  | [], [], _ => rfl
  | _ :: r, _ :: q, h => by simp [lfew_len h.2]
  | [], _ :: _, h => h.elim
  | _ :: _, [], h => h.elim
theorem lfew_at : ∀ {lo lo' : List (Option Value)}, lfew lo lo' → ∀ (i : Nat) (v : Value), lo'[i]? = some (some v) → lo[i]? = some (some v)
  | [], [], _, i, v, h => by simp at h
  | a :: r, b :: q, hf, 0, v, h => by
    simp only [List.getElem?_cons_zero, Option.some.injEq] at h ⊢
    rcases hf.1 with e | e
    · rw [e] at h; cases h
    · rw [← e]; exact h
  | a :: r, b :: q, hf, i + 1, v, h => by
    simp only [List.getElem?_cons_succ] at h ⊢
    exact lfew_at hf.2 i v h
  | [], _ :: _, hf, _, _, _ => hf.elim
  | _ :: _, [], hf, _, _, _ => hf.elim

/-! the judgement: in every heap that holds the world of σ, with these locals, this stack -/
def WW (p : Program) (l : Launch) (e : Env) (R : Room) (s : State) (m : MethodId) (args : Array Value) (below : List Frame) (meth : Method) (c : Code) (cells slots : Nat) (Q : State → Prop) (A : Nat → Prop) (D : va_G) (ca : Nat → ClassId) (ad : Nat → Nat) (sh : List sO) (pc : Nat) (lo : List (Option Value)) (st : List Value) (σ : St) : Prop :=
  ∀ (H : Heap) (locs : List Loc) (ls : Array Slot), va_P D vwCl (wd sh ca ad σ) H → va_D A (wd sh ca ad σ) → va_S A s.heap H locs → lh ls lo → W p l e R s m args below meth c H locs cells slots Q (F0 m pc ls st)
/-- a method's own: the machine, its code, its class, the words, the classes -/
def CX (p : Program) (s : State) (m : MethodId) (args : Array Value) (c : Code) (D : va_G) (ca : Nat → ClassId) (A : Nat → Prop) (own : String) (cc : ByteArray) (nL : Nat) : Prop :=
  p.tables.exec = Jvm.exec ∧ c.code = cc ∧ c.maxLocals = nL ∧ s.vm.findClass own = some m.cls ∧ (∀ w ∈ WS, w.before args s = true) ∧ va_K D vwCl (tys ca) s ∧ (∀ q, s.heap.size ≤ q → A q) ∧ NWs s
section WWR
variable {p : Program} {l : Launch} {e : Env} {R : Room} {s : State} {m : MethodId} {args : Array Value} {below : List Frame} {meth : Method} {c : Code} {cells slots : Nat} {Q : State → Prop} {A : Nat → Prop} {D : va_G} {ca : Nat → ClassId} {ad : Nat → Nat} {sh : List sO} {own : String} {cc : ByteArray} {nL pc : Nat} {lo : List (Option Value)} {st : List Value} {σ : St}

theorem s_iconst (C : CX p s m args c D ca A own cc nL) {n : Int} {v : Int32} (d : decode cc pc = .ok (.iconst n, 1)) (hv : Int32.ofInt n = v) (k : WW p l e R s m args below meth c cells slots Q A D ca ad sh (pc + 1) lo (.int v :: st) σ) : WW p l e R s m args below meth c cells slots Q A D ca ad sh pc lo st σ := fun H locs ls hP hD hS hl => lv_iconst C.1 C.2.1 d hv (k H locs ls hP hD hS hl)
theorem s_bipush (C : CX p s m args c D ca A own cc nL) {n : Int} {v : Int32} (d : decode cc pc = .ok (.bipush n, 2)) (hv : (Int8.ofInt n).toInt32 = v) (k : WW p l e R s m args below meth c cells slots Q A D ca ad sh (pc + 2) lo (.int v :: st) σ) : WW p l e R s m args below meth c cells slots Q A D ca ad sh pc lo st σ := fun H locs ls hP hD hS hl => lv_bipush C.1 C.2.1 d hv (k H locs ls hP hD hS hl)
theorem s_sipush (C : CX p s m args c D ca A own cc nL) {n : Int} {v : Int32} (d : decode cc pc = .ok (.sipush n, 3)) (hv : (Int16.ofInt n).toInt32 = v) (k : WW p l e R s m args below meth c cells slots Q A D ca ad sh (pc + 3) lo (.int v :: st) σ) : WW p l e R s m args below meth c cells slots Q A D ca ad sh pc lo st σ := fun H locs ls hP hD hS hl => lv_sipush C.1 C.2.1 d hv (k H locs ls hP hD hS hl)
theorem s_iloadn (C : CX p s m args c D ca A own cc nL) {q : Fin 4} {x : Int32} (d : decode cc pc = .ok (.iload_n q, 1)) (hx : lo[(q : Nat)]? = some (some (.int x))) (k : WW p l e R s m args below meth c cells slots Q A D ca ad sh (pc + 1) lo (.int x :: st) σ) : WW p l e R s m args below meth c cells slots Q A D ca ad sh pc lo st σ := fun H locs ls hP hD hS hl => lv_iload_n C.1 C.2.1 d rfl (hl.2.2.1 _ _ hx) (k H locs ls hP hD hS hl)
theorem s_iload (C : CX p s m args c D ca A own cc nL) {i : Nat} {x : Int32} (d : decode cc pc = .ok (.iload i, 2)) (hx : lo[i]? = some (some (.int x))) (k : WW p l e R s m args below meth c cells slots Q A D ca ad sh (pc + 2) lo (.int x :: st) σ) : WW p l e R s m args below meth c cells slots Q A D ca ad sh pc lo st σ := fun H locs ls hP hD hS hl => lv_iload C.1 C.2.1 d (hl.2.2.1 _ _ hx) (k H locs ls hP hD hS hl)
theorem s_istoren (C : CX p s m args c D ca A own cc nL) {q : Fin 4} {x : Int32} {lo' : List (Option Value)} (d : decode cc pc = .ok (.istore_n q, 1)) (hi : (q : Nat) < lo.length) (hs : lo.set q (some (.int x)) = lo') (k : WW p l e R s m args below meth c cells slots Q A D ca ad sh (pc + 1) lo' st σ) : WW p l e R s m args below meth c cells slots Q A D ca ad sh pc lo (.int x :: st) σ := fun H locs ls hP hD hS hl => lv_istore_n C.1 C.2.1 d rfl (lh_has hl) hi rfl (fun ls' h' => k H locs ls' hP hD hS (hs ▸ lh_set hl hi rfl h'))
theorem s_istore (C : CX p s m args c D ca A own cc nL) {i : Nat} {x : Int32} {lo' : List (Option Value)} (d : decode cc pc = .ok (.istore i, 2)) (hi : i < lo.length) (hs : lo.set i (some (.int x)) = lo') (k : WW p l e R s m args below meth c cells slots Q A D ca ad sh (pc + 2) lo' st σ) : WW p l e R s m args below meth c cells slots Q A D ca ad sh pc lo (.int x :: st) σ := fun H locs ls hP hD hS hl => lv_istore C.1 C.2.1 d (lh_has hl) hi rfl (fun ls' h' => k H locs ls' hP hD hS (hs ▸ lh_set hl hi rfl h'))
theorem s_aloadn (C : CX p s m args c D ca A own cc nL) {q : Fin 4} {x : Nat} (d : decode cc pc = .ok (.aload_n q, 1)) (hx : lo[(q : Nat)]? = some (some (.ref x))) (k : WW p l e R s m args below meth c cells slots Q A D ca ad sh (pc + 1) lo (.ref x :: st) σ) : WW p l e R s m args below meth c cells slots Q A D ca ad sh pc lo st σ := fun H locs ls hP hD hS hl => lv_aload_n C.1 C.2.1 d rfl (hl.2.2.1 _ _ hx) (k H locs ls hP hD hS hl)
theorem s_aload (C : CX p s m args c D ca A own cc nL) {i : Nat} {x : Nat} (d : decode cc pc = .ok (.aload i, 2)) (hx : lo[i]? = some (some (.ref x))) (k : WW p l e R s m args below meth c cells slots Q A D ca ad sh (pc + 2) lo (.ref x :: st) σ) : WW p l e R s m args below meth c cells slots Q A D ca ad sh pc lo st σ := fun H locs ls hP hD hS hl => lv_aload C.1 C.2.1 d (hl.2.2.1 _ _ hx) (k H locs ls hP hD hS hl)
theorem s_astoren (C : CX p s m args c D ca A own cc nL) {q : Fin 4} {x : Nat} {lo' : List (Option Value)} (d : decode cc pc = .ok (.astore_n q, 1)) (hi : (q : Nat) < lo.length) (hs : lo.set q (some (.ref x)) = lo') (k : WW p l e R s m args below meth c cells slots Q A D ca ad sh (pc + 1) lo' st σ) : WW p l e R s m args below meth c cells slots Q A D ca ad sh pc lo (.ref x :: st) σ := fun H locs ls hP hD hS hl => lv_astore_n C.1 C.2.1 d rfl (lh_has hl) hi rfl (fun ls' h' => k H locs ls' hP hD hS (hs ▸ lh_set hl hi rfl h'))
theorem s_astore (C : CX p s m args c D ca A own cc nL) {i : Nat} {x : Nat} {lo' : List (Option Value)} (d : decode cc pc = .ok (.astore i, 2)) (hi : i < lo.length) (hs : lo.set i (some (.ref x)) = lo') (k : WW p l e R s m args below meth c cells slots Q A D ca ad sh (pc + 2) lo' st σ) : WW p l e R s m args below meth c cells slots Q A D ca ad sh pc lo (.ref x :: st) σ := fun H locs ls hP hD hS hl => lv_astore C.1 C.2.1 d (lh_has hl) hi rfl (fun ls' h' => k H locs ls' hP hD hS (hs ▸ lh_set hl hi rfl h'))
theorem s_iinc (C : CX p s m args c D ca A own cc nL) {i : Nat} {n : Int} {x v : Int32} {lo' : List (Option Value)} (d : decode cc pc = .ok (.iinc i n, 3)) (hx : lo[i]? = some (some (.int x))) (hv : x + Int32.ofInt n = v) (hs : lo.set i (some (.int v)) = lo') (k : WW p l e R s m args below meth c cells slots Q A D ca ad sh (pc + 3) lo' st σ) : WW p l e R s m args below meth c cells slots Q A D ca ad sh pc lo st σ := fun H locs ls hP hD hS hl => by
  have hi : i < lo.length := (List.getElem?_eq_some_iff.mp hx).1
  obtain ⟨j, hj⟩ := List.getElem?_of_mem (lvl_mem (q := (i, .int x)).mpr hx)
  exact lv_iinc C.1 C.2.1 d (lh_has hl) hj hv hi rfl (fun ls' h' => k H locs ls' hP hD hS (hs ▸ lh_set hl hi rfl h'))
theorem s_iadd (C : CX p s m args c D ca A own cc nL) {x y : Int32} (d : decode cc pc = .ok (.iadd, 1)) (k : WW p l e R s m args below meth c cells slots Q A D ca ad sh (pc + 1) lo (.int (x + y) :: st) σ) : WW p l e R s m args below meth c cells slots Q A D ca ad sh pc lo (.int y :: .int x :: st) σ := fun H locs ls hP hD hS hl => lv_iadd C.1 C.2.1 d (k H locs ls hP hD hS hl)
theorem s_isub (C : CX p s m args c D ca A own cc nL) {x y : Int32} (d : decode cc pc = .ok (.isub, 1)) (k : WW p l e R s m args below meth c cells slots Q A D ca ad sh (pc + 1) lo (.int (x - y) :: st) σ) : WW p l e R s m args below meth c cells slots Q A D ca ad sh pc lo (.int y :: .int x :: st) σ := fun H locs ls hP hD hS hl => lv_isub C.1 C.2.1 d (k H locs ls hP hD hS hl)
theorem s_imul (C : CX p s m args c D ca A own cc nL) {x y : Int32} (d : decode cc pc = .ok (.imul, 1)) (k : WW p l e R s m args below meth c cells slots Q A D ca ad sh (pc + 1) lo (.int (x * y) :: st) σ) : WW p l e R s m args below meth c cells slots Q A D ca ad sh pc lo (.int y :: .int x :: st) σ := fun H locs ls hP hD hS hl => lv_imul C.1 C.2.1 d (k H locs ls hP hD hS hl)
theorem s_iand (C : CX p s m args c D ca A own cc nL) {x y : Int32} (d : decode cc pc = .ok (.iand, 1)) (k : WW p l e R s m args below meth c cells slots Q A D ca ad sh (pc + 1) lo (.int (x &&& y) :: st) σ) : WW p l e R s m args below meth c cells slots Q A D ca ad sh pc lo (.int y :: .int x :: st) σ := fun H locs ls hP hD hS hl => lv_iand C.1 C.2.1 d (k H locs ls hP hD hS hl)
theorem s_ior (C : CX p s m args c D ca A own cc nL) {x y : Int32} (d : decode cc pc = .ok (.ior, 1)) (k : WW p l e R s m args below meth c cells slots Q A D ca ad sh (pc + 1) lo (.int (x ||| y) :: st) σ) : WW p l e R s m args below meth c cells slots Q A D ca ad sh pc lo (.int y :: .int x :: st) σ := fun H locs ls hP hD hS hl => lv_ior C.1 C.2.1 d (k H locs ls hP hD hS hl)
theorem s_ixor (C : CX p s m args c D ca A own cc nL) {x y : Int32} (d : decode cc pc = .ok (.ixor, 1)) (k : WW p l e R s m args below meth c cells slots Q A D ca ad sh (pc + 1) lo (.int (x ^^^ y) :: st) σ) : WW p l e R s m args below meth c cells slots Q A D ca ad sh pc lo (.int y :: .int x :: st) σ := fun H locs ls hP hD hS hl => lv_ixor C.1 C.2.1 d (k H locs ls hP hD hS hl)
theorem s_ishl (C : CX p s m args c D ca A own cc nL) {x y : Int32} (d : decode cc pc = .ok (.ishl, 1)) (k : WW p l e R s m args below meth c cells slots Q A D ca ad sh (pc + 1) lo (.int (x <<< (y &&& 31)) :: st) σ) : WW p l e R s m args below meth c cells slots Q A D ca ad sh pc lo (.int y :: .int x :: st) σ := fun H locs ls hP hD hS hl => lv_ishl C.1 C.2.1 d (k H locs ls hP hD hS hl)
theorem s_ishr (C : CX p s m args c D ca A own cc nL) {x y : Int32} (d : decode cc pc = .ok (.ishr, 1)) (k : WW p l e R s m args below meth c cells slots Q A D ca ad sh (pc + 1) lo (.int (x >>> (y &&& 31)) :: st) σ) : WW p l e R s m args below meth c cells slots Q A D ca ad sh pc lo (.int y :: .int x :: st) σ := fun H locs ls hP hD hS hl => lv_ishr C.1 C.2.1 d (k H locs ls hP hD hS hl)
theorem s_idiv (C : CX p s m args c D ca A own cc nL) {x y : Int32} (d : decode cc pc = .ok (.idiv, 1)) (hne : ¬ y = 0) (k : WW p l e R s m args below meth c cells slots Q A D ca ad sh (pc + 1) lo (.int (x / y) :: st) σ) : WW p l e R s m args below meth c cells slots Q A D ca ad sh pc lo (.int y :: .int x :: st) σ := fun H locs ls hP hD hS hl => lv_idiv C.1 C.2.1 d hne (k H locs ls hP hD hS hl)
theorem s_irem (C : CX p s m args c D ca A own cc nL) {x y : Int32} (d : decode cc pc = .ok (.irem, 1)) (hne : ¬ y = 0) (k : WW p l e R s m args below meth c cells slots Q A D ca ad sh (pc + 1) lo (.int (x - x / y * y) :: st) σ) : WW p l e R s m args below meth c cells slots Q A D ca ad sh pc lo (.int y :: .int x :: st) σ := fun H locs ls hP hD hS hl => lv_irem C.1 C.2.1 d hne (k H locs ls hP hD hS hl)
theorem s_ineg (C : CX p s m args c D ca A own cc nL) {x : Int32} (d : decode cc pc = .ok (.ineg, 1)) (k : WW p l e R s m args below meth c cells slots Q A D ca ad sh (pc + 1) lo (.int (-x) :: st) σ) : WW p l e R s m args below meth c cells slots Q A D ca ad sh pc lo (.int x :: st) σ := fun H locs ls hP hD hS hl => lv_ineg C.1 C.2.1 d (k H locs ls hP hD hS hl)
theorem s_iushr (C : CX p s m args c D ca A own cc nL) {x y : Int32} (d : decode cc pc = .ok (.iushr, 1)) (k : WW p l e R s m args below meth c cells slots Q A D ca ad sh (pc + 1) lo (.int ((x.toUInt32 >>> (y.toUInt32 &&& Int32.toUInt32 31)).toInt32) :: st) σ) : WW p l e R s m args below meth c cells slots Q A D ca ad sh pc lo (.int y :: .int x :: st) σ := fun H locs ls hP hD hS hl => lv_iushr C.1 C.2.1 d rfl (k H locs ls hP hD hS hl)
theorem s_dup (C : CX p s m args c D ca A own cc nL) {v : Value} (d : decode cc pc = .ok (.dup, 1)) (hv : v.category = 1) (k : WW p l e R s m args below meth c cells slots Q A D ca ad sh (pc + 1) lo (v :: v :: st) σ) : WW p l e R s m args below meth c cells slots Q A D ca ad sh pc lo (v :: st) σ := fun H locs ls hP hD hS hl => lv_dup C.1 C.2.1 d hv (k H locs ls hP hD hS hl)
theorem s_pop (C : CX p s m args c D ca A own cc nL) {v : Value} (d : decode cc pc = .ok (.pop, 1)) (hv : v.category = 1) (k : WW p l e R s m args below meth c cells slots Q A D ca ad sh (pc + 1) lo st σ) : WW p l e R s m args below meth c cells slots Q A D ca ad sh pc lo (v :: st) σ := fun H locs ls hP hD hS hl => lv_pop C.1 C.2.1 d hv (k H locs ls hP hD hS hl)
theorem s_dupx1 (C : CX p s m args c D ca A own cc nL) {v w : Value} (d : decode cc pc = .ok (.dup_x1, 1)) (hv : v.category = 1) (hw : w.category = 1) (k : WW p l e R s m args below meth c cells slots Q A D ca ad sh (pc + 1) lo (v :: w :: v :: st) σ) : WW p l e R s m args below meth c cells slots Q A D ca ad sh pc lo (v :: w :: st) σ := fun H locs ls hP hD hS hl => lv_dup_x1 C.1 C.2.1 d hv hw (k H locs ls hP hD hS hl)
theorem s_dup2 (C : CX p s m args c D ca A own cc nL) {v w : Value} (d : decode cc pc = .ok (.dup2, 1)) (hv : v.category = 1) (hw : w.category = 1) (k : WW p l e R s m args below meth c cells slots Q A D ca ad sh (pc + 1) lo (v :: w :: v :: w :: st) σ) : WW p l e R s m args below meth c cells slots Q A D ca ad sh pc lo (v :: w :: st) σ := fun H locs ls hP hD hS hl => lv_dup2_11 C.1 C.2.1 d hv hw (k H locs ls hP hD hS hl)
theorem s_goto (C : CX p s m args c D ca A own cc nL) {off : Int} {tgt : Nat} (d : decode cc pc = .ok (.goto off, 3)) (ht : (pc : Int) + off = (tgt : Int)) (k : WW p l e R s m args below meth c cells slots Q A D ca ad sh tgt lo st σ) : WW p l e R s m args below meth c cells slots Q A D ca ad sh pc lo st σ := fun H locs ls hP hD hS hl => lv_goto C.1 C.2.1 d ht (k H locs ls hP hD hS hl)
theorem s_if_eq (C : CX p s m args c D ca A own cc nL) {x : Int32} {off : Int} {tgt : Nat} (d : decode cc pc = .ok (.ifCond .eq off, 3)) (ht : (pc : Int) + off = (tgt : Int)) (kt : x = 0 → WW p l e R s m args below meth c cells slots Q A D ca ad sh tgt lo st σ) (kf : ¬ x = 0 → WW p l e R s m args below meth c cells slots Q A D ca ad sh (pc + 3) lo st σ) : WW p l e R s m args below meth c cells slots Q A D ca ad sh pc lo (.int x :: st) σ := fun H locs ls hP hD hS hl => lv_if_eq C.1 C.2.1 d ht (fun h => kt h H locs ls hP hD hS hl) (fun h => kf h H locs ls hP hD hS hl)
theorem s_icmp_eq (C : CX p s m args c D ca A own cc nL) {x y : Int32} {off : Int} {tgt : Nat} (d : decode cc pc = .ok (.if_icmp .eq off, 3)) (ht : (pc : Int) + off = (tgt : Int)) (kt : x = y → WW p l e R s m args below meth c cells slots Q A D ca ad sh tgt lo st σ) (kf : ¬ x = y → WW p l e R s m args below meth c cells slots Q A D ca ad sh (pc + 3) lo st σ) : WW p l e R s m args below meth c cells slots Q A D ca ad sh pc lo (.int y :: .int x :: st) σ := fun H locs ls hP hD hS hl => lv_icmp_eq C.1 C.2.1 d ht (fun h => kt h H locs ls hP hD hS hl) (fun h => kf h H locs ls hP hD hS hl)
theorem s_if_lt (C : CX p s m args c D ca A own cc nL) {x : Int32} {off : Int} {tgt : Nat} (d : decode cc pc = .ok (.ifCond .lt off, 3)) (ht : (pc : Int) + off = (tgt : Int)) (kt : x < 0 → WW p l e R s m args below meth c cells slots Q A D ca ad sh tgt lo st σ) (kf : ¬ x < 0 → WW p l e R s m args below meth c cells slots Q A D ca ad sh (pc + 3) lo st σ) : WW p l e R s m args below meth c cells slots Q A D ca ad sh pc lo (.int x :: st) σ := fun H locs ls hP hD hS hl => lv_if_lt C.1 C.2.1 d ht (fun h => kt h H locs ls hP hD hS hl) (fun h => kf h H locs ls hP hD hS hl)
theorem s_icmp_lt (C : CX p s m args c D ca A own cc nL) {x y : Int32} {off : Int} {tgt : Nat} (d : decode cc pc = .ok (.if_icmp .lt off, 3)) (ht : (pc : Int) + off = (tgt : Int)) (kt : x < y → WW p l e R s m args below meth c cells slots Q A D ca ad sh tgt lo st σ) (kf : ¬ x < y → WW p l e R s m args below meth c cells slots Q A D ca ad sh (pc + 3) lo st σ) : WW p l e R s m args below meth c cells slots Q A D ca ad sh pc lo (.int y :: .int x :: st) σ := fun H locs ls hP hD hS hl => lv_icmp_lt C.1 C.2.1 d ht (fun h => kt h H locs ls hP hD hS hl) (fun h => kf h H locs ls hP hD hS hl)
theorem s_if_ge (C : CX p s m args c D ca A own cc nL) {x : Int32} {off : Int} {tgt : Nat} (d : decode cc pc = .ok (.ifCond .ge off, 3)) (ht : (pc : Int) + off = (tgt : Int)) (kt : 0 ≤ x → WW p l e R s m args below meth c cells slots Q A D ca ad sh tgt lo st σ) (kf : ¬ 0 ≤ x → WW p l e R s m args below meth c cells slots Q A D ca ad sh (pc + 3) lo st σ) : WW p l e R s m args below meth c cells slots Q A D ca ad sh pc lo (.int x :: st) σ := fun H locs ls hP hD hS hl => lv_if_ge C.1 C.2.1 d ht (fun h => kt h H locs ls hP hD hS hl) (fun h => kf h H locs ls hP hD hS hl)
theorem s_icmp_ge (C : CX p s m args c D ca A own cc nL) {x y : Int32} {off : Int} {tgt : Nat} (d : decode cc pc = .ok (.if_icmp .ge off, 3)) (ht : (pc : Int) + off = (tgt : Int)) (kt : y ≤ x → WW p l e R s m args below meth c cells slots Q A D ca ad sh tgt lo st σ) (kf : ¬ y ≤ x → WW p l e R s m args below meth c cells slots Q A D ca ad sh (pc + 3) lo st σ) : WW p l e R s m args below meth c cells slots Q A D ca ad sh pc lo (.int y :: .int x :: st) σ := fun H locs ls hP hD hS hl => lv_icmp_ge C.1 C.2.1 d ht (fun h => kt h H locs ls hP hD hS hl) (fun h => kf h H locs ls hP hD hS hl)
theorem s_if_gt (C : CX p s m args c D ca A own cc nL) {x : Int32} {off : Int} {tgt : Nat} (d : decode cc pc = .ok (.ifCond .gt off, 3)) (ht : (pc : Int) + off = (tgt : Int)) (kt : 0 < x → WW p l e R s m args below meth c cells slots Q A D ca ad sh tgt lo st σ) (kf : ¬ 0 < x → WW p l e R s m args below meth c cells slots Q A D ca ad sh (pc + 3) lo st σ) : WW p l e R s m args below meth c cells slots Q A D ca ad sh pc lo (.int x :: st) σ := fun H locs ls hP hD hS hl => lv_if_gt C.1 C.2.1 d ht (fun h => kt h H locs ls hP hD hS hl) (fun h => kf h H locs ls hP hD hS hl)
theorem s_icmp_gt (C : CX p s m args c D ca A own cc nL) {x y : Int32} {off : Int} {tgt : Nat} (d : decode cc pc = .ok (.if_icmp .gt off, 3)) (ht : (pc : Int) + off = (tgt : Int)) (kt : y < x → WW p l e R s m args below meth c cells slots Q A D ca ad sh tgt lo st σ) (kf : ¬ y < x → WW p l e R s m args below meth c cells slots Q A D ca ad sh (pc + 3) lo st σ) : WW p l e R s m args below meth c cells slots Q A D ca ad sh pc lo (.int y :: .int x :: st) σ := fun H locs ls hP hD hS hl => lv_icmp_gt C.1 C.2.1 d ht (fun h => kt h H locs ls hP hD hS hl) (fun h => kf h H locs ls hP hD hS hl)
theorem s_if_le (C : CX p s m args c D ca A own cc nL) {x : Int32} {off : Int} {tgt : Nat} (d : decode cc pc = .ok (.ifCond .le off, 3)) (ht : (pc : Int) + off = (tgt : Int)) (kt : x ≤ 0 → WW p l e R s m args below meth c cells slots Q A D ca ad sh tgt lo st σ) (kf : ¬ x ≤ 0 → WW p l e R s m args below meth c cells slots Q A D ca ad sh (pc + 3) lo st σ) : WW p l e R s m args below meth c cells slots Q A D ca ad sh pc lo (.int x :: st) σ := fun H locs ls hP hD hS hl => lv_if_le C.1 C.2.1 d ht (fun h => kt h H locs ls hP hD hS hl) (fun h => kf h H locs ls hP hD hS hl)
theorem s_icmp_le (C : CX p s m args c D ca A own cc nL) {x y : Int32} {off : Int} {tgt : Nat} (d : decode cc pc = .ok (.if_icmp .le off, 3)) (ht : (pc : Int) + off = (tgt : Int)) (kt : x ≤ y → WW p l e R s m args below meth c cells slots Q A D ca ad sh tgt lo st σ) (kf : ¬ x ≤ y → WW p l e R s m args below meth c cells slots Q A D ca ad sh (pc + 3) lo st σ) : WW p l e R s m args below meth c cells slots Q A D ca ad sh pc lo (.int y :: .int x :: st) σ := fun H locs ls hP hD hS hl => lv_icmp_le C.1 C.2.1 d ht (fun h => kt h H locs ls hP hD hS hl) (fun h => kf h H locs ls hP hD hS hl)
theorem s_if_ne (C : CX p s m args c D ca A own cc nL) {x : Int32} {off : Int} {tgt : Nat} (d : decode cc pc = .ok (.ifCond .ne off, 3)) (ht : (pc : Int) + off = (tgt : Int)) (kt : ¬ x = 0 → WW p l e R s m args below meth c cells slots Q A D ca ad sh tgt lo st σ) (kf : x = 0 → WW p l e R s m args below meth c cells slots Q A D ca ad sh (pc + 3) lo st σ) : WW p l e R s m args below meth c cells slots Q A D ca ad sh pc lo (.int x :: st) σ := fun H locs ls hP hD hS hl => lv_if_ne C.1 C.2.1 d ht (fun h => kt h H locs ls hP hD hS hl) (fun h => kf h H locs ls hP hD hS hl)
theorem s_icmp_ne (C : CX p s m args c D ca A own cc nL) {x y : Int32} {off : Int} {tgt : Nat} (d : decode cc pc = .ok (.if_icmp .ne off, 3)) (ht : (pc : Int) + off = (tgt : Int)) (kt : ¬ x = y → WW p l e R s m args below meth c cells slots Q A D ca ad sh tgt lo st σ) (kf : x = y → WW p l e R s m args below meth c cells slots Q A D ca ad sh (pc + 3) lo st σ) : WW p l e R s m args below meth c cells slots Q A D ca ad sh pc lo (.int y :: .int x :: st) σ := fun H locs ls hP hD hS hl => lv_icmp_ne C.1 C.2.1 d ht (fun h => kt h H locs ls hP hD hS hl) (fun h => kf h H locs ls hP hD hS hl)
theorem s_few {lo' : List (Option Value)} (h : lfew lo lo') (k : WW p l e R s m args below meth c cells slots Q A D ca ad sh pc lo' st σ) : WW p l e R s m args below meth c cells slots Q A D ca ad sh pc lo st σ := fun H locs ls hP hD hS hl => k H locs ls hP hD hS (lh_sub hl (lfew_len h) (lfew_at h))
end WWR
end
section
/-- an index in range, and the place that it names -/
def inb (x : Int32) (n : Nat) : Bool := decide (¬ (x < 0 ∨ n ≤ x.toNatClampNeg))
def ix (x : Int32) : Nat := x.toNatClampNeg
theorem inb_in {x : Int32} {n : Nat} (h : inb x n = true) : vp_in x n := by
  unfold inb at h
  have h2 : ¬ (x < 0 ∨ n ≤ x.toNatClampNeg) := of_decide_eq_true h
  exact h2
theorem inb_lt {x : Int32} {n : Nat} (h : inb x n = true) : ix x < n := Nat.not_le.mp fun q => inb_in h (Or.inr q)
/-! fields and arrays of a world of a shape; contracts over such a world; calls and returns -/
/-- own's pool entry index is the field j of the class number ci -/
def FL (own : String) (index ci j : Nat) : Prop := ∃ (C : String) (T : u_T) (N : Nat), vwCl[ci]? = some (C, T, N) ∧ j < N ∧ (∀ w ∈ u_ws C T N, w ∈ WS) ∧ Cond.fieldLink own index (T j).1 (T j).2.1 (T j).2.2.1 ∈ WS
def FP (own : String) (index ci j : Nat) (ty : FieldType) : Prop := ∃ (C : String) (T : u_T) (N : Nat) (ty0 : Nat → FieldType), vwCl[ci]? = some (C, T, N) ∧ j < N ∧ (∀ w ∈ u_ws C T N, w ∈ WS) ∧ Cond.fieldLink own index (T j).1 (T j).2.1 (T j).2.2.1 ∈ WS ∧ (∀ k, k < N → parseFieldDescriptor (T k).2.2.1 = some (ty0 k)) ∧ (∀ a, a < N → ∀ b, b < N → a ≠ b → (T a).2.1 ≠ (T b).2.1) ∧ (T j).2.2.2 = false ∧ parseFieldDescriptor (T j).2.2.1 = some ty
theorem i_and1 {v : Int32} (h : v = 0 ∨ v = 1) : v &&& 1 = v := by rcases h with rfl | rfl <;> decide +kernel
theorem i_and1_01 (x : Int32) : x &&& 1 = 0 ∨ x &&& 1 = 1 := by
  obtain ⟨j, hj, e⟩ := pk_andE x (m := 1) 1 (by decide +kernel)
  rcases (show j = 0 ∨ j = 1 by omega) with rfl | rfl
  · exact Or.inl (by rw [e]; decide +kernel)
  · exact Or.inr (by rw [e]; decide +kernel)
section WWF
variable {p : Program} {l : Launch} {e : Env} {R : Room} {s : State} {m : MethodId} {args : Array Value} {below : List Frame} {meth : Method} {c : Code} {cells slots : Nat} {Q : State → Prop} {A : Nat → Prop} {D : va_G} {ca : Nat → ClassId} {ad : Nat → Nat} {sh : List sO} {own : String} {cc : ByteArray} {nL pc : Nat} {lo : List (Option Value)} {st : List Value} {σ : St}
theorem s_get (C : CX p s m args c D ca A own cc nL) {index ci j q : Nat} {fs : List sF} {x : sF} (hF : FL own index ci j) (hq : sh[q]? = some (.inl (ci, fs))) (hx : fs[j]? = some x) (d : decode cc pc = .ok (.getfield index, 3)) (k : WW p l e R s m args below meth c cells slots Q A D ca ad sh (pc + 3) lo (sv ad (σ q) j x :: st) σ) : WW p l e R s m args below meth c cells slots Q A D ca ad sh pc lo (.ref (ad q) :: st) σ := by
  intro H locs ls hP hD hS hl
  obtain ⟨Cn, T, N, hc, hj, hin, hlk⟩ := hF
  refine va_get (D := D) (ci := ci) (v := sv ad (σ q) j x) (C := Cn) (T := T) (N := N) C.1 C.2.1 C.2.2.2.2.1 hin C.2.2.2.1 C.2.2.2.2.2.1 hP q (wd_at hq) hc j hj (C.2.2.2.2.1 _ hlk) (fun _ h => h) ?_ d (k H locs ls hP hD hS hl)
  simp [hx]
theorem s_getI (C : CX p s m args c D ca A own cc nL) {index ci j q : Nat} {fs : List sF} (hF : FL own index ci j) (hq : sh[q]? = some (.inl (ci, fs))) (hx : fs[j]? = some (.inr false)) (d : decode cc pc = .ok (.getfield index, 3)) (k : WW p l e R s m args below meth c cells slots Q A D ca ad sh (pc + 3) lo (.int (σ q j) :: st) σ) : WW p l e R s m args below meth c cells slots Q A D ca ad sh pc lo (.ref (ad q) :: st) σ := s_get C hF hq hx d k
theorem s_getZ (C : CX p s m args c D ca A own cc nL) {index ci j q : Nat} {fs : List sF} (hF : FL own index ci j) (hq : sh[q]? = some (.inl (ci, fs))) (hx : fs[j]? = some (.inr true)) (d : decode cc pc = .ok (.getfield index, 3)) (k : WW p l e R s m args below meth c cells slots Q A D ca ad sh (pc + 3) lo (.int (σ q j &&& 1) :: st) σ) : WW p l e R s m args below meth c cells slots Q A D ca ad sh pc lo (.ref (ad q) :: st) σ := s_get C hF hq hx d k
theorem s_getR (C : CX p s m args c D ca A own cc nL) {index ci j q r : Nat} {fs : List sF} (hF : FL own index ci j) (hq : sh[q]? = some (.inl (ci, fs))) (hx : fs[j]? = some (.inl r)) (d : decode cc pc = .ok (.getfield index, 3)) (k : WW p l e R s m args below meth c cells slots Q A D ca ad sh (pc + 3) lo (.ref (ad r) :: st) σ) : WW p l e R s m args below meth c cells slots Q A D ca ad sh pc lo (.ref (ad q) :: st) σ := s_get C hF hq hx d k
theorem s_put (C : CX p s m args c D ca A own cc nL) {index ci j q : Nat} {fs : List sF} {x : sF} {ty : FieldType} {v : Int32} (hF : FP own index ci j ty) (hq : sh[q]? = some (.inl (ci, fs))) (hx : fs[j]? = some x) (hv : sv ad (upd (σ q) j v) j x = .int v) (hn : narrow ty (.int v) = .int v) (hfit : fits ty (.int v) = true) (d : decode cc pc = .ok (.putfield index, 3)) (k : WW p l e R s m args below meth c cells slots Q A D ca ad sh (pc + 3) lo st (su σ q j v)) : WW p l e R s m args below meth c cells slots Q A D ca ad sh pc lo (.int v :: .ref (ad q) :: st) σ := by
  intro H locs ls hP hD hS hl
  obtain ⟨Cn, T, N, ty0, hc, hj, hin, hlk, hty, hnm, hfin, hd⟩ := hF
  have hlen : j < (fs.mapIdx (fun i y => sv ad (σ q) i y)).length := by
    have := (List.getElem?_eq_some_iff.mp hx).1
    simpa using this
  refine va_put (D := D) (ci := ci) (v := .int v) (ty := ty) (C := Cn) (T := T) (N := N) C.1 C.2.1 C.2.2.2.2.1 hin ty0 hty hnm C.2.2.2.1 C.2.2.2.2.2.1 hP hD hS q (wd_at hq) hc j hj (C.2.2.2.2.1 _ hlk) (fun _ h => h) hfin hd hn hfit hlen d (fun H1 locs1 hP1 hD1 hS1 => ?_)
  have he : (wd sh ca ad σ).set q (ad q, .inr (ci, (fs.mapIdx (fun i y => sv ad (σ q) i y)).set j (.int v))) = wd sh ca ad (su σ q j v) := by
    refine wd_set hq ?_ (fun a ha => su_row ha)
    rw [su_at]
    show (Sum.inr (ci, _) : va_E) = Sum.inr (ci, _)
    rw [sv_set hx hv]
  rw [he] at hP1 hD1
  exact k H1 locs1 ls hP1 hD1 hS1 hl
theorem s_putI (C : CX p s m args c D ca A own cc nL) {index ci j q : Nat} {fs : List sF} {v : Int32} (hF : FP own index ci j .int) (hq : sh[q]? = some (.inl (ci, fs))) (hx : fs[j]? = some (.inr false)) (d : decode cc pc = .ok (.putfield index, 3)) (k : WW p l e R s m args below meth c cells slots Q A D ca ad sh (pc + 3) lo st (su σ q j v)) : WW p l e R s m args below meth c cells slots Q A D ca ad sh pc lo (.int v :: .ref (ad q) :: st) σ := s_put C hF hq hx (by simp [sv, upd]) rfl rfl d k
theorem s_putZ (C : CX p s m args c D ca A own cc nL) {index ci j q : Nat} {fs : List sF} {v : Int32} (hF : FP own index ci j .boolean) (hq : sh[q]? = some (.inl (ci, fs))) (hx : fs[j]? = some (.inr true)) (h01 : v = 0 ∨ v = 1) (d : decode cc pc = .ok (.putfield index, 3)) (k : WW p l e R s m args below meth c cells slots Q A D ca ad sh (pc + 3) lo st (su σ q j v)) : WW p l e R s m args below meth c cells slots Q A D ca ad sh pc lo (.int v :: .ref (ad q) :: st) σ :=
  s_put C hF hq hx (by simp [sv, upd, i_and1 h01]) (by show Value.int (v &&& 1) = _; rw [i_and1 h01]) (by rcases h01 with rfl | rfl <;> rfl) d k
theorem s_alenI (C : CX p s m args c D ca A own cc nL) {t n q : Nat} {o : Option (Option Nat)} {ty : FieldType} {v : Int32} (hq : sh[q]? = some (.inr (t, n, o))) (ht : (tys ca)[t]? = some (ca t, ty)) (hv : nI n = v) (d : decode cc pc = .ok (.arraylength, 1)) (k : WW p l e R s m args below meth c cells slots Q A D ca ad sh (pc + 1) lo (.int v :: st) σ) : WW p l e R s m args below meth c cells slots Q A D ca ad sh pc lo (.ref (ad q) :: st) σ := by
  intro H locs ls hP hD hS hl
  cases o with
  | none => exact va_alen C.1 C.2.1 C.2.2.2.2.2.1 hP q t (wd_at hq) ht hv d (k H locs ls hP hD hS hl)
  | some o => cases o with
    | none => exact va_alen C.1 C.2.1 C.2.2.2.2.2.1 hP q t (wd_at hq) ht hv d (k H locs ls hP hD hS hl)
    | some b => exact va_alen C.1 C.2.1 C.2.2.2.2.2.1 hP q t (wd_at hq) ht hv d (k H locs ls hP hD hS hl)
theorem s_iald (C : CX p s m args c D ca A own cc nL) {t n q : Nat} {x : Int32} (hq : sh[q]? = some (.inr (t, n, none))) (ht : (tys ca)[t]? = some (ca t, .int)) (hx : inb x n = true) (d : decode cc pc = .ok (.iaload, 1)) (k : WW p l e R s m args below meth c cells slots Q A D ca ad sh (pc + 1) lo (.int (σ q (ix x)) :: st) σ) : WW p l e R s m args below meth c cells slots Q A D ca ad sh pc lo (.int x :: .ref (ad q) :: st) σ := fun H locs ls hP hD hS hl => va_iald C.1 C.2.1 C.2.2.2.2.2.1 hP q t (wd_at hq) ht (inb_in hx) d (k H locs ls hP hD hS hl)
theorem s_iast (C : CX p s m args c D ca A own cc nL) {t n q : Nat} {x v : Int32} (hq : sh[q]? = some (.inr (t, n, none))) (ht : (tys ca)[t]? = some (ca t, .int)) (hx : inb x n = true) (d : decode cc pc = .ok (.iastore, 1)) (k : WW p l e R s m args below meth c cells slots Q A D ca ad sh (pc + 1) lo st (su σ q (ix x) v)) : WW p l e R s m args below meth c cells slots Q A D ca ad sh pc lo (.int v :: .int x :: .ref (ad q) :: st) σ := by
  intro H locs ls hP hD hS hl
  refine va_iast C.1 C.2.1 C.2.2.2.2.2.1 hP hD hS q t (wd_at hq) ht (inb_in hx) d (fun H1 locs1 hP1 hD1 hS1 => ?_)
  have he : (wd sh ca ad σ).set q (ad q, .inl (ca t, n, .inl (upd (σ q) x.toNatClampNeg v))) = wd sh ca ad (su σ q (ix x) v) := by
    refine wd_set hq ?_ (fun a ha => su_row ha)
    rw [su_at]
    rfl
  rw [he] at hP1 hD1
  exact k H1 locs1 ls hP1 hD1 hS1 hl
theorem s_aald (C : CX p s m args c D ca A own cc nL) {t n q b : Nat} {x : Int32} {Cn : String} (hq : sh[q]? = some (.inr (t, n, some (some b)))) (ht : (tys ca)[t]? = some (ca t, .object Cn)) (hx : inb x n = true) (d : decode cc pc = .ok (.aaload, 1)) (k : WW p l e R s m args below meth c cells slots Q A D ca ad sh (pc + 1) lo (.ref (ad (b + ix x)) :: st) σ) : WW p l e R s m args below meth c cells slots Q A D ca ad sh pc lo (.int x :: .ref (ad q) :: st) σ := fun H locs ls hP hD hS hl => va_aldq C.1 C.2.1 C.2.2.2.2.2.1 hP q t (wd_at hq) ht (inb_in hx) d (k H locs ls hP hD hS hl)
end WWF
/-! contracts: a method of a world of a shape that makes nothing and always returns: what it answers (ov), the state behind it (τ) -/
def Pr (D : va_G) (ca : Nat → ClassId) (ad : Nat → Nat) (sh : List sO) (av : List Value) (σ : St) (sz : Nat) : Array Value → State → Prop := va_Pc av (fun U => U.heap.size = sz ∧ va_P D vwCl (wd sh ca ad σ) U.heap ∧ va_K D vwCl (tys ca) U ∧ va_D (fun _ => True) (wd sh ca ad σ) ∧ NWs U)
def QV (D : va_G) (ca : Nat → ClassId) (ad : Nat → Nat) (sh : List sO) (A : Nat → Prop) (ov : Option Value) (τ : St) : Array Value → State → Outcome → State → Prop := fun _ st oc t => (oc = .returned ov ∧ va_P D vwCl (wd sh ca ad τ) t.heap ∧ va_K D vwCl (tys ca) t ∧ va_D A (wd sh ca ad τ)) ∧ va_F A st t
def cM (l : Launch) (y : MethodName) (cw : Cond) (rm : Room) (D : va_G) (ca : Nat → ClassId) (ad : Nat → Nat) (sh : List sO) (av : List Value) (σ : St) (ov : Option Value) (τ : St) : Prop :=
  ∀ sz : Nat, Met l y (cw :: WS) rm (Pr D ca ad sh av σ sz) (QV D ca ad sh (va_A (wd sh ca ad σ) sz) ov τ) 0 0 (va_A (wd sh ca ad σ) sz)
/-- the end that a body owes -/
def EQ (D : va_G) (ca : Nat → ClassId) (ad : Nat → Nat) (sh : List sO) (A : Nat → Prop) (below : List Frame) (args : Array Value) (s : State) (ov : Option Value) (τ : St) : State → Prop := MQ below (QV D ca ad sh A ov τ) args s 0 0 A
def lo0 (av : List Value) (nL : Nat) : List (Option Value) := av.map some ++ List.replicate (nL - av.length) none
theorem lg_sl_len1 : ∀ {av : List Value}, (∀ v ∈ av, v.category = 1) → (lg_sl av).length = av.length
  | [], _ => rfl
  | v :: r, h => by
    have h1 := h v List.mem_cons_self
    have h2 := lg_sl_len1 (av := r) (fun w hw => h w (List.mem_cons_of_mem _ hw))
    cases v <;> simp_all [lg_sl, Value.category]
theorem lv_args1 : ∀ {av : List Value} {b : Nat}, (∀ v ∈ av, v.category = 1) → ∀ {i : Nat} {v : Value}, av[i]? = some v → (b + i, v) ∈ lv_args b av
  | [], _, _, i, v, h => by simp at h
  | w :: r, b, hc, 0, v, h => by
    simp only [List.getElem?_cons_zero, Option.some.injEq] at h
    subst h
    exact List.mem_cons_self
  | w :: r, b, hc, i + 1, v, h => by
    simp only [List.getElem?_cons_succ] at h
    have h1 := hc w List.mem_cons_self
    have h2 := lv_args1 (av := r) (b := b + 1) (fun x hx => hc x (List.mem_cons_of_mem _ hx)) h
    have e : b + (i + 1) = b + 1 + i := by omega
    rw [e]
    unfold lv_args
    rw [h1]
    exact List.mem_cons_of_mem _ h2
theorem lh_entry {av : List Value} {nL : Nat} (hc : ∀ v ∈ av, v.category = 1) (hn : av.length ≤ nL) : lh ((lg_sl av ++ List.replicate (nL - (lg_sl av).length) Slot.unset).toArray) (lo0 av nL) := by
  have hlen := lg_sl_len1 hc
  have h := lv_entry av (n := nL) (by rw [hlen]; exact hn)
  have key : ∀ (i : Nat) (v : Value), (lo0 av nL)[i]? = some (some v) → av[i]? = some v := by
    intro i v hi
    unfold lo0 at hi
    by_cases hlt : i < av.length
    · rw [List.getElem?_append_left (by simpa using hlt), List.getElem?_map] at hi
      cases hv : av[i]? with
      | none => rw [hv] at hi; cases hi
      | some w => rw [hv] at hi; simpa using hi
    · rw [List.getElem?_append_right (by simpa using hlt)] at hi
      rw [List.getElem?_replicate] at hi
      split at hi <;> simp at hi
  refine ⟨by rw [h.1]; simp [lo0]; omega, h.2.1, fun i v hi => ?_, fun i v hi => ?_⟩
  · have := h.2.2 _ (lv_args1 (b := 0) hc (key i v hi))
    simpa using this
  · exact hc v (List.mem_of_getElem? (key i v hi))
theorem cM.intro {l : Launch} {y : MethodName} {cc : ByteArray} {nL : Nat} {ret : Option FieldType} {rm : Room} {D : va_G} {ca : Nat → ClassId} {ad : Nat → Nat} {sh : List sO} {av : List Value} {σ : St} {ov : Option Value} {τ : St} {own : String}
    (hy : plainName y.cls = true) (hown : y.cls = own) (hc : ∀ v ∈ av, v.category = 1) (hn : av.length ≤ nL)
    (k : ∀ (p : Program) (e : Env) (s : State) (m : MethodId) (args : Array Value) (below : List Frame) (meth : Method) (c : Code) (A : Nat → Prop), CX p s m args c D ca A own cc nL → meth.sig.returnType = ret → meth.locks = false →
      WW p l e rm s m args below meth c 0 0 (EQ D ca ad sh A below args s ov τ) A D ca ad sh 0 (lo0 av nL) [] σ) : cM l y (.code y cc nL ret) rm D ca ad sh av σ ov τ := by
  intro sz
  refine Met.ofW (cc := cc) (maxL := nL) (ret := ret) hy rfl ?_
  intro p e s m args below meth c s₁ B hml hv
  obtain ⟨rfl, hsz, hP, hK, hD0, hNW⟩ := hv
  have hts := atoms_spec (ws := .code y cc nL ret :: WS) B.pre
  have ho : s.vm.findClass own = some m.cls := by rw [← hown]; exact findClass_of_methodNamed B.named
  subst hsz
  have hA : ∀ q : Nat, s.heap.size ≤ q → va_A (wd sh ca ad σ) s.heap.size q := fun q h => Or.inr h
  rw [lg_entry_eq]
  exact k p e s m _ below meth c _ ⟨B.exec, B.bytes, hml, ho, fun w hw => hts w (List.mem_cons_of_mem _ hw), hK, hA, hNW⟩ B.returns B.notSynchronized s.heap [] _ hP hD0.self va_S.rf (lh_entry hc hn)
section WWC
variable {p : Program} {l : Launch} {e : Env} {R : Room} {s : State} {m : MethodId} {args : Array Value} {below : List Frame} {meth : Method} {c : Code} {cells slots : Nat} {Q : State → Prop} {A : Nat → Prop} {D : va_G} {ca : Nat → ClassId} {ad : Nat → Nat} {sh : List sO} {own : String} {cc : ByteArray} {nL pc : Nat} {lo : List (Option Value)} {st : List Value} {σ τ : St} {ov : Option Value}
theorem s_iret (C : CX p s m args c D ca A own cc nL) {v : Int32} (hr : meth.sig.returnType = some .int) (hlocks : meth.locks = false) (d : decode cc pc = .ok (.ireturn, 1)) (hv : ov = some (.int v)) (hσ : τ = σ) : WW p l e R s m args below meth c 0 0 (EQ D ca ad sh A below args s ov τ) A D ca ad sh pc lo [.int v] σ := by
  subst hv; subst hσ
  intro H locs ls hP hD hS hl
  exact W.iret (Qc := QV D ca ad sh A (some (.int v)) τ) C.1 C.2.1 hr (fun t ht hW => ⟨⟨rfl, by rw [ht]; exact hP, va_K.moved hW.alike C.2.2.2.2.2.1, hD⟩, hS.F ht⟩) hS.2.2 d hlocks
theorem s_zret (C : CX p s m args c D ca A own cc nL) {v : Int32} (hr : meth.sig.returnType = some .boolean) (hlocks : meth.locks = false) (d : decode cc pc = .ok (.ireturn, 1)) (h01 : v = 0 ∨ v = 1) (hv : ov = some (.int v)) (hσ : τ = σ) : WW p l e R s m args below meth c 0 0 (EQ D ca ad sh A below args s ov τ) A D ca ad sh pc lo [.int v] σ := by
  subst hv; subst hσ
  intro H locs ls hP hD hS hl
  exact W.zret (Qc := QV D ca ad sh A (some (.int v)) τ) (ty := .boolean) C.1 C.2.1 hr (by show Value.int (v &&& 1) = _; rw [i_and1 h01]) (fun t ht hW => ⟨⟨rfl, by rw [ht]; exact hP, va_K.moved hW.alike C.2.2.2.2.2.1, hD⟩, hS.F ht⟩) hS.2.2 d hlocks
theorem s_vret (C : CX p s m args c D ca A own cc nL) (hr : meth.sig.returnType = none) (hlocks : meth.locks = false) (d : decode cc pc = .ok (.return_, 1)) (hv : ov = none) (hσ : τ = σ) : WW p l e R s m args below meth c 0 0 (EQ D ca ad sh A below args s ov τ) A D ca ad sh pc lo [] σ := by
  subst hv; subst hσ
  intro H locs ls hP hD hS hl
  exact W.vret (Qc := QV D ca ad sh A none τ) C.1 C.2.1 hr (fun t ht hW => ⟨⟨rfl, by rw [ht]; exact hP, va_K.moved hW.alike C.2.2.2.2.2.1, hD⟩, hS.F ht⟩) hS.2.2 d hlocks
theorem s_aret (C : CX p s m args c D ca A own cc nL) {a : Nat} {Cn : String} (hr : meth.sig.returnType = some (.object Cn)) (hlocks : meth.locks = false) (d : decode cc pc = .ok (.areturn, 1)) (hv : ov = some (.ref a)) (hσ : τ = σ) : WW p l e R s m args below meth c 0 0 (EQ D ca ad sh A below args s ov τ) A D ca ad sh pc lo [.ref a] σ := by
  subst hv; subst hσ
  intro H locs ls hP hD hS hl
  exact W.aret (Qc := QV D ca ad sh A (some (.ref a)) τ) C.1 C.2.1 hr (Or.inl ⟨_, rfl⟩) (Or.inr ⟨_, rfl⟩) (fun t ht hW => ⟨⟨rfl, by rw [ht]; exact hP, va_K.moved hW.alike C.2.2.2.2.2.1, hD⟩, hS.F ht⟩) hS.2.2 d hlocks
/-- what lies behind a call in the world -/
theorem s_back (C : CX p s m args c D ca A own cc nL) {st0 : List Value} {rest : List Value} (hr : ∀ H locs ls, va_P D vwCl (wd sh ca ad σ) H → va_D A (wd sh ca ad σ) → lh ls lo → va_Run p l e R s m args below meth c H locs cells slots 0 0 (F0 m pc ls st0) rest (QV D ca ad sh (va_A (wd sh ca ad σ) H.size) ov τ #[]) (va_A (wd sh ca ad σ) H.size))
    (k : WW p l e R s m args below meth c cells slots Q A D ca ad sh (pc + 3) lo (ov.toList ++ rest) τ) : WW p l e R s m args below meth c cells slots Q A D ca ad sh pc lo st0 σ := by
  intro H locs ls hP hD hS hl T hT X
  obtain ⟨v, st₀, t, T', L, h0, X', hL, e1, e2, ⟨⟨hv, hb1, hb2, hb3⟩, hz, hk⟩, go⟩ := hr H locs ls hP hD hl T hT X
  cases hv
  rw [h0] at hz hk
  have hsub : ∀ q, va_A (wd sh ca ad σ) H.size q → A q := by
    intro q hq
    rcases hq with ⟨i, x, hi⟩ | hq
    · exact hD.2 i _ hi
    · exact C.2.2.2.2.2.2.1 q (Nat.le_trans hS.1 hq)
  obtain ⟨t2, a1, b1⟩ := k T'.heap (locs ++ L) ls (by rw [e1]; exact hb1) (hb3.weaken (fun _ _ _ h => hsub _ h))
    ⟨Nat.le_trans hS.1 (by rw [e1]; exact hz), fun q h1 h2 => by rw [e1, hk q (Nat.lt_of_lt_of_le h1 hS.1) (fun z => h2 (hsub q z))]; exact hS.2.1 q h1 h2, fun q hq => by
      rcases List.mem_append.mp hq with h | h
      · exact hS.2.2 q h
      · exact hsub _ (hL q h)⟩ hl T' rfl X'
  exact ⟨t2, go t2 a1, b1⟩
end WWC
end
section
theorem WS_good : ∀ w ∈ WS, goodWord w = true := fun w h => (List.mem_filter.mp h).2
theorem WS_in {cw : Cond} (h : cw ∈ WS) : GoodIn WS (cw :: WS) := fun w hw => by
  rcases List.mem_cons.mp hw with rfl | hw
  · exact ⟨h, good_of_word (WS_good _ h)⟩
  · exact ⟨hw, good_of_word (WS_good _ hw)⟩
/-- the words of a call -/
def KV (own : String) (index : Nat) (y : MethodName) (Cn : String) (bytes : ByteArray) (maxL : Nat) (ret : Option FieldType) (n : Nat) : Prop :=
  (∀ w ∈ ([.methodLink own index y, .instanceMethod y, .selects Cn y y, .initialized Cn, .code y bytes maxL ret] : List Cond), w ∈ WS) ∧ y.cls = Cn ∧ y.cls ≠ "java/lang/invoke/MethodHandle" ∧ y.cls ≠ "java/lang/invoke/VarHandle" ∧ (parseMethodDescriptor y.desc).map (fun d => d.parameters.length) = some n
def KS (own : String) (index : Nat) (y : MethodName) (bytes : ByteArray) (maxL : Nat) (ret : Option FieldType) (n : Nat) : Prop :=
  (∀ w ∈ ([.methodLink own index y, .static y, .initialized own, .code y bytes maxL ret] : List Cond), w ∈ WS) ∧ y.cls = own ∧ y.cls ≠ "java/lang/invoke/MethodHandle" ∧ y.cls ≠ "java/lang/invoke/VarHandle" ∧ (parseMethodDescriptor y.desc).map (fun d => d.parameters.length) = some n
section WWK
variable {p : Program} {l : Launch} {e : Env} {R : Room} {s : State} {m : MethodId} {args : Array Value} {below : List Frame} {meth : Method} {c : Code} {cells slots : Nat} {Q : State → Prop} {A : Nat → Prop} {D : va_G} {ca : Nat → ClassId} {ad : Nat → Nat} {sh : List sO} {own : String} {cc : ByteArray} {nL pc : Nat} {lo : List (Option Value)} {σ τ : St} {ov : Option Value}
variable {y : MethodName} {bytes : ByteArray} {maxL n index q ci : Nat} {ret : Option FieldType} {rm : Room} {Cn : String} {fs : List sF} {As rest st0 : List Value}
theorem s_callV (C : CX p s m args c D ca A own cc nL) (hlo : lo.length = nL) (hM : cM l y (.code y bytes maxL ret) rm D ca ad sh (.ref (ad q) :: As) σ ov τ) (hw : KV own index y Cn bytes maxL ret n)
    (hrm : rm.cells = 0 ∧ rm.slots = 0) (hR : rm.frames + 1 ≤ R.frames ∧ 8 + (maxL + 11) + rm.locals ≤ R.locals) (hq : sh[q]? = some (.inl (ci, fs))) (hci : ∃ x : vw_C, vwCl[ci]? = some x ∧ x.1 = Cn)
    (hn : As.length = n) (hst : st0 = As.reverse ++ .ref (ad q) :: rest) (hW : (rest.map fun v => v.category).sum ≤ 8) (d : decode cc pc = .ok (.invokevirtual index, 3)) (hcs : cells ≤ R.cells ∧ slots ≤ R.slots)
    (k : WW p l e R s m args below meth c cells slots Q A D ca ad sh (pc + 3) lo (ov.toList ++ rest) τ) : WW p l e R s m args below meth c cells slots Q A D ca ad sh pc lo st0 σ := by
  refine s_back C (ov := ov) (rest := rest) (fun H locs ls hP hD hl => ?_) k
  obtain ⟨x, hx1, hx2⟩ := hci
  subst hst
  have hG : GoodIn WS (wsV own index Cn y (.code y bytes maxL ret :: WS)) := by
    intro w hw'
    have hin : w ∈ WS := by
      rcases List.mem_append.mp hw' with h | h
      · exact hw.1 w (by simp only [List.mem_cons, List.not_mem_nil, or_false] at h ⊢; rcases h with h | h | h | h <;> simp [h])
      · rcases List.mem_cons.mp h with h | h
        · exact hw.1 w (by simp [h])
        · exact h
    exact ⟨hin, good_of_word (WS_good w hin)⟩
  exact va_runV (b := ad q) (As := As) (rest := rest) (n := n) ⟨C.1, C.2.1, C.2.2.1, C.2.2.2.1, C.2.2.2.2.1⟩ (hM H.size) (cwV n C.2.2.2.2.1 hG rfl hrm.1 hrm.2 hw.2 hR)
    ⟨fun a U g mk q => by obtain ⟨q0, q1, qP, qK, qD, qN⟩ := q; exact ⟨q0, q1, qP, va_K.moved (u := U) (U := U.calling g mk a) (Vm.Alike.refl U.vm) qK, qD, NWs.same (u := U) (U := U.calling g mk a) rfl qN⟩, by have := va_recv C.2.2.2.2.2.1 hP hx1 (wd_at hq); rw [hx2] at this; exact this, fun U hU hW => ⟨rfl, by rw [hU], by rw [hU]; exact hP, va_K.moved hW.alike C.2.2.2.2.2.1, hD.weaken (fun _ _ _ _ => trivial), NWs.warm hW C.2.2.2.2.2.2.2⟩⟩
    rfl hn (by show ls.size = _; rw [hl.1, hlo]) rfl (lv_room hW) d ⟨by simpa using hcs.1, by simpa using hcs.2⟩
theorem s_callS (C : CX p s m args c D ca A own cc nL) (hlo : lo.length = nL) (hM : cM l y (.code y bytes maxL ret) rm D ca ad sh As σ ov τ) (hw : KS own index y bytes maxL ret n)
    (hrm : rm.cells = 0 ∧ rm.slots = 0) (hR : rm.frames + 1 ≤ R.frames ∧ 8 + (maxL + 11) + rm.locals ≤ R.locals)
    (hn : As.length = n) (hst : st0 = As.reverse ++ rest) (hW : (rest.map fun v => v.category).sum ≤ 8) (d : decode cc pc = .ok (.invokestatic index, 3)) (hcs : cells ≤ R.cells ∧ slots ≤ R.slots)
    (k : WW p l e R s m args below meth c cells slots Q A D ca ad sh (pc + 3) lo (ov.toList ++ rest) τ) : WW p l e R s m args below meth c cells slots Q A D ca ad sh pc lo st0 σ := by
  refine s_back C (ov := ov) (rest := rest) (fun H locs ls hP hD hl => ?_) k
  subst hst
  have hG : GoodIn WS (wsS own index y (.code y bytes maxL ret :: WS)) := by
    intro w hw'
    have hin : w ∈ WS := by
      rcases List.mem_append.mp hw' with h | h
      · exact hw.1 w (by simp only [List.mem_cons, List.not_mem_nil, or_false] at h ⊢; rcases h with h | h | h <;> simp [h])
      · rcases List.mem_cons.mp h with h | h
        · exact hw.1 w (by simp [h])
        · exact h
    exact ⟨hin, good_of_word (WS_good w hin)⟩
  exact va_runS (As := As) (rest := rest) (n := n) ⟨C.1, C.2.1, C.2.2.1, C.2.2.2.1, C.2.2.2.2.1⟩ (hM H.size) (cwS n C.2.2.2.2.1 hG rfl hrm.1 hrm.2 hw.2 hR)
    ⟨fun a U g mk q => by obtain ⟨q0, q1, qP, qK, qD, qN⟩ := q; exact ⟨q0, q1, qP, va_K.moved (u := U) (U := U.calling g mk a) (Vm.Alike.refl U.vm) qK, qD, NWs.same (u := U) (U := U.calling g mk a) rfl qN⟩, fun U hU hW => ⟨rfl, by rw [hU], by rw [hU]; exact hP, va_K.moved hW.alike C.2.2.2.2.2.1, hD.weaken (fun _ _ _ _ => trivial), NWs.warm hW C.2.2.2.2.2.2.2⟩⟩
    rfl hn (by show ls.size = _; rw [hl.1, hlo]) rfl (lv_room hW) d ⟨by simpa using hcs.1, by simpa using hcs.2⟩
end WWK
end
section
/-! further rows: nest calls, Math, switches, comparisons of references, constants; the pure functions' combinators -/
theorem ifp {α : Type} {c : Prop} {_ : Decidable c} {a b : α} {r : α} (h : c) (e : (if c then a else b) = r) : a = r := by rwa [if_pos h] at e
theorem ifn {α : Type} {c : Prop} {_ : Decidable c} {a b : α} {r : α} (h : ¬ c) (e : (if c then a else b) = r) : b = r := by rwa [if_neg h] at e
theorem gd {α : Type} {c : Prop} {_ : Decidable c} {a : Option α} {r : α} (e : (if c then a else none) = some r) : c ∧ a = some r := by
  by_cases h : c
  · exact ⟨h, by rwa [if_pos h] at e⟩
  · rw [if_neg h] at e; cases e
def bn {α β : Type} (o : Option (α × St)) (f : α → St → Option β) : Option β := match o with
  | none => none
  | some x => f x.1 x.2
def bv {β : Type} (o : Option St) (f : St → Option β) : Option β := match o with
  | none => none
  | some x => f x
theorem bnd {α β : Type} {o : Option (α × St)} {f : α → St → Option β} {r : β} (h : bn o f = some r) : ∃ (a : α) (τ : St), o = some (a, τ) ∧ f a τ = some r := by
  cases o with
  | none => cases h
  | some x => exact ⟨x.1, x.2, rfl, h⟩
theorem bvd {β : Type} {o : Option St} {f : St → Option β} {r : β} (h : bv o f = some r) : ∃ τ : St, o = some τ ∧ f τ = some r := by
  cases o with
  | none => cases h
  | some x => exact ⟨x, rfl, h⟩
theorem rt {α : Type} {a c : α} {b d : St} (h : some (a, b) = some (c, d)) : c = a ∧ d = b := by cases h; exact ⟨rfl, rfl⟩
theorem rtv {b d : St} (h : some b = some d) : d = b := by cases h; rfl
def rmk (k : Nat) : Room := { frames := k, cells := 0, slots := 0, locals := 40 * k }
def mmax (x y : Int32) : Int32 := if x < y then y else x
def mmin (x y : Int32) : Int32 := if y < x then y else x
def iush (x y : Int32) : Int32 := (x.toUInt32 >>> (y.toUInt32 &&& Int32.toUInt32 31)).toInt32
def KN (own : String) (index : Nat) (y : MethodName) (host : String) (bytes : ByteArray) (maxL : Nat) (ret : Option FieldType) (n : Nat) : Prop :=
  (∀ w ∈ ([.static y, .initialized y.cls, .code y bytes maxL ret] : List Cond), w ∈ WS) ∧ Cond.methodLinkNest own index y host ∈ NW ∧ y.cls ≠ "java/lang/invoke/MethodHandle" ∧ y.cls ≠ "java/lang/invoke/VarHandle" ∧ (parseMethodDescriptor y.desc).map (fun d => d.parameters.length) = some n
/-- a static method of any class of ours (or of the JDK), by an ordinary link -/
def KO (own : String) (index : Nat) (y : MethodName) (bytes : ByteArray) (maxL : Nat) (ret : Option FieldType) (n : Nat) : Prop :=
  (∀ w ∈ ([.methodLink own index y, .static y, .initialized y.cls, .code y bytes maxL ret] : List Cond), w ∈ WS) ∧ y.cls ≠ "java/lang/invoke/MethodHandle" ∧ y.cls ≠ "java/lang/invoke/VarHandle" ∧ (parseMethodDescriptor y.desc).map (fun d => d.parameters.length) = some n
theorem goodWS {ws : List Cond} (h : ∀ w ∈ ws, w ∈ WS) : GoodIn WS ws := fun w hw => ⟨h w hw, good_of_word (WS_good w (h w hw))⟩
section WWM
variable {p : Program} {l : Launch} {e : Env} {R : Room} {s : State} {m : MethodId} {args : Array Value} {below : List Frame} {meth : Method} {c : Code} {cells slots : Nat} {Q : State → Prop} {A : Nat → Prop} {D : va_G} {ca : Nat → ClassId} {ad : Nat → Nat} {sh : List sO} {own : String} {cc : ByteArray} {nL pc : Nat} {lo : List (Option Value)} {st : List Value} {σ τ : St} {ov : Option Value}
variable {y : MethodName} {bytes : ByteArray} {maxL n index : Nat} {ret : Option FieldType} {rm : Room} {As rest st0 : List Value}
theorem s_callN {host : String} (C : CX p s m args c D ca A own cc nL) (hlo : lo.length = nL) (hM : cM l y (.code y bytes maxL ret) rm D ca ad sh As σ ov τ) (hw : KN own index y host bytes maxL ret n)
    (hrm : rm.cells = 0 ∧ rm.slots = 0) (hR : rm.frames + 1 ≤ R.frames ∧ 8 + (maxL + 11) + rm.locals ≤ R.locals)
    (hn : As.length = n) (hst : st0 = As.reverse ++ rest) (hW : (rest.map fun v => v.category).sum ≤ 8) (d : decode cc pc = .ok (.invokestatic index, 3)) (hcs : cells ≤ R.cells ∧ slots ≤ R.slots)
    (k : WW p l e R s m args below meth c cells slots Q A D ca ad sh (pc + 3) lo (ov.toList ++ rest) τ) : WW p l e R s m args below meth c cells slots Q A D ca ad sh pc lo st0 σ := by
  refine s_back C (ov := ov) (rest := rest) (fun H locs ls hP hD hl => ?_) k
  subst hst
  have hG : GoodIn WS (.code y bytes maxL ret :: WS) := WS_in (hw.1 _ (by simp))
  have hok : ∀ w ∈ ([.static y, .initialized y.cls, .code y bytes maxL ret] : List Cond), w.before args s = true := fun w h => C.2.2.2.2.1 w (hw.1 w h)
  exact va_runSN (As := As) (rest := rest) (n := n) ⟨C.1, C.2.1, C.2.2.1, C.2.2.2.1, C.2.2.2.2.1⟩ (hM H.size) ⟨va_cnB n C.2.2.2.2.1 hG rfl hrm.1 hrm.2 (C.2.2.2.2.2.2.2 _ hw.2.1) (hok _ (by simp)) hw.2.2 hR, hok _ (by simp), trivial⟩
    ⟨fun a U g mk q => by obtain ⟨q0, q1, qP, qK, qD, qN⟩ := q; exact ⟨q0, q1, qP, va_K.moved (u := U) (U := U.calling g mk a) (Vm.Alike.refl U.vm) qK, qD, NWs.same (u := U) (U := U.calling g mk a) rfl qN⟩, fun U hU hW => ⟨rfl, by rw [hU], by rw [hU]; exact hP, va_K.moved hW.alike C.2.2.2.2.2.1, hD.weaken (fun _ _ _ _ => trivial), NWs.warm hW C.2.2.2.2.2.2.2⟩⟩
    rfl hn (by show ls.size = _; rw [hl.1, hlo]) rfl (lv_room hW) d ⟨by simpa using hcs.1, by simpa using hcs.2⟩
theorem s_callO (C : CX p s m args c D ca A own cc nL) (hlo : lo.length = nL) (hM : cM l y (.code y bytes maxL ret) rm D ca ad sh As σ ov τ) (hw : KO own index y bytes maxL ret n)
    (hrm : rm.cells = 0 ∧ rm.slots = 0) (hR : rm.frames + 1 ≤ R.frames ∧ 8 + (maxL + 11) + rm.locals ≤ R.locals)
    (hn : As.length = n) (hst : st0 = As.reverse ++ rest) (hW : (rest.map fun v => v.category).sum ≤ 8) (d : decode cc pc = .ok (.invokestatic index, 3)) (hcs : cells ≤ R.cells ∧ slots ≤ R.slots)
    (k : WW p l e R s m args below meth c cells slots Q A D ca ad sh (pc + 3) lo (ov.toList ++ rest) τ) : WW p l e R s m args below meth c cells slots Q A D ca ad sh pc lo st0 σ := by
  refine s_back C (ov := ov) (rest := rest) (fun H locs ls hP hD hl => ?_) k
  subst hst
  have hG : GoodIn WS (.code y bytes maxL ret :: WS) := WS_in (hw.1 _ (by simp))
  have hok : ∀ w ∈ ([.methodLink own index y, .static y, .initialized y.cls, .code y bytes maxL ret] : List Cond), w.before args s = true := fun w h => C.2.2.2.2.1 w (hw.1 w h)
  exact va_runS (As := As) (rest := rest) (n := n) ⟨C.1, C.2.1, C.2.2.1, C.2.2.2.1, C.2.2.2.2.1⟩ (hM H.size) ⟨callB_of n C.2.2.2.2.1 hG rfl hrm.1 hrm.2 (hok _ (by simp)) (hok _ (by simp)) hw.2 hR, hok _ (by simp)⟩
    ⟨fun a U g mk q => by obtain ⟨q0, q1, qP, qK, qD, qN⟩ := q; exact ⟨q0, q1, qP, va_K.moved (u := U) (U := U.calling g mk a) (Vm.Alike.refl U.vm) qK, qD, NWs.same (u := U) (U := U.calling g mk a) rfl qN⟩, fun U hU hW => ⟨rfl, by rw [hU], by rw [hU]; exact hP, va_K.moved hW.alike C.2.2.2.2.2.1, hD.weaken (fun _ _ _ _ => trivial), NWs.warm hW C.2.2.2.2.2.2.2⟩⟩
    rfl hn (by show ls.size = _; rw [hl.1, hlo]) rfl (lv_room hW) d ⟨by simpa using hcs.1, by simpa using hcs.2⟩
theorem s_mmax (C : CX p s m args c D ca A own cc nL) (hlo : lo.length = nL) {x z : Int32} (hlk : Cond.methodLink own index Lib.Math.max.name ∈ WS) (hR : 1 ≤ R.frames ∧ (st.map fun v => v.category).sum + 13 ≤ R.locals) (hcs : cells ≤ R.cells ∧ slots ≤ R.slots) (hm : Cond.static Lib.Math.max.name ∈ WS ∧ Cond.initialized "java/lang/Math" ∈ WS ∧ Cond.code Lib.Math.max.name Lib.Math.max.code 2 (some .int) ∈ WS) (d : decode cc pc = .ok (.invokestatic index, 3))
    (k : WW p l e R s m args below meth c cells slots Q A D ca ad sh (pc + 3) lo (.int (mmax x z) :: st) σ) : WW p l e R s m args below meth c cells slots Q A D ca ad sh pc lo (.int z :: .int x :: st) σ := fun H locs ls hP hD hS hl =>
  va_mmax C.1 C.2.1 (by rw [C.2.2.1, hl.1, hlo]) C.2.2.2.1 (C.2.2.2.2.1 _ hlk) (C.2.2.2.2.1 _ hm.1) (C.2.2.2.2.1 _ hm.2.1) (C.2.2.2.2.1 _ hm.2.2) hR.1 hR.2 hcs.1 hcs.2 d (k H locs ls hP hD hS hl)
theorem s_mmin (C : CX p s m args c D ca A own cc nL) (hlo : lo.length = nL) {x z : Int32} (hlk : Cond.methodLink own index Lib.Math.min.name ∈ WS) (hR : 1 ≤ R.frames ∧ (st.map fun v => v.category).sum + 13 ≤ R.locals) (hcs : cells ≤ R.cells ∧ slots ≤ R.slots) (hm : Cond.static Lib.Math.min.name ∈ WS ∧ Cond.initialized "java/lang/Math" ∈ WS ∧ Cond.code Lib.Math.min.name Lib.Math.min.code 2 (some .int) ∈ WS) (d : decode cc pc = .ok (.invokestatic index, 3))
    (k : WW p l e R s m args below meth c cells slots Q A D ca ad sh (pc + 3) lo (.int (mmin x z) :: st) σ) : WW p l e R s m args below meth c cells slots Q A D ca ad sh pc lo (.int z :: .int x :: st) σ := fun H locs ls hP hD hS hl =>
  va_mmin C.1 C.2.1 (by rw [C.2.2.1, hl.1, hlo]) C.2.2.2.1 (C.2.2.2.2.1 _ hlk) (C.2.2.2.2.1 _ hm.1) (C.2.2.2.2.1 _ hm.2.1) (C.2.2.2.2.1 _ hm.2.2) hR.1 hR.2 hcs.1 hcs.2 d (k H locs ls hP hD hS hl)
theorem s_ush (C : CX p s m args c D ca A own cc nL) {x z : Int32} (d : decode cc pc = .ok (.iushr, 1)) (k : WW p l e R s m args below meth c cells slots Q A D ca ad sh (pc + 1) lo (.int (iush x z) :: st) σ) : WW p l e R s m args below meth c cells slots Q A D ca ad sh pc lo (.int z :: .int x :: st) σ := s_iushr C d k
theorem s_ldcw (C : CX p s m args c D ca A own cc nL) {v : Int32} (hc : Cond.constant own index v ∈ WS) (d : decode cc pc = .ok (.ldc_w index, 3)) (k : WW p l e R s m args below meth c cells slots Q A D ca ad sh (pc + 3) lo (.int v :: st) σ) : WW p l e R s m args below meth c cells slots Q A D ca ad sh pc lo st σ := fun H locs ls hP hD hS hl => lv_ldcw C.1 C.2.1 C.2.2.2.1 (C.2.2.2.2.1 _ hc) d (k H locs ls hP hD hS hl)
theorem s_tsw (C : CX p s m args c D ca A own cc nL) {dflt low hi off : Int} {offs : Array Int} {len tgt : Nat} {x v : Int32} (hx : x = v) (d : decode cc pc = .ok (.tableswitch dflt low hi offs, len)) (h : ¬ v.toInt < low ∧ ¬ hi < v.toInt ∧ offs[(v.toInt - low).toNat]? = some off ∧ (pc : Int) + off = (tgt : Int)) (k : WW p l e R s m args below meth c cells slots Q A D ca ad sh tgt lo st σ) : WW p l e R s m args below meth c cells slots Q A D ca ad sh pc lo (.int x :: st) σ := by
  subst hx
  exact fun H locs ls hP hD hS hl => lv_tableIn C.1 C.2.1 d h.1 h.2.1 h.2.2.1 h.2.2.2 (k H locs ls hP hD hS hl)
theorem s_tswD (C : CX p s m args c D ca A own cc nL) {dflt low hi : Int} {offs : Array Int} {len tgt : Nat} {x : Int32} (h : x.toInt < low ∨ hi < x.toInt) (d : decode cc pc = .ok (.tableswitch dflt low hi offs, len)) (ht : (pc : Int) + dflt = (tgt : Int)) (k : WW p l e R s m args below meth c cells slots Q A D ca ad sh tgt lo st σ) : WW p l e R s m args below meth c cells slots Q A D ca ad sh pc lo (.int x :: st) σ := fun H locs ls hP hD hS hl => lv_tableOut C.1 C.2.1 d h ht (k H locs ls hP hD hS hl)
theorem s_lsw (C : CX p s m args c D ca A own cc nL) {dflt off : Int} {ps : Array (Int × Int)} {len tgt : Nat} {x : Int32} (ho : Op.lookupswitch.offset ps.toList dflt x.toInt = off) (d : decode cc pc = .ok (.lookupswitch dflt ps, len)) (hp : (ps.toList.zip (ps.toList.drop 1)).all (fun (a, next) => a.1 < next.1) = true) (ht : (pc : Int) + off = (tgt : Int)) (k : WW p l e R s m args below meth c cells slots Q A D ca ad sh tgt lo st σ) : WW p l e R s m args below meth c cells slots Q A D ca ad sh pc lo (.int x :: st) σ := fun H locs ls hP hD hS hl => lv_lookup C.1 C.2.1 d hp ho ht (k H locs ls hP hD hS hl)
/-- two places: one address or not -/
theorem s_acmp_eq (C : CX p s m args c D ca A own cc nL) {a b : Nat} {oa ob : sO} (ha : sh[a]? = some oa) (hb : sh[b]? = some ob) {off : Int} {tgt : Nat} (d : decode cc pc = .ok (.if_acmp .eq off, 3)) (ht : (pc : Int) + off = (tgt : Int)) (kt : a = b → WW p l e R s m args below meth c cells slots Q A D ca ad sh tgt lo st σ) (kf : ¬ a = b → WW p l e R s m args below meth c cells slots Q A D ca ad sh (pc + 3) lo st σ) : WW p l e R s m args below meth c cells slots Q A D ca ad sh pc lo (.ref (ad b) :: .ref (ad a) :: st) σ := fun H locs ls hP hD hS hl =>
  lv_acmp_eq (rx := some (ad a)) (ry := some (ad b)) C.1 C.2.1 d ht (fun h => kt (hD.1 a b _ _ (wd_at ha) (wd_at hb) (Option.some.inj h)) H locs ls hP hD hS hl) (fun h => kf (fun q => h (by rw [q])) H locs ls hP hD hS hl)
theorem s_acmp_ne (C : CX p s m args c D ca A own cc nL) {a b : Nat} {oa ob : sO} (ha : sh[a]? = some oa) (hb : sh[b]? = some ob) {off : Int} {tgt : Nat} (d : decode cc pc = .ok (.if_acmp .ne off, 3)) (ht : (pc : Int) + off = (tgt : Int)) (kt : ¬ a = b → WW p l e R s m args below meth c cells slots Q A D ca ad sh tgt lo st σ) (kf : a = b → WW p l e R s m args below meth c cells slots Q A D ca ad sh (pc + 3) lo st σ) : WW p l e R s m args below meth c cells slots Q A D ca ad sh pc lo (.ref (ad b) :: .ref (ad a) :: st) σ := fun H locs ls hP hD hS hl =>
  lv_acmp_ne (rx := some (ad a)) (ry := some (ad b)) C.1 C.2.1 d ht (fun h => kt (fun q => h (by rw [q])) H locs ls hP hD hS hl) (fun h => kf (hD.1 a b _ _ (wd_at ha) (wd_at hb) (Option.some.inj h)) H locs ls hP hD hS hl)
end WWM
end
section
/-! the shape of the world: 0 .. 24 the class's, 25 .. 50 the reference's, 51 the law's own row of longs -/
def oPS : sO := .inl (4, [.inl 1, .inl 2, .inl 3, .inl 4, .inr false, .inr false, .inr false, .inr false, .inr false, .inr false, .inr false, .inr true, .inr true])
def oPlan (r : Nat) : sO := .inl (2, [.inr false, .inr false, .inr false, .inl r])
def oPiece : sO := .inl (1, [.inr false, .inr false, .inr false, .inr false, .inr false, .inr false, .inr false, .inr false])
def oSpot : sO := .inl (3, [.inr true, .inr false, .inr false, .inr false, .inr false, .inr false, .inr false, .inr false, .inr false, .inr false, .inr false])
def oM : sO := .inl (5, [.inr false, .inr false, .inr false, .inr false, .inr false, .inl 26, .inl 27, .inl 28, .inl 29, .inl 30, .inl 31, .inr false, .inr false, .inl 32, .inl 33, .inl 34, .inl 35, .inl 36, .inl 37, .inl 38, .inr true, .inr false, .inl 39, .inl 40, .inl 41, .inl 42, .inr false, .inr true, .inr false, .inl 43, .inl 44, .inl 45, .inl 46, .inl 47, .inl 48, .inl 49, .inl 50])
def SH : List sO := [oPS, .inr (1, 6, some (some 5)), oPlan 11, oPlan 12, .inr (0, 6, none), oPiece, oPiece, oPiece, oPiece, oPiece, oPiece, .inr (2, 6, some (some 13)), .inr (2, 6, some (some 19)), oSpot, oSpot, oSpot, oSpot, oSpot, oSpot, oSpot, oSpot, oSpot, oSpot, oSpot, oSpot, oM, .inr (0, 18, none), .inr (0, 6, none), .inr (0, 6, none), .inr (0, 6, none), .inr (0, 6, none), .inr (0, 6, none), .inr (0, 6, none), .inr (0, 6, none), .inr (0, 6, none), .inr (0, 6, none), .inr (0, 6, none), .inr (0, 6, none), .inr (0, 6, none), .inr (0, 6, none), .inr (0, 6, none), .inr (0, 6, none), .inr (0, 6, none), .inr (0, 6, none), .inr (0, 7, none), .inr (0, 7, none), .inr (0, 7, none), .inr (0, 7, none), .inr (0, 168, none), .inr (0, 21, none), .inr (0, 8, none), .inr (3, 1, some none)]
theorem SH_piece {i : Nat} (h : i < 6) : SH[5 + i]? = some oPiece := by
  rcases (show i = 0 ∨ i = 1 ∨ i = 2 ∨ i = 3 ∨ i = 4 ∨ i = 5 by omega) with rfl | rfl | rfl | rfl | rfl | rfl <;> rfl
theorem SH_spot {b i : Nat} (hb : b < 2) (h : i < 6) : SH[13 + 6 * b + i]? = some oSpot := by
  rcases (show b = 0 ∨ b = 1 by omega) with rfl | rfl <;> rcases (show i = 0 ∨ i = 1 ∨ i = 2 ∨ i = 3 ∨ i = 4 ∨ i = 5 by omega) with rfl | rfl | rfl | rfl | rfl | rfl <;> rfl
theorem SH_plan {b : Nat} (hb : b < 2) : SH[2 + b]? = some (oPlan (11 + b)) := by
  rcases (show b = 0 ∨ b = 1 by omega) with rfl | rfl <;> rfl
theorem SH_spots {b : Nat} (hb : b < 2) : SH[11 + b]? = some (.inr (2, 6, some (some (13 + 6 * b)))) := by
  rcases (show b = 0 ∨ b = 1 by omega) with rfl | rfl <;> rfl
theorem ty0 (ca : Nat → ClassId) : (tys ca)[0]? = some (ca 0, .int) := rfl
theorem ty1 (ca : Nat → ClassId) : (tys ca)[1]? = some (ca 1, .object "PackingSearch$Piece") := rfl
theorem ty2 (ca : Nat → ClassId) : (tys ca)[2]? = some (ca 2, .object "PackingSearch$Spot") := rfl
theorem ty3 (ca : Nat → ClassId) : (tys ca)[3]? = some (ca 3, .long) := rfl
theorem inWSX0 : ∀ w ∈ u_ws RX0 TX0 8, w ∈ WS := by decide +kernel
theorem inWSX1 : ∀ w ∈ u_ws RX1 TX1 4, w ∈ WS := by decide +kernel
theorem inWSX2 : ∀ w ∈ u_ws RX2 TX2 11, w ∈ WS := by decide +kernel
theorem inWSX3 : ∀ w ∈ u_ws RX3 TX3 13, w ∈ WS := by decide +kernel
theorem inWSX4 : ∀ w ∈ u_ws RX4 TX4 37, w ∈ WS := by decide +kernel
end
section
theorem fl_X3_15 : FL RX3 15 4 0 := ⟨_, TX3, _, rfl, by decide, inWSX3, ws_mem 175 (by decide +kernel) rfl⟩
theorem fl_X3_25 : FL RX3 25 4 1 := ⟨_, TX3, _, rfl, by decide, inWSX3, ws_mem 176 (by decide +kernel) rfl⟩
theorem fl_X3_29 : FL RX3 29 4 2 := ⟨_, TX3, _, rfl, by decide, inWSX3, ws_mem 177 (by decide +kernel) rfl⟩
theorem fl_X3_32 : FL RX3 32 4 3 := ⟨_, TX3, _, rfl, by decide, inWSX3, ws_mem 178 (by decide +kernel) rfl⟩
theorem fl_X3_49 : FL RX3 49 4 4 := ⟨_, TX3, _, rfl, by decide, inWSX3, ws_mem 179 (by decide +kernel) rfl⟩
theorem fp_X3_49 : FP RX3 49 4 4 .int := ⟨_, TX3, _, tyX3, rfl, by decide, inWSX3, ws_mem 179 (by decide +kernel) rfl, tyX3_ok, nmX3, rfl, by decide +kernel⟩
theorem fl_X3_78 : FL RX3 78 1 5 := ⟨_, TX0, _, rfl, by decide, inWSX0, ws_mem 83 (by decide +kernel) rfl⟩
theorem fp_X3_78 : FP RX3 78 1 5 .int := ⟨_, TX0, _, tyX0, rfl, by decide, inWSX0, ws_mem 83 (by decide +kernel) rfl, tyX0_ok, nmX0, rfl, by decide +kernel⟩
theorem fl_X3_83 : FL RX3 83 1 6 := ⟨_, TX0, _, rfl, by decide, inWSX0, ws_mem 84 (by decide +kernel) rfl⟩
theorem fp_X3_83 : FP RX3 83 1 6 .int := ⟨_, TX0, _, tyX0, rfl, by decide, inWSX0, ws_mem 84 (by decide +kernel) rfl, tyX0_ok, nmX0, rfl, by decide +kernel⟩
theorem fl_X3_96 : FL RX3 96 4 6 := ⟨_, TX3, _, rfl, by decide, inWSX3, ws_mem 181 (by decide +kernel) rfl⟩
theorem fp_X3_96 : FP RX3 96 4 6 .int := ⟨_, TX3, _, tyX3, rfl, by decide, inWSX3, ws_mem 181 (by decide +kernel) rfl, tyX3_ok, nmX3, rfl, by decide +kernel⟩
theorem fl_X3_107 : FL RX3 107 4 11 := ⟨_, TX3, _, rfl, by decide, inWSX3, ws_mem 186 (by decide +kernel) rfl⟩
theorem fp_X3_107 : FP RX3 107 4 11 .boolean := ⟨_, TX3, _, tyX3, rfl, by decide, inWSX3, ws_mem 186 (by decide +kernel) rfl, tyX3_ok, nmX3, rfl, by decide +kernel⟩
theorem fl_X3_111 : FL RX3 111 4 12 := ⟨_, TX3, _, rfl, by decide, inWSX3, ws_mem 187 (by decide +kernel) rfl⟩
theorem fp_X3_111 : FP RX3 111 4 12 .boolean := ⟨_, TX3, _, tyX3, rfl, by decide, inWSX3, ws_mem 187 (by decide +kernel) rfl, tyX3_ok, nmX3, rfl, by decide +kernel⟩
theorem fl_X3_117 : FL RX3 117 4 9 := ⟨_, TX3, _, rfl, by decide, inWSX3, ws_mem 184 (by decide +kernel) rfl⟩
theorem fp_X3_117 : FP RX3 117 4 9 .int := ⟨_, TX3, _, tyX3, rfl, by decide, inWSX3, ws_mem 184 (by decide +kernel) rfl, tyX3_ok, nmX3, rfl, by decide +kernel⟩
theorem fl_X3_140 : FL RX3 140 3 0 := ⟨_, TX2, _, rfl, by decide, inWSX2, ws_mem 119 (by decide +kernel) rfl⟩
theorem fp_X3_140 : FP RX3 140 3 0 .boolean := ⟨_, TX2, _, tyX2, rfl, by decide, inWSX2, ws_mem 119 (by decide +kernel) rfl, tyX2_ok, nmX2, rfl, by decide +kernel⟩
theorem fl_X3_193 : FL RX3 193 4 7 := ⟨_, TX3, _, rfl, by decide, inWSX3, ws_mem 182 (by decide +kernel) rfl⟩
theorem fp_X3_193 : FP RX3 193 4 7 .int := ⟨_, TX3, _, tyX3, rfl, by decide, inWSX3, ws_mem 182 (by decide +kernel) rfl, tyX3_ok, nmX3, rfl, by decide +kernel⟩
theorem fl_X3_196 : FL RX3 196 2 3 := ⟨_, TX1, _, rfl, by decide, inWSX1, ws_mem 165 (by decide +kernel) rfl⟩
theorem fl_X3_200 : FL RX3 200 1 7 := ⟨_, TX0, _, rfl, by decide, inWSX0, ws_mem 86 (by decide +kernel) rfl⟩
theorem fp_X3_200 : FP RX3 200 1 7 .int := ⟨_, TX0, _, tyX0, rfl, by decide, inWSX0, ws_mem 86 (by decide +kernel) rfl, tyX0_ok, nmX0, rfl, by decide +kernel⟩
theorem fl_X3_238 : FL RX3 238 4 8 := ⟨_, TX3, _, rfl, by decide, inWSX3, ws_mem 183 (by decide +kernel) rfl⟩
theorem fp_X3_238 : FP RX3 238 4 8 .int := ⟨_, TX3, _, tyX3, rfl, by decide, inWSX3, ws_mem 183 (by decide +kernel) rfl, tyX3_ok, nmX3, rfl, by decide +kernel⟩
theorem fl_X3_241 : FL RX3 241 4 10 := ⟨_, TX3, _, rfl, by decide, inWSX3, ws_mem 185 (by decide +kernel) rfl⟩
theorem fp_X3_241 : FP RX3 241 4 10 .int := ⟨_, TX3, _, tyX3, rfl, by decide, inWSX3, ws_mem 185 (by decide +kernel) rfl, tyX3_ok, nmX3, rfl, by decide +kernel⟩
theorem fl_X3_247 : FL RX3 247 4 5 := ⟨_, TX3, _, rfl, by decide, inWSX3, ws_mem 180 (by decide +kernel) rfl⟩
theorem fp_X3_247 : FP RX3 247 4 5 .int := ⟨_, TX3, _, tyX3, rfl, by decide, inWSX3, ws_mem 180 (by decide +kernel) rfl, tyX3_ok, nmX3, rfl, by decide +kernel⟩
theorem fl_X0_9 : FL RX0 9 1 4 := ⟨_, TX0, _, rfl, by decide, inWSX0, ws_mem 80 (by decide +kernel) rfl⟩
theorem fp_X0_9 : FP RX0 9 1 4 .int := ⟨_, TX0, _, tyX0, rfl, by decide, inWSX0, ws_mem 80 (by decide +kernel) rfl, tyX0_ok, nmX0, rfl, by decide +kernel⟩
theorem fl_X0_15 : FL RX0 15 1 5 := ⟨_, TX0, _, rfl, by decide, inWSX0, ws_mem 81 (by decide +kernel) rfl⟩
theorem fp_X0_15 : FP RX0 15 1 5 .int := ⟨_, TX0, _, tyX0, rfl, by decide, inWSX0, ws_mem 81 (by decide +kernel) rfl, tyX0_ok, nmX0, rfl, by decide +kernel⟩
theorem fl_X0_18 : FL RX0 18 1 7 := ⟨_, TX0, _, rfl, by decide, inWSX0, ws_mem 85 (by decide +kernel) rfl⟩
theorem fp_X0_18 : FP RX0 18 1 7 .int := ⟨_, TX0, _, tyX0, rfl, by decide, inWSX0, ws_mem 85 (by decide +kernel) rfl, tyX0_ok, nmX0, rfl, by decide +kernel⟩
theorem fl_X0_21 : FL RX0 21 1 0 := ⟨_, TX0, _, rfl, by decide, inWSX0, ws_mem 75 (by decide +kernel) rfl⟩
theorem fp_X0_21 : FP RX0 21 1 0 .int := ⟨_, TX0, _, tyX0, rfl, by decide, inWSX0, ws_mem 75 (by decide +kernel) rfl, tyX0_ok, nmX0, rfl, by decide +kernel⟩
theorem fl_X0_24 : FL RX0 24 1 1 := ⟨_, TX0, _, rfl, by decide, inWSX0, ws_mem 76 (by decide +kernel) rfl⟩
theorem fp_X0_24 : FP RX0 24 1 1 .int := ⟨_, TX0, _, tyX0, rfl, by decide, inWSX0, ws_mem 76 (by decide +kernel) rfl, tyX0_ok, nmX0, rfl, by decide +kernel⟩
theorem fl_X0_27 : FL RX0 27 1 2 := ⟨_, TX0, _, rfl, by decide, inWSX0, ws_mem 77 (by decide +kernel) rfl⟩
theorem fp_X0_27 : FP RX0 27 1 2 .int := ⟨_, TX0, _, tyX0, rfl, by decide, inWSX0, ws_mem 77 (by decide +kernel) rfl, tyX0_ok, nmX0, rfl, by decide +kernel⟩
theorem fl_X0_30 : FL RX0 30 1 3 := ⟨_, TX0, _, rfl, by decide, inWSX0, ws_mem 78 (by decide +kernel) rfl⟩
theorem fp_X0_30 : FP RX0 30 1 3 .int := ⟨_, TX0, _, tyX0, rfl, by decide, inWSX0, ws_mem 78 (by decide +kernel) rfl, tyX0_ok, nmX0, rfl, by decide +kernel⟩
theorem fl_X1_9 : FL RX1 9 2 0 := ⟨_, TX1, _, rfl, by decide, inWSX1, ws_mem 161 (by decide +kernel) rfl⟩
theorem fl_X1_15 : FL RX1 15 2 1 := ⟨_, TX1, _, rfl, by decide, inWSX1, ws_mem 162 (by decide +kernel) rfl⟩
theorem fl_X1_18 : FL RX1 18 2 2 := ⟨_, TX1, _, rfl, by decide, inWSX1, ws_mem 163 (by decide +kernel) rfl⟩
theorem fl_X1_23 : FL RX1 23 2 3 := ⟨_, TX1, _, rfl, by decide, inWSX1, ws_mem 164 (by decide +kernel) rfl⟩
theorem fl_X1_35 : FL RX1 35 3 0 := ⟨_, TX2, _, rfl, by decide, inWSX2, ws_mem 118 (by decide +kernel) rfl⟩
theorem fp_X1_35 : FP RX1 35 3 0 .boolean := ⟨_, TX2, _, tyX2, rfl, by decide, inWSX2, ws_mem 118 (by decide +kernel) rfl, tyX2_ok, nmX2, rfl, by decide +kernel⟩
theorem fl_X1_47 : FL RX1 47 3 8 := ⟨_, TX2, _, rfl, by decide, inWSX2, ws_mem 134 (by decide +kernel) rfl⟩
theorem fp_X1_47 : FP RX1 47 3 8 .int := ⟨_, TX2, _, tyX2, rfl, by decide, inWSX2, ws_mem 134 (by decide +kernel) rfl, tyX2_ok, nmX2, rfl, by decide +kernel⟩
theorem fl_X1_60 : FL RX1 60 3 1 := ⟨_, TX2, _, rfl, by decide, inWSX2, ws_mem 121 (by decide +kernel) rfl⟩
theorem fp_X1_60 : FP RX1 60 3 1 .int := ⟨_, TX2, _, tyX2, rfl, by decide, inWSX2, ws_mem 121 (by decide +kernel) rfl, tyX2_ok, nmX2, rfl, by decide +kernel⟩
theorem fl_X1_63 : FL RX1 63 3 4 := ⟨_, TX2, _, rfl, by decide, inWSX2, ws_mem 127 (by decide +kernel) rfl⟩
theorem fp_X1_63 : FP RX1 63 3 4 .int := ⟨_, TX2, _, tyX2, rfl, by decide, inWSX2, ws_mem 127 (by decide +kernel) rfl, tyX2_ok, nmX2, rfl, by decide +kernel⟩
theorem fl_X1_66 : FL RX1 66 3 2 := ⟨_, TX2, _, rfl, by decide, inWSX2, ws_mem 123 (by decide +kernel) rfl⟩
theorem fp_X1_66 : FP RX1 66 3 2 .int := ⟨_, TX2, _, tyX2, rfl, by decide, inWSX2, ws_mem 123 (by decide +kernel) rfl, tyX2_ok, nmX2, rfl, by decide +kernel⟩
theorem fl_X1_69 : FL RX1 69 3 5 := ⟨_, TX2, _, rfl, by decide, inWSX2, ws_mem 129 (by decide +kernel) rfl⟩
theorem fp_X1_69 : FP RX1 69 3 5 .int := ⟨_, TX2, _, tyX2, rfl, by decide, inWSX2, ws_mem 129 (by decide +kernel) rfl, tyX2_ok, nmX2, rfl, by decide +kernel⟩
theorem fl_X1_72 : FL RX1 72 3 3 := ⟨_, TX2, _, rfl, by decide, inWSX2, ws_mem 125 (by decide +kernel) rfl⟩
theorem fp_X1_72 : FP RX1 72 3 3 .int := ⟨_, TX2, _, tyX2, rfl, by decide, inWSX2, ws_mem 125 (by decide +kernel) rfl, tyX2_ok, nmX2, rfl, by decide +kernel⟩
theorem fl_X1_75 : FL RX1 75 3 6 := ⟨_, TX2, _, rfl, by decide, inWSX2, ws_mem 131 (by decide +kernel) rfl⟩
theorem fp_X1_75 : FP RX1 75 3 6 .int := ⟨_, TX2, _, tyX2, rfl, by decide, inWSX2, ws_mem 131 (by decide +kernel) rfl, tyX2_ok, nmX2, rfl, by decide +kernel⟩
theorem fl_X1_108 : FL RX1 108 3 9 := ⟨_, TX2, _, rfl, by decide, inWSX2, ws_mem 136 (by decide +kernel) rfl⟩
theorem fp_X1_108 : FP RX1 108 3 9 .int := ⟨_, TX2, _, tyX2, rfl, by decide, inWSX2, ws_mem 136 (by decide +kernel) rfl, tyX2_ok, nmX2, rfl, by decide +kernel⟩
theorem fl_X1_114 : FL RX1 114 3 10 := ⟨_, TX2, _, rfl, by decide, inWSX2, ws_mem 137 (by decide +kernel) rfl⟩
theorem fp_X1_114 : FP RX1 114 3 10 .int := ⟨_, TX2, _, tyX2, rfl, by decide, inWSX2, ws_mem 137 (by decide +kernel) rfl, tyX2_ok, nmX2, rfl, by decide +kernel⟩
theorem fl_X2_9 : FL RX2 9 3 0 := ⟨_, TX2, _, rfl, by decide, inWSX2, ws_mem 117 (by decide +kernel) rfl⟩
theorem fp_X2_9 : FP RX2 9 3 0 .boolean := ⟨_, TX2, _, tyX2, rfl, by decide, inWSX2, ws_mem 117 (by decide +kernel) rfl, tyX2_ok, nmX2, rfl, by decide +kernel⟩
theorem fl_X2_15 : FL RX2 15 3 1 := ⟨_, TX2, _, rfl, by decide, inWSX2, ws_mem 120 (by decide +kernel) rfl⟩
theorem fp_X2_15 : FP RX2 15 3 1 .int := ⟨_, TX2, _, tyX2, rfl, by decide, inWSX2, ws_mem 120 (by decide +kernel) rfl, tyX2_ok, nmX2, rfl, by decide +kernel⟩
theorem fl_X2_19 : FL RX2 19 3 2 := ⟨_, TX2, _, rfl, by decide, inWSX2, ws_mem 122 (by decide +kernel) rfl⟩
theorem fp_X2_19 : FP RX2 19 3 2 .int := ⟨_, TX2, _, tyX2, rfl, by decide, inWSX2, ws_mem 122 (by decide +kernel) rfl, tyX2_ok, nmX2, rfl, by decide +kernel⟩
theorem fl_X2_22 : FL RX2 22 3 3 := ⟨_, TX2, _, rfl, by decide, inWSX2, ws_mem 124 (by decide +kernel) rfl⟩
theorem fp_X2_22 : FP RX2 22 3 3 .int := ⟨_, TX2, _, tyX2, rfl, by decide, inWSX2, ws_mem 124 (by decide +kernel) rfl, tyX2_ok, nmX2, rfl, by decide +kernel⟩
theorem fl_X2_31 : FL RX2 31 3 4 := ⟨_, TX2, _, rfl, by decide, inWSX2, ws_mem 126 (by decide +kernel) rfl⟩
theorem fp_X2_31 : FP RX2 31 3 4 .int := ⟨_, TX2, _, tyX2, rfl, by decide, inWSX2, ws_mem 126 (by decide +kernel) rfl, tyX2_ok, nmX2, rfl, by decide +kernel⟩
theorem fl_X2_37 : FL RX2 37 3 5 := ⟨_, TX2, _, rfl, by decide, inWSX2, ws_mem 128 (by decide +kernel) rfl⟩
theorem fp_X2_37 : FP RX2 37 3 5 .int := ⟨_, TX2, _, tyX2, rfl, by decide, inWSX2, ws_mem 128 (by decide +kernel) rfl, tyX2_ok, nmX2, rfl, by decide +kernel⟩
theorem fl_X2_43 : FL RX2 43 3 6 := ⟨_, TX2, _, rfl, by decide, inWSX2, ws_mem 130 (by decide +kernel) rfl⟩
theorem fp_X2_43 : FP RX2 43 3 6 .int := ⟨_, TX2, _, tyX2, rfl, by decide, inWSX2, ws_mem 130 (by decide +kernel) rfl, tyX2_ok, nmX2, rfl, by decide +kernel⟩
theorem fl_X2_46 : FL RX2 46 3 7 := ⟨_, TX2, _, rfl, by decide, inWSX2, ws_mem 132 (by decide +kernel) rfl⟩
theorem fp_X2_46 : FP RX2 46 3 7 .int := ⟨_, TX2, _, tyX2, rfl, by decide, inWSX2, ws_mem 132 (by decide +kernel) rfl, tyX2_ok, nmX2, rfl, by decide +kernel⟩
theorem fl_X2_49 : FL RX2 49 1 3 := ⟨_, TX0, _, rfl, by decide, inWSX0, ws_mem 79 (by decide +kernel) rfl⟩
theorem fp_X2_49 : FP RX2 49 1 3 .int := ⟨_, TX0, _, tyX0, rfl, by decide, inWSX0, ws_mem 79 (by decide +kernel) rfl, tyX0_ok, nmX0, rfl, by decide +kernel⟩
theorem fl_X2_52 : FL RX2 52 3 8 := ⟨_, TX2, _, rfl, by decide, inWSX2, ws_mem 133 (by decide +kernel) rfl⟩
theorem fp_X2_52 : FP RX2 52 3 8 .int := ⟨_, TX2, _, tyX2, rfl, by decide, inWSX2, ws_mem 133 (by decide +kernel) rfl, tyX2_ok, nmX2, rfl, by decide +kernel⟩
theorem fl_X2_53 : FL RX2 53 1 5 := ⟨_, TX0, _, rfl, by decide, inWSX0, ws_mem 82 (by decide +kernel) rfl⟩
theorem fp_X2_53 : FP RX2 53 1 5 .int := ⟨_, TX0, _, tyX0, rfl, by decide, inWSX0, ws_mem 82 (by decide +kernel) rfl, tyX0_ok, nmX0, rfl, by decide +kernel⟩
theorem fl_X2_56 : FL RX2 56 3 9 := ⟨_, TX2, _, rfl, by decide, inWSX2, ws_mem 135 (by decide +kernel) rfl⟩
theorem fp_X2_56 : FP RX2 56 3 9 .int := ⟨_, TX2, _, tyX2, rfl, by decide, inWSX2, ws_mem 135 (by decide +kernel) rfl, tyX2_ok, nmX2, rfl, by decide +kernel⟩
theorem fl_X4_7 : FL RX4 7 5 0 := ⟨_, TX4, _, rfl, by decide, inWSX4, ws_mem 736 (by decide +kernel) rfl⟩
theorem fp_X4_7 : FP RX4 7 5 0 .int := ⟨_, TX4, _, tyX4, rfl, by decide, inWSX4, ws_mem 736 (by decide +kernel) rfl, tyX4_ok, nmX4, rfl, by decide +kernel⟩
theorem fl_X4_13 : FL RX4 13 5 4 := ⟨_, TX4, _, rfl, by decide, inWSX4, ws_mem 740 (by decide +kernel) rfl⟩
theorem fp_X4_13 : FP RX4 13 5 4 .int := ⟨_, TX4, _, tyX4, rfl, by decide, inWSX4, ws_mem 740 (by decide +kernel) rfl, tyX4_ok, nmX4, rfl, by decide +kernel⟩
theorem fl_X4_16 : FL RX4 16 5 5 := ⟨_, TX4, _, rfl, by decide, inWSX4, ws_mem 741 (by decide +kernel) rfl⟩
theorem fl_X4_20 : FL RX4 20 5 6 := ⟨_, TX4, _, rfl, by decide, inWSX4, ws_mem 742 (by decide +kernel) rfl⟩
theorem fl_X4_23 : FL RX4 23 5 7 := ⟨_, TX4, _, rfl, by decide, inWSX4, ws_mem 743 (by decide +kernel) rfl⟩
theorem fl_X4_26 : FL RX4 26 5 8 := ⟨_, TX4, _, rfl, by decide, inWSX4, ws_mem 744 (by decide +kernel) rfl⟩
theorem fl_X4_29 : FL RX4 29 5 9 := ⟨_, TX4, _, rfl, by decide, inWSX4, ws_mem 745 (by decide +kernel) rfl⟩
theorem fl_X4_32 : FL RX4 32 5 10 := ⟨_, TX4, _, rfl, by decide, inWSX4, ws_mem 746 (by decide +kernel) rfl⟩
theorem fl_X4_35 : FL RX4 35 5 11 := ⟨_, TX4, _, rfl, by decide, inWSX4, ws_mem 747 (by decide +kernel) rfl⟩
theorem fp_X4_35 : FP RX4 35 5 11 .int := ⟨_, TX4, _, tyX4, rfl, by decide, inWSX4, ws_mem 747 (by decide +kernel) rfl, tyX4_ok, nmX4, rfl, by decide +kernel⟩
theorem fl_X4_38 : FL RX4 38 5 12 := ⟨_, TX4, _, rfl, by decide, inWSX4, ws_mem 748 (by decide +kernel) rfl⟩
theorem fp_X4_38 : FP RX4 38 5 12 .int := ⟨_, TX4, _, tyX4, rfl, by decide, inWSX4, ws_mem 748 (by decide +kernel) rfl, tyX4_ok, nmX4, rfl, by decide +kernel⟩
theorem fl_X4_41 : FL RX4 41 5 13 := ⟨_, TX4, _, rfl, by decide, inWSX4, ws_mem 749 (by decide +kernel) rfl⟩
theorem fl_X4_44 : FL RX4 44 5 14 := ⟨_, TX4, _, rfl, by decide, inWSX4, ws_mem 750 (by decide +kernel) rfl⟩
theorem fl_X4_47 : FL RX4 47 5 15 := ⟨_, TX4, _, rfl, by decide, inWSX4, ws_mem 751 (by decide +kernel) rfl⟩
theorem fl_X4_50 : FL RX4 50 5 16 := ⟨_, TX4, _, rfl, by decide, inWSX4, ws_mem 752 (by decide +kernel) rfl⟩
theorem fl_X4_53 : FL RX4 53 5 17 := ⟨_, TX4, _, rfl, by decide, inWSX4, ws_mem 753 (by decide +kernel) rfl⟩
theorem fl_X4_56 : FL RX4 56 5 18 := ⟨_, TX4, _, rfl, by decide, inWSX4, ws_mem 754 (by decide +kernel) rfl⟩
theorem fl_X4_59 : FL RX4 59 5 19 := ⟨_, TX4, _, rfl, by decide, inWSX4, ws_mem 755 (by decide +kernel) rfl⟩
theorem fl_X4_62 : FL RX4 62 5 20 := ⟨_, TX4, _, rfl, by decide, inWSX4, ws_mem 756 (by decide +kernel) rfl⟩
theorem fp_X4_62 : FP RX4 62 5 20 .boolean := ⟨_, TX4, _, tyX4, rfl, by decide, inWSX4, ws_mem 756 (by decide +kernel) rfl, tyX4_ok, nmX4, rfl, by decide +kernel⟩
theorem fl_X4_66 : FL RX4 66 5 21 := ⟨_, TX4, _, rfl, by decide, inWSX4, ws_mem 757 (by decide +kernel) rfl⟩
theorem fp_X4_66 : FP RX4 66 5 21 .int := ⟨_, TX4, _, tyX4, rfl, by decide, inWSX4, ws_mem 757 (by decide +kernel) rfl, tyX4_ok, nmX4, rfl, by decide +kernel⟩
theorem fl_X4_69 : FL RX4 69 5 22 := ⟨_, TX4, _, rfl, by decide, inWSX4, ws_mem 758 (by decide +kernel) rfl⟩
theorem fl_X4_72 : FL RX4 72 5 23 := ⟨_, TX4, _, rfl, by decide, inWSX4, ws_mem 759 (by decide +kernel) rfl⟩
theorem fl_X4_75 : FL RX4 75 5 24 := ⟨_, TX4, _, rfl, by decide, inWSX4, ws_mem 760 (by decide +kernel) rfl⟩
theorem fl_X4_78 : FL RX4 78 5 25 := ⟨_, TX4, _, rfl, by decide, inWSX4, ws_mem 761 (by decide +kernel) rfl⟩
theorem fl_X4_81 : FL RX4 81 5 26 := ⟨_, TX4, _, rfl, by decide, inWSX4, ws_mem 762 (by decide +kernel) rfl⟩
theorem fp_X4_81 : FP RX4 81 5 26 .int := ⟨_, TX4, _, tyX4, rfl, by decide, inWSX4, ws_mem 762 (by decide +kernel) rfl, tyX4_ok, nmX4, rfl, by decide +kernel⟩
theorem fl_X4_84 : FL RX4 84 5 27 := ⟨_, TX4, _, rfl, by decide, inWSX4, ws_mem 763 (by decide +kernel) rfl⟩
theorem fp_X4_84 : FP RX4 84 5 27 .boolean := ⟨_, TX4, _, tyX4, rfl, by decide, inWSX4, ws_mem 763 (by decide +kernel) rfl, tyX4_ok, nmX4, rfl, by decide +kernel⟩
theorem fl_X4_87 : FL RX4 87 5 28 := ⟨_, TX4, _, rfl, by decide, inWSX4, ws_mem 764 (by decide +kernel) rfl⟩
theorem fp_X4_87 : FP RX4 87 5 28 .int := ⟨_, TX4, _, tyX4, rfl, by decide, inWSX4, ws_mem 764 (by decide +kernel) rfl, tyX4_ok, nmX4, rfl, by decide +kernel⟩
theorem fl_X4_90 : FL RX4 90 5 29 := ⟨_, TX4, _, rfl, by decide, inWSX4, ws_mem 765 (by decide +kernel) rfl⟩
theorem fl_X4_93 : FL RX4 93 5 30 := ⟨_, TX4, _, rfl, by decide, inWSX4, ws_mem 766 (by decide +kernel) rfl⟩
theorem fl_X4_96 : FL RX4 96 5 31 := ⟨_, TX4, _, rfl, by decide, inWSX4, ws_mem 767 (by decide +kernel) rfl⟩
theorem fl_X4_99 : FL RX4 99 5 32 := ⟨_, TX4, _, rfl, by decide, inWSX4, ws_mem 768 (by decide +kernel) rfl⟩
theorem fl_X4_102 : FL RX4 102 5 33 := ⟨_, TX4, _, rfl, by decide, inWSX4, ws_mem 769 (by decide +kernel) rfl⟩
theorem fl_X4_105 : FL RX4 105 5 34 := ⟨_, TX4, _, rfl, by decide, inWSX4, ws_mem 770 (by decide +kernel) rfl⟩
theorem fl_X4_108 : FL RX4 108 5 35 := ⟨_, TX4, _, rfl, by decide, inWSX4, ws_mem 771 (by decide +kernel) rfl⟩
theorem fl_X4_111 : FL RX4 111 5 36 := ⟨_, TX4, _, rfl, by decide, inWSX4, ws_mem 772 (by decide +kernel) rfl⟩
theorem fl_X4_118 : FL RX4 118 5 1 := ⟨_, TX4, _, rfl, by decide, inWSX4, ws_mem 737 (by decide +kernel) rfl⟩
theorem fl_X4_121 : FL RX4 121 5 2 := ⟨_, TX4, _, rfl, by decide, inWSX4, ws_mem 738 (by decide +kernel) rfl⟩
theorem fl_X4_124 : FL RX4 124 5 3 := ⟨_, TX4, _, rfl, by decide, inWSX4, ws_mem 739 (by decide +kernel) rfl⟩
end
section
theorem all2 {α : Type} {P : α → Prop} {a b : α} (h1 : P a) (h2 : P b) : ∀ w ∈ [a, b], P w := fun w h => by simp only [List.mem_cons, List.not_mem_nil, or_false] at h; rcases h with rfl | rfl <;> assumption
theorem all3 {α : Type} {P : α → Prop} {a b c : α} (h1 : P a) (h2 : P b) (h3 : P c) : ∀ w ∈ [a, b, c], P w := fun w h => by simp only [List.mem_cons, List.not_mem_nil, or_false] at h; rcases h with rfl | rfl | rfl <;> assumption
theorem all4 {α : Type} {P : α → Prop} {a b c d : α} (h1 : P a) (h2 : P b) (h3 : P c) (h4 : P d) : ∀ w ∈ [a, b, c, d], P w := fun w h => by simp only [List.mem_cons, List.not_mem_nil, or_false] at h; rcases h with rfl | rfl | rfl | rfl <;> assumption
theorem all5 {α : Type} {P : α → Prop} {a b c d e : α} (h1 : P a) (h2 : P b) (h3 : P c) (h4 : P d) (h5 : P e) : ∀ w ∈ [a, b, c, d, e], P w := fun w h => by simp only [List.mem_cons, List.not_mem_nil, or_false] at h; rcases h with rfl | rfl | rfl | rfl | rfl <;> assumption
theorem cw_X3_init : Cond.code yX3_init cX3_init 8 none ∈ WS := (ws_mem 55 (by decide +kernel) rfl)
theorem cw_X3_asSide : Cond.code yX3_asSide cX3_asSide 1 (some .int) ∈ WS := (ws_mem 61 (by decide +kernel) rfl)
theorem cw_J9_min_7cf53 : Cond.code yJ9_min_7cf53 cJ9_min_7cf53 2 (some .int) ∈ WS := (ws_mem 64 (by decide +kernel) rfl)
theorem cw_J9_max_7cf53 : Cond.code yJ9_max_7cf53 cJ9_max_7cf53 2 (some .int) ∈ WS := (ws_mem 67 (by decide +kernel) rfl)
theorem cw_X0_init : Cond.code yX0_init cX0_init 1 none ∈ WS := (ws_mem 73 (by decide +kernel) rfl)
theorem cw_X1_init : Cond.code yX1_init cX1_init 5 none ∈ WS := (ws_mem 108 (by decide +kernel) rfl)
theorem cw_X2_init : Cond.code yX2_init cX2_init 1 none ∈ WS := (ws_mem 115 (by decide +kernel) rfl)
theorem cw_X3_exact : Cond.code yX3_exact cX3_exact 1 (some .boolean) ∈ WS := (ws_mem 219 (by decide +kernel) rfl)
theorem cw_X3_steps : Cond.code yX3_steps cX3_steps 1 (some .int) ∈ WS := (ws_mem 223 (by decide +kernel) rfl)
theorem cw_X3_bound : Cond.code yX3_bound cX3_bound 3 (some .int) ∈ WS := (ws_mem 227 (by decide +kernel) rfl)
theorem cw_X0_isPacked : Cond.code yX0_isPacked cX0_isPacked 1 (some .boolean) ∈ WS := (ws_mem 231 (by decide +kernel) rfl)
theorem cw_X3_fitsAlone : Cond.code yX3_fitsAlone cX3_fitsAlone 3 (some .boolean) ∈ WS := (ws_mem 235 (by decide +kernel) rfl)
theorem cw_X0_lets : Cond.code yX0_lets cX0_lets 2 (some .boolean) ∈ WS := (ws_mem 239 (by decide +kernel) rfl)
theorem cw_X3_isIn : Cond.code yX3_isIn cX3_isIn 2 (some .boolean) ∈ WS := (ws_mem 242 (by decide +kernel) rfl)
theorem cw_X0_widthIn : Cond.code yX0_widthIn cX0_widthIn 2 (some .int) ∈ WS := (ws_mem 246 (by decide +kernel) rfl)
theorem cw_X0_depthIn : Cond.code yX0_depthIn cX0_depthIn 2 (some .int) ∈ WS := (ws_mem 250 (by decide +kernel) rfl)
theorem cw_X0_heightIn : Cond.code yX0_heightIn cX0_heightIn 2 (some .int) ∈ WS := (ws_mem 254 (by decide +kernel) rfl)
theorem cw_X1_takes : Cond.code yX1_takes cX1_takes 4 (some .boolean) ∈ WS := (ws_mem 258 (by decide +kernel) rfl)
theorem cw_X0_volume : Cond.code yX0_volume cX0_volume 1 (some .int) ∈ WS := (ws_mem 262 (by decide +kernel) rfl)
theorem cw_X1_boxVolume : Cond.code yX1_boxVolume cX1_boxVolume 1 (some .int) ∈ WS := (ws_mem 266 (by decide +kernel) rfl)
theorem cw_X3_count : Cond.code yX3_count cX3_count 2 (some .int) ∈ WS := (ws_mem 270 (by decide +kernel) rfl)
theorem cw_X1_size : Cond.code yX1_size cX1_size 3 (some .int) ∈ WS := (ws_mem 274 (by decide +kernel) rfl)
theorem cw_X3_unpackedCount : Cond.code yX3_unpackedCount cX3_unpackedCount 3 (some .int) ∈ WS := (ws_mem 278 (by decide +kernel) rfl)
theorem cw_X1_volume : Cond.code yX1_volume cX1_volume 3 (some .int) ∈ WS := (ws_mem 282 (by decide +kernel) rfl)
theorem cw_X2_volume : Cond.code yX2_volume cX2_volume 1 (some .int) ∈ WS := (ws_mem 286 (by decide +kernel) rfl)
theorem cw_X2_area : Cond.code yX2_area cX2_area 1 (some .int) ∈ WS := (ws_mem 290 (by decide +kernel) rfl)
theorem cw_X1_weight : Cond.code yX1_weight cX1_weight 3 (some .int) ∈ WS := (ws_mem 294 (by decide +kernel) rfl)
theorem cw_X1_top : Cond.code yX1_top cX1_top 3 (some .int) ∈ WS := (ws_mem 298 (by decide +kernel) rfl)
theorem cw_X2_endAlong : Cond.code yX2_endAlong cX2_endAlong 2 (some .int) ∈ WS := (ws_mem 302 (by decide +kernel) rfl)
theorem cw_L_cell : Cond.code yL_cell cL_cell 2 (some .int) ∈ WS := (ws_mem 306 (by decide +kernel) rfl)
theorem cw_X3_piece : Cond.code yX3_piece cX3_piece 6 (some .int) ∈ WS := (ws_mem 315 (by decide +kernel) rfl)
theorem cw_X3_isSide : Cond.code yX3_isSide cX3_isSide 1 (some .boolean) ∈ WS := (ws_mem 318 (by decide +kernel) rfl)
theorem cw_X0_become : Cond.code yX0_become cX0_become 5 none ∈ WS := (ws_mem 410 (by decide +kernel) rfl)
theorem cw_X3_turn : Cond.code yX3_turn cX3_turn 4 (some .int) ∈ WS := (ws_mem 418 (by decide +kernel) rfl)
theorem cw_X3_known : Cond.code yX3_known cX3_known 2 (some (.object "PackingSearch$Piece")) ∈ WS := (ws_mem 422 (by decide +kernel) rfl)
theorem cw_X0_mark : Cond.code yX0_mark cX0_mark 4 none ∈ WS := (ws_mem 443 (by decide +kernel) rfl)
theorem cw_X0_marksFor : Cond.code yX0_marksFor cX0_marksFor 1 (some .int) ∈ WS := (ws_mem 446 (by decide +kernel) rfl)
theorem cw_X0_isLikeOneLet : Cond.code yX0_isLikeOneLet cX0_isLikeOneLet 3 (some .boolean) ∈ WS := (ws_mem 450 (by decide +kernel) rfl)
theorem cw_X0_wayCount : Cond.code yX0_wayCount cX0_wayCount 1 (some .int) ∈ WS := (ws_mem 458 (by decide +kernel) rfl)
theorem cw_J6_bitCount_0f7a4 : Cond.code yJ6_bitCount_0f7a4 cJ6_bitCount_0f7a4 1 (some .int) ∈ WS := (ws_mem 461 (by decide +kernel) rfl)
theorem cw_X3_limit : Cond.code yX3_limit cX3_limit 4 none ∈ WS := (ws_mem 471 (by decide +kernel) rfl)
theorem cw_X3_rank : Cond.code yX3_rank cX3_rank 4 (some .int) ∈ WS := (ws_mem 479 (by decide +kernel) rfl)
theorem cw_X3_positionOf : Cond.code yX3_positionOf cX3_positionOf 6 (some .int) ∈ WS := (ws_mem 484 (by decide +kernel) rfl)
theorem cw_X3_share : Cond.code yX3_share cX3_share 2 none ∈ WS := (ws_mem 491 (by decide +kernel) rfl)
theorem cw_X3_solve : Cond.code yX3_solve cX3_solve 2 (some .int) ∈ WS := (ws_mem 499 (by decide +kernel) rfl)
theorem cw_X3_startSearch : Cond.code yX3_startSearch cX3_startSearch 2 none ∈ WS := (ws_mem 504 (by decide +kernel) rfl)
theorem cw_X1_clear : Cond.code yX1_clear cX1_clear 2 none ∈ WS := (ws_mem 508 (by decide +kernel) rfl)
theorem cw_X2_leave : Cond.code yX2_leave cX2_leave 1 none ∈ WS := (ws_mem 512 (by decide +kernel) rfl)
theorem cw_X3_putInOrder : Cond.code yX3_putInOrder cX3_putInOrder 3 none ∈ WS := (ws_mem 516 (by decide +kernel) rfl)
theorem cw_X3_searchFrom : Cond.code yX3_searchFrom cX3_searchFrom 4 none ∈ WS := (ws_mem 520 (by decide +kernel) rfl)
theorem cw_X3_lookAtTrial : Cond.code yX3_lookAtTrial cX3_lookAtTrial 2 none ∈ WS := (ws_mem 524 (by decide +kernel) rfl)
theorem cw_X1_copyFrom : Cond.code yX1_copyFrom cX1_copyFrom 3 none ∈ WS := (ws_mem 528 (by decide +kernel) rfl)
theorem cw_X2_copyFrom : Cond.code yX2_copyFrom cX2_copyFrom 2 none ∈ WS := (ws_mem 532 (by decide +kernel) rfl)
theorem cw_X3_tryWay : Cond.code yX3_tryWay cX3_tryWay 11 none ∈ WS := (ws_mem 536 (by decide +kernel) rfl)
theorem cw_X1_ends : Cond.code yX1_ends cX1_ends 4 (some .int) ∈ WS := (ws_mem 540 (by decide +kernel) rfl)
theorem cw_X2_stand : Cond.code yX2_stand cX2_stand 6 none ∈ WS := (ws_mem 545 (by decide +kernel) rfl)
theorem cw_X1_isPlanWith : Cond.code yX1_isPlanWith cX1_isPlanWith 3 (some .boolean) ∈ WS := (ws_mem 552 (by decide +kernel) rfl)
theorem cw_X1_hasRoomFor : Cond.code yX1_hasRoomFor cX1_hasRoomFor 3 (some .boolean) ∈ WS := (ws_mem 557 (by decide +kernel) rfl)
theorem cw_X2_meets : Cond.code yX2_meets cX2_meets 2 (some .boolean) ∈ WS := (ws_mem 561 (by decide +kernel) rfl)
theorem cw_X2_meetsFromAbove : Cond.code yX2_meetsFromAbove cX2_meetsFromAbove 2 (some .boolean) ∈ WS := (ws_mem 565 (by decide +kernel) rfl)
theorem cw_X1_supportOf : Cond.code yX1_supportOf cX1_supportOf 4 (some .int) ∈ WS := (ws_mem 569 (by decide +kernel) rfl)
theorem cw_X2_standsOn : Cond.code yX2_standsOn cX2_standsOn 2 (some .boolean) ∈ WS := (ws_mem 574 (by decide +kernel) rfl)
theorem cw_X2_commonArea : Cond.code yX2_commonArea cX2_commonArea 4 (some .int) ∈ WS := (ws_mem 578 (by decide +kernel) rfl)
theorem cw_X1_weightsAreBorne : Cond.code yX1_weightsAreBorne cX1_weightsAreBorne 2 (some .boolean) ∈ WS := (ws_mem 584 (by decide +kernel) rfl)
theorem cw_X1_noteStanders : Cond.code yX1_noteStanders cX1_noteStanders 3 none ∈ WS := (ws_mem 588 (by decide +kernel) rfl)
theorem cw_X1_weightOn : Cond.code yX1_weightOn cX1_weightOn 6 (some .int) ∈ WS := (ws_mem 592 (by decide +kernel) rfl)
theorem cw_X3_at : Cond.code yX3_at cX3_at 4 (some .int) ∈ WS := (ws_mem 601 (by decide +kernel) rfl)
theorem cw_X3_spotOf : Cond.code yX3_spotOf cX3_spotOf 2 (some (.object "PackingSearch$Spot")) ∈ WS := (ws_mem 605 (by decide +kernel) rfl)
theorem cw_X2_detail : Cond.code yX2_detail cX2_detail 2 (some .int) ∈ WS := (ws_mem 610 (by decide +kernel) rfl)
theorem cw_X3_over : Cond.code yX3_over cX3_over 5 (some .boolean) ∈ WS := (ws_mem 618 (by decide +kernel) rfl)
theorem cw_X3_support : Cond.code yX3_support cX3_support 4 (some .int) ∈ WS := (ws_mem 643 (by decide +kernel) rfl)
theorem cw_X3_bears : Cond.code yX3_bears cX3_bears 3 (some .int) ∈ WS := (ws_mem 668 (by decide +kernel) rfl)
theorem cw_X3_cell : Cond.code yX3_cell cX3_cell 4 (some .int) ∈ WS := (ws_mem 678 (by decide +kernel) rfl)
theorem cw_X1_hasCell : Cond.code yX1_hasCell cX1_hasCell 4 (some .boolean) ∈ WS := (ws_mem 682 (by decide +kernel) rfl)
theorem cw_Jx00060_init_a7421 : Cond.code yJx00060_init_a7421 cJx00060_init_a7421 2 none ∈ WS := (ws_mem 697 (by decide +kernel) rfl)
theorem cw_X1_pieceIn : Cond.code yX1_pieceIn cX1_pieceIn 5 (some .int) ∈ WS := (ws_mem 707 (by decide +kernel) rfl)
theorem cw_X2_covers : Cond.code yX2_covers cX2_covers 4 (some .boolean) ∈ WS := (ws_mem 711 (by decide +kernel) rfl)
theorem cw_X3_close : Cond.code yX3_close cX3_close 3 (some .int) ∈ WS := (ws_mem 718 (by decide +kernel) rfl)
theorem cw_X3_box : Cond.code yX3_box cX3_box 2 (some .int) ∈ WS := (ws_mem 726 (by decide +kernel) rfl)
theorem cw_X4_init : Cond.code yX4_init cX4_init 5 none ∈ WS := (ws_mem 731 (by decide +kernel) rfl)
theorem cw_X4_held : Cond.code yX4_held cX4_held 1 (some .int) ∈ WS := (ws_mem 735 (by decide +kernel) rfl)
theorem cw_X4_thrown : Cond.code yX4_thrown cX4_thrown 1 (some .int) ∈ WS := (ws_mem 851 (by decide +kernel) rfl)
theorem cw_X4_piece : Cond.code yX4_piece cX4_piece 5 (some .int) ∈ WS := (ws_mem 855 (by decide +kernel) rfl)
theorem cw_X4_not : Cond.code yX4_not cX4_not 3 (some .boolean) ∈ WS := (ws_mem 858 (by decide +kernel) rfl)
theorem cw_X4_turn : Cond.code yX4_turn cX4_turn 5 (some .int) ∈ WS := (ws_mem 862 (by decide +kernel) rfl)
theorem cw_X4_noPiece : Cond.code yX4_noPiece cX4_noPiece 2 (some .boolean) ∈ WS := (ws_mem 866 (by decide +kernel) rfl)
theorem cw_X4_let : Cond.code yX4_let cX4_let 6 (some .boolean) ∈ WS := (ws_mem 870 (by decide +kernel) rfl)
theorem cw_X4_byMarks : Cond.code yX4_byMarks cX4_byMarks 3 (some .boolean) ∈ WS := (ws_mem 874 (by decide +kernel) rfl)
theorem cw_X4_measure : Cond.code yX4_measure cX4_measure 4 (some .int) ∈ WS := (ws_mem 878 (by decide +kernel) rfl)
theorem cw_X4_from : Cond.code yX4_from cX4_from 2 (some .int) ∈ WS := (ws_mem 881 (by decide +kernel) rfl)
theorem cw_X4_limit : Cond.code yX4_limit cX4_limit 3 none ∈ WS := (ws_mem 885 (by decide +kernel) rfl)
theorem cw_X4_rank : Cond.code yX4_rank cX4_rank 4 (some .int) ∈ WS := (ws_mem 889 (by decide +kernel) rfl)
theorem cw_X4_findOrder : Cond.code yX4_findOrder cX4_findOrder 3 none ∈ WS := (ws_mem 893 (by decide +kernel) rfl)
theorem cw_X4_share : Cond.code yX4_share cX4_share 2 none ∈ WS := (ws_mem 897 (by decide +kernel) rfl)
theorem cw_X4_solve : Cond.code yX4_solve cX4_solve 3 (some .int) ∈ WS := (ws_mem 901 (by decide +kernel) rfl)
theorem cw_X4_search : Cond.code yX4_search cX4_search 4 (some .boolean) ∈ WS := (ws_mem 905 (by decide +kernel) rfl)
theorem cw_X4_enter : Cond.code yX4_enter cX4_enter 3 none ∈ WS := (ws_mem 909 (by decide +kernel) rfl)
theorem cw_X4_end : Cond.code yX4_end cX4_end 7 none ∈ WS := (ws_mem 913 (by decide +kernel) rfl)
theorem cw_X4_look : Cond.code yX4_look cX4_look 3 none ∈ WS := (ws_mem 917 (by decide +kernel) rfl)
theorem cw_X4_volumeNow : Cond.code yX4_volumeNow cX4_volumeNow 3 (some .int) ∈ WS := (ws_mem 921 (by decide +kernel) rfl)
theorem cw_X4_volume : Cond.code yX4_volume cX4_volume 2 (some .int) ∈ WS := (ws_mem 925 (by decide +kernel) rfl)
theorem cw_X4_advance : Cond.code yX4_advance cX4_advance 2 (some .boolean) ∈ WS := (ws_mem 929 (by decide +kernel) rfl)
theorem cw_X4_stand : Cond.code yX4_stand cX4_stand 6 none ∈ WS := (ws_mem 933 (by decide +kernel) rfl)
theorem cw_X4_isPlan : Cond.code yX4_isPlan cX4_isPlan 3 (some .boolean) ∈ WS := (ws_mem 937 (by decide +kernel) rfl)
theorem cw_X4_supportOf : Cond.code yX4_supportOf cX4_supportOf 4 (some .int) ∈ WS := (ws_mem 941 (by decide +kernel) rfl)
theorem cw_X4_standsOn : Cond.code yX4_standsOn cX4_standsOn 3 (some .boolean) ∈ WS := (ws_mem 945 (by decide +kernel) rfl)
theorem cw_X4_area : Cond.code yX4_area cX4_area 3 (some .int) ∈ WS := (ws_mem 949 (by decide +kernel) rfl)
theorem cw_X4_common : Cond.code yX4_common cX4_common 6 (some .int) ∈ WS := (ws_mem 952 (by decide +kernel) rfl)
theorem cw_X4_borne : Cond.code yX4_borne cX4_borne 6 (some .int) ∈ WS := (ws_mem 956 (by decide +kernel) rfl)
theorem cw_X4_exact : Cond.code yX4_exact cX4_exact 1 (some .boolean) ∈ WS := (ws_mem 960 (by decide +kernel) rfl)
theorem cw_X4_steps : Cond.code yX4_steps cX4_steps 1 (some .int) ∈ WS := (ws_mem 964 (by decide +kernel) rfl)
theorem cw_X4_bound : Cond.code yX4_bound cX4_bound 3 (some .int) ∈ WS := (ws_mem 968 (by decide +kernel) rfl)
theorem cw_X4_goesIn : Cond.code yX4_goesIn cX4_goesIn 3 (some .boolean) ∈ WS := (ws_mem 972 (by decide +kernel) rfl)
theorem cw_X4_at : Cond.code yX4_at cX4_at 3 (some .int) ∈ WS := (ws_mem 976 (by decide +kernel) rfl)
theorem cw_X4_over : Cond.code yX4_over cX4_over 3 (some .boolean) ∈ WS := (ws_mem 980 (by decide +kernel) rfl)
theorem cw_X4_support : Cond.code yX4_support cX4_support 2 (some .int) ∈ WS := (ws_mem 984 (by decide +kernel) rfl)
theorem cw_X4_bears : Cond.code yX4_bears cX4_bears 2 (some .int) ∈ WS := (ws_mem 988 (by decide +kernel) rfl)
theorem cw_X4_cell : Cond.code yX4_cell cX4_cell 5 (some .int) ∈ WS := (ws_mem 992 (by decide +kernel) rfl)
theorem cw_X4_close : Cond.code yX4_close cX4_close 3 (some .int) ∈ WS := (ws_mem 996 (by decide +kernel) rfl)
theorem cw_X4_box : Cond.code yX4_box cX4_box 2 (some .int) ∈ WS := (ws_mem 1000 (by decide +kernel) rfl)
theorem cw_X4_count : Cond.code yX4_count cX4_count 7 (some .int) ∈ WS := (ws_mem 1004 (by decide +kernel) rfl)
theorem ko_X3_7 : KO RX3 7 yX3_asSide cX3_asSide 1 (some .int) 1 := ⟨all4 (ws_mem 59 (by decide +kernel) rfl) (ws_mem 60 (by decide +kernel) rfl) (ws_mem 34 (by decide +kernel) rfl) cw_X3_asSide, by decide +kernel⟩
theorem ko_X3_36 : KO RX3 36 yX3_isSide cX3_isSide 1 (some .boolean) 1 := ⟨all4 (ws_mem 316 (by decide +kernel) rfl) (ws_mem 317 (by decide +kernel) rfl) (ws_mem 34 (by decide +kernel) rfl) cw_X3_isSide, by decide +kernel⟩
theorem kv_X3_58 : KV RX3 58 yX0_become RX0 cX0_become 5 none 4 := ⟨all5 (ws_mem 407 (by decide +kernel) rfl) (ws_mem 408 (by decide +kernel) rfl) (ws_mem 409 (by decide +kernel) rfl) (ws_mem 36 (by decide +kernel) rfl) cw_X0_become, by decide +kernel⟩
theorem kv_X3_62 : KV RX3 62 yX3_known RX3 cX3_known 2 (some (.object "PackingSearch$Piece")) 1 := ⟨all5 (ws_mem 419 (by decide +kernel) rfl) (ws_mem 421 (by decide +kernel) rfl) (ws_mem 3 (by decide +kernel) rfl) (ws_mem 34 (by decide +kernel) rfl) cw_X3_known, by decide +kernel⟩
theorem kv_X3_68 : KV RX3 68 yX0_mark RX0 cX0_mark 4 none 1 := ⟨all5 (ws_mem 440 (by decide +kernel) rfl) (ws_mem 441 (by decide +kernel) rfl) (ws_mem 442 (by decide +kernel) rfl) (ws_mem 36 (by decide +kernel) rfl) cw_X0_mark, by decide +kernel⟩
theorem kv_X3_72 : KV RX3 72 yX0_wayCount RX0 cX0_wayCount 1 (some .int) 0 := ⟨all5 (ws_mem 455 (by decide +kernel) rfl) (ws_mem 456 (by decide +kernel) rfl) (ws_mem 457 (by decide +kernel) rfl) (ws_mem 36 (by decide +kernel) rfl) cw_X0_wayCount, by decide +kernel⟩
theorem kv_X3_86 : KV RX3 86 yX0_isPacked RX0 cX0_isPacked 1 (some .boolean) 0 := ⟨all5 (ws_mem 228 (by decide +kernel) rfl) (ws_mem 229 (by decide +kernel) rfl) (ws_mem 230 (by decide +kernel) rfl) (ws_mem 36 (by decide +kernel) rfl) cw_X0_isPacked, by decide +kernel⟩
theorem kv_X3_90 : KV RX3 90 yX3_positionOf RX3 cX3_positionOf 6 (some .int) 2 := ⟨all5 (ws_mem 481 (by decide +kernel) rfl) (ws_mem 483 (by decide +kernel) rfl) (ws_mem 5 (by decide +kernel) rfl) (ws_mem 34 (by decide +kernel) rfl) cw_X3_positionOf, by decide +kernel⟩
theorem kv_X3_101 : KV RX3 101 yX3_startSearch RX3 cX3_startSearch 2 none 1 := ⟨all5 (ws_mem 501 (by decide +kernel) rfl) (ws_mem 503 (by decide +kernel) rfl) (ws_mem 6 (by decide +kernel) rfl) (ws_mem 34 (by decide +kernel) rfl) cw_X3_startSearch, by decide +kernel⟩
theorem kv_X3_104 : KV RX3 104 yX3_searchFrom RX3 cX3_searchFrom 4 none 1 := ⟨all5 (ws_mem 517 (by decide +kernel) rfl) (ws_mem 519 (by decide +kernel) rfl) (ws_mem 8 (by decide +kernel) rfl) (ws_mem 34 (by decide +kernel) rfl) cw_X3_searchFrom, by decide +kernel⟩
theorem kv_X3_114 : KV RX3 114 yX1_volume RX1 cX1_volume 3 (some .int) 0 := ⟨all5 (ws_mem 279 (by decide +kernel) rfl) (ws_mem 280 (by decide +kernel) rfl) (ws_mem 281 (by decide +kernel) rfl) (ws_mem 37 (by decide +kernel) rfl) cw_X1_volume, by decide +kernel⟩
theorem kv_X3_120 : KV RX3 120 yX3_fitsAlone RX3 cX3_fitsAlone 3 (some .boolean) 1 := ⟨all5 (ws_mem 232 (by decide +kernel) rfl) (ws_mem 234 (by decide +kernel) rfl) (ws_mem 0 (by decide +kernel) rfl) (ws_mem 34 (by decide +kernel) rfl) cw_X3_fitsAlone, by decide +kernel⟩
theorem kv_X3_124 : KV RX3 124 yX0_volume RX0 cX0_volume 1 (some .int) 0 := ⟨all5 (ws_mem 259 (by decide +kernel) rfl) (ws_mem 260 (by decide +kernel) rfl) (ws_mem 261 (by decide +kernel) rfl) (ws_mem 36 (by decide +kernel) rfl) cw_X0_volume, by decide +kernel⟩
theorem kv_X3_125 : KV RX3 125 yX1_boxVolume RX1 cX1_boxVolume 1 (some .int) 0 := ⟨all5 (ws_mem 263 (by decide +kernel) rfl) (ws_mem 264 (by decide +kernel) rfl) (ws_mem 265 (by decide +kernel) rfl) (ws_mem 37 (by decide +kernel) rfl) cw_X1_boxVolume, by decide +kernel⟩
theorem ko_X3_128 : KO RX3 128 yJ9_min_7cf53 cJ9_min_7cf53 2 (some .int) 2 := ⟨all4 (ws_mem 62 (by decide +kernel) rfl) (ws_mem 63 (by decide +kernel) rfl) (ws_mem 35 (by decide +kernel) rfl) cw_J9_min_7cf53, by decide +kernel⟩
theorem kv_X3_134 : KV RX3 134 yX3_spotOf RX3 cX3_spotOf 2 (some (.object "PackingSearch$Spot")) 1 := ⟨all5 (ws_mem 602 (by decide +kernel) rfl) (ws_mem 604 (by decide +kernel) rfl) (ws_mem 13 (by decide +kernel) rfl) (ws_mem 34 (by decide +kernel) rfl) cw_X3_spotOf, by decide +kernel⟩
theorem kv_X3_145 : KV RX3 145 yX2_detail RX2 cX2_detail 2 (some .int) 1 := ⟨all5 (ws_mem 607 (by decide +kernel) rfl) (ws_mem 608 (by decide +kernel) rfl) (ws_mem 609 (by decide +kernel) rfl) (ws_mem 38 (by decide +kernel) rfl) cw_X2_detail, by decide +kernel⟩
theorem kv_X3_153 : KV RX3 153 yX2_meetsFromAbove RX2 cX2_meetsFromAbove 2 (some .boolean) 1 := ⟨all5 (ws_mem 635 (by decide +kernel) rfl) (ws_mem 563 (by decide +kernel) rfl) (ws_mem 564 (by decide +kernel) rfl) (ws_mem 38 (by decide +kernel) rfl) cw_X2_meetsFromAbove, by decide +kernel⟩
theorem kv_X3_157 : KV RX3 157 yX2_area RX2 cX2_area 1 (some .int) 0 := ⟨all5 (ws_mem 644 (by decide +kernel) rfl) (ws_mem 288 (by decide +kernel) rfl) (ws_mem 289 (by decide +kernel) rfl) (ws_mem 38 (by decide +kernel) rfl) cw_X2_area, by decide +kernel⟩
theorem kv_X3_165 : KV RX3 165 yX1_supportOf RX1 cX1_supportOf 4 (some .int) 1 := ⟨all5 (ws_mem 661 (by decide +kernel) rfl) (ws_mem 567 (by decide +kernel) rfl) (ws_mem 568 (by decide +kernel) rfl) (ws_mem 37 (by decide +kernel) rfl) cw_X1_supportOf, by decide +kernel⟩
theorem kv_X3_169 : KV RX3 169 yX1_noteStanders RX1 cX1_noteStanders 3 none 0 := ⟨all5 (ws_mem 669 (by decide +kernel) rfl) (ws_mem 586 (by decide +kernel) rfl) (ws_mem 587 (by decide +kernel) rfl) (ws_mem 37 (by decide +kernel) rfl) cw_X1_noteStanders, by decide +kernel⟩
theorem kv_X3_172 : KV RX3 172 yX1_weightOn RX1 cX1_weightOn 6 (some .int) 1 := ⟨all5 (ws_mem 670 (by decide +kernel) rfl) (ws_mem 590 (by decide +kernel) rfl) (ws_mem 591 (by decide +kernel) rfl) (ws_mem 37 (by decide +kernel) rfl) cw_X1_weightOn, by decide +kernel⟩
theorem kv_X3_175 : KV RX3 175 yX1_hasCell RX1 cX1_hasCell 4 (some .boolean) 3 := ⟨all5 (ws_mem 679 (by decide +kernel) rfl) (ws_mem 680 (by decide +kernel) rfl) (ws_mem 681 (by decide +kernel) rfl) (ws_mem 37 (by decide +kernel) rfl) cw_X1_hasCell, by decide +kernel⟩
theorem kv_X3_184 : KV RX3 184 yX1_pieceIn RX1 cX1_pieceIn 5 (some .int) 3 := ⟨all5 (ws_mem 704 (by decide +kernel) rfl) (ws_mem 705 (by decide +kernel) rfl) (ws_mem 706 (by decide +kernel) rfl) (ws_mem 37 (by decide +kernel) rfl) cw_X1_pieceIn, by decide +kernel⟩
theorem kv_X3_188 : KV RX3 188 yX1_size RX1 cX1_size 3 (some .int) 0 := ⟨all5 (ws_mem 271 (by decide +kernel) rfl) (ws_mem 272 (by decide +kernel) rfl) (ws_mem 273 (by decide +kernel) rfl) (ws_mem 37 (by decide +kernel) rfl) cw_X1_size, by decide +kernel⟩
theorem kv_X3_203 : KV RX3 203 yX1_clear RX1 cX1_clear 2 none 0 := ⟨all5 (ws_mem 505 (by decide +kernel) rfl) (ws_mem 506 (by decide +kernel) rfl) (ws_mem 507 (by decide +kernel) rfl) (ws_mem 37 (by decide +kernel) rfl) cw_X1_clear, by decide +kernel⟩
theorem kv_X3_206 : KV RX3 206 yX3_unpackedCount RX3 cX3_unpackedCount 3 (some .int) 0 := ⟨all5 (ws_mem 275 (by decide +kernel) rfl) (ws_mem 277 (by decide +kernel) rfl) (ws_mem 1 (by decide +kernel) rfl) (ws_mem 34 (by decide +kernel) rfl) cw_X3_unpackedCount, by decide +kernel⟩
theorem kv_X3_209 : KV RX3 209 yX1_weight RX1 cX1_weight 3 (some .int) 0 := ⟨all5 (ws_mem 291 (by decide +kernel) rfl) (ws_mem 292 (by decide +kernel) rfl) (ws_mem 293 (by decide +kernel) rfl) (ws_mem 37 (by decide +kernel) rfl) cw_X1_weight, by decide +kernel⟩
theorem kv_X3_212 : KV RX3 212 yX1_top RX1 cX1_top 3 (some .int) 0 := ⟨all5 (ws_mem 295 (by decide +kernel) rfl) (ws_mem 296 (by decide +kernel) rfl) (ws_mem 297 (by decide +kernel) rfl) (ws_mem 37 (by decide +kernel) rfl) cw_X1_top, by decide +kernel⟩
theorem ko_X3_215 : KO RX3 215 yJ9_max_7cf53 cJ9_max_7cf53 2 (some .int) 2 := ⟨all4 (ws_mem 65 (by decide +kernel) rfl) (ws_mem 66 (by decide +kernel) rfl) (ws_mem 35 (by decide +kernel) rfl) cw_J9_max_7cf53, by decide +kernel⟩
theorem kv_X3_223 : KV RX3 223 yX0_lets RX0 cX0_lets 2 (some .boolean) 1 := ⟨all5 (ws_mem 236 (by decide +kernel) rfl) (ws_mem 237 (by decide +kernel) rfl) (ws_mem 238 (by decide +kernel) rfl) (ws_mem 36 (by decide +kernel) rfl) cw_X0_lets, by decide +kernel⟩
theorem kv_X3_226 : KV RX3 226 yX0_widthIn RX0 cX0_widthIn 2 (some .int) 1 := ⟨all5 (ws_mem 243 (by decide +kernel) rfl) (ws_mem 244 (by decide +kernel) rfl) (ws_mem 245 (by decide +kernel) rfl) (ws_mem 36 (by decide +kernel) rfl) cw_X0_widthIn, by decide +kernel⟩
theorem kv_X3_229 : KV RX3 229 yX0_depthIn RX0 cX0_depthIn 2 (some .int) 1 := ⟨all5 (ws_mem 247 (by decide +kernel) rfl) (ws_mem 248 (by decide +kernel) rfl) (ws_mem 249 (by decide +kernel) rfl) (ws_mem 36 (by decide +kernel) rfl) cw_X0_depthIn, by decide +kernel⟩
theorem kv_X3_232 : KV RX3 232 yX0_heightIn RX0 cX0_heightIn 2 (some .int) 1 := ⟨all5 (ws_mem 251 (by decide +kernel) rfl) (ws_mem 252 (by decide +kernel) rfl) (ws_mem 253 (by decide +kernel) rfl) (ws_mem 36 (by decide +kernel) rfl) cw_X0_heightIn, by decide +kernel⟩
theorem kv_X3_235 : KV RX3 235 yX1_takes RX1 cX1_takes 4 (some .boolean) 3 := ⟨all5 (ws_mem 255 (by decide +kernel) rfl) (ws_mem 256 (by decide +kernel) rfl) (ws_mem 257 (by decide +kernel) rfl) (ws_mem 37 (by decide +kernel) rfl) cw_X1_takes, by decide +kernel⟩
theorem kv_X3_244 : KV RX3 244 yX3_putInOrder RX3 cX3_putInOrder 3 none 0 := ⟨all5 (ws_mem 513 (by decide +kernel) rfl) (ws_mem 515 (by decide +kernel) rfl) (ws_mem 7 (by decide +kernel) rfl) (ws_mem 34 (by decide +kernel) rfl) cw_X3_putInOrder, by decide +kernel⟩
theorem kv_X3_250 : KV RX3 250 yX3_lookAtTrial RX3 cX3_lookAtTrial 2 none 0 := ⟨all5 (ws_mem 521 (by decide +kernel) rfl) (ws_mem 523 (by decide +kernel) rfl) (ws_mem 9 (by decide +kernel) rfl) (ws_mem 34 (by decide +kernel) rfl) cw_X3_lookAtTrial, by decide +kernel⟩
theorem kv_X3_253 : KV RX3 253 yX3_tryWay RX3 cX3_tryWay 11 none 4 := ⟨all5 (ws_mem 533 (by decide +kernel) rfl) (ws_mem 535 (by decide +kernel) rfl) (ws_mem 10 (by decide +kernel) rfl) (ws_mem 34 (by decide +kernel) rfl) cw_X3_tryWay, by decide +kernel⟩
theorem kv_X3_257 : KV RX3 257 yX1_ends RX1 cX1_ends 4 (some .int) 1 := ⟨all5 (ws_mem 537 (by decide +kernel) rfl) (ws_mem 538 (by decide +kernel) rfl) (ws_mem 539 (by decide +kernel) rfl) (ws_mem 37 (by decide +kernel) rfl) cw_X1_ends, by decide +kernel⟩
theorem ko_X3_260 : KO RX3 260 yX3_isIn cX3_isIn 2 (some .boolean) 2 := ⟨all4 (ws_mem 541 (by decide +kernel) rfl) (ws_mem 241 (by decide +kernel) rfl) (ws_mem 34 (by decide +kernel) rfl) cw_X3_isIn, by decide +kernel⟩
theorem kv_X3_264 : KV RX3 264 yX2_stand RX2 cX2_stand 6 none 5 := ⟨all5 (ws_mem 542 (by decide +kernel) rfl) (ws_mem 543 (by decide +kernel) rfl) (ws_mem 544 (by decide +kernel) rfl) (ws_mem 38 (by decide +kernel) rfl) cw_X2_stand, by decide +kernel⟩
theorem kv_X3_268 : KV RX3 268 yX1_isPlanWith RX1 cX1_isPlanWith 3 (some .boolean) 2 := ⟨all5 (ws_mem 549 (by decide +kernel) rfl) (ws_mem 550 (by decide +kernel) rfl) (ws_mem 551 (by decide +kernel) rfl) (ws_mem 37 (by decide +kernel) rfl) cw_X1_isPlanWith, by decide +kernel⟩
theorem kv_X3_272 : KV RX3 272 yX2_leave RX2 cX2_leave 1 none 0 := ⟨all5 (ws_mem 594 (by decide +kernel) rfl) (ws_mem 510 (by decide +kernel) rfl) (ws_mem 511 (by decide +kernel) rfl) (ws_mem 38 (by decide +kernel) rfl) cw_X2_leave, by decide +kernel⟩
theorem kv_X3_275 : KV RX3 275 yX1_copyFrom RX1 cX1_copyFrom 3 none 1 := ⟨all5 (ws_mem 525 (by decide +kernel) rfl) (ws_mem 526 (by decide +kernel) rfl) (ws_mem 527 (by decide +kernel) rfl) (ws_mem 37 (by decide +kernel) rfl) cw_X1_copyFrom, by decide +kernel⟩
theorem ko_X0_37 : KO RX0 37 yJ6_bitCount_0f7a4 cJ6_bitCount_0f7a4 1 (some .int) 1 := ⟨all4 (ws_mem 459 (by decide +kernel) rfl) (ws_mem 460 (by decide +kernel) rfl) (ws_mem 46 (by decide +kernel) rfl) cw_J6_bitCount_0f7a4, by decide +kernel⟩
theorem ko_X0_43 : KO RX0 43 yX0_marksFor cX0_marksFor 1 (some .int) 1 := ⟨all4 (ws_mem 444 (by decide +kernel) rfl) (ws_mem 445 (by decide +kernel) rfl) (ws_mem 36 (by decide +kernel) rfl) cw_X0_marksFor, by decide +kernel⟩
theorem kv_X0_46 : KV RX0 46 yX0_isLikeOneLet RX0 cX0_isLikeOneLet 3 (some .boolean) 1 := ⟨all5 (ws_mem 447 (by decide +kernel) rfl) (ws_mem 449 (by decide +kernel) rfl) (ws_mem 4 (by decide +kernel) rfl) (ws_mem 36 (by decide +kernel) rfl) cw_X0_isLikeOneLet, by decide +kernel⟩
theorem kv_X0_50 : KV RX0 50 yX0_lets RX0 cX0_lets 2 (some .boolean) 1 := ⟨all5 (ws_mem 451 (by decide +kernel) rfl) (ws_mem 237 (by decide +kernel) rfl) (ws_mem 238 (by decide +kernel) rfl) (ws_mem 36 (by decide +kernel) rfl) cw_X0_lets, by decide +kernel⟩
theorem kv_X0_53 : KV RX0 53 yX0_widthIn RX0 cX0_widthIn 2 (some .int) 1 := ⟨all5 (ws_mem 452 (by decide +kernel) rfl) (ws_mem 244 (by decide +kernel) rfl) (ws_mem 245 (by decide +kernel) rfl) (ws_mem 36 (by decide +kernel) rfl) cw_X0_widthIn, by decide +kernel⟩
theorem kv_X0_56 : KV RX0 56 yX0_depthIn RX0 cX0_depthIn 2 (some .int) 1 := ⟨all5 (ws_mem 453 (by decide +kernel) rfl) (ws_mem 248 (by decide +kernel) rfl) (ws_mem 249 (by decide +kernel) rfl) (ws_mem 36 (by decide +kernel) rfl) cw_X0_depthIn, by decide +kernel⟩
theorem kv_X0_59 : KV RX0 59 yX0_heightIn RX0 cX0_heightIn 2 (some .int) 1 := ⟨all5 (ws_mem 454 (by decide +kernel) rfl) (ws_mem 252 (by decide +kernel) rfl) (ws_mem 253 (by decide +kernel) rfl) (ws_mem 36 (by decide +kernel) rfl) cw_X0_heightIn, by decide +kernel⟩
theorem kv_X1_28 : KV RX1 28 yX2_leave RX2 cX2_leave 1 none 0 := ⟨all5 (ws_mem 509 (by decide +kernel) rfl) (ws_mem 510 (by decide +kernel) rfl) (ws_mem 511 (by decide +kernel) rfl) (ws_mem 38 (by decide +kernel) rfl) cw_X2_leave, by decide +kernel⟩
theorem kv_X1_31 : KV RX1 31 yX2_copyFrom RX2 cX2_copyFrom 2 none 1 := ⟨all5 (ws_mem 529 (by decide +kernel) rfl) (ws_mem 530 (by decide +kernel) rfl) (ws_mem 531 (by decide +kernel) rfl) (ws_mem 38 (by decide +kernel) rfl) cw_X2_copyFrom, by decide +kernel⟩
theorem kv_X1_39 : KV RX1 39 yX2_covers RX2 cX2_covers 4 (some .boolean) 3 := ⟨all5 (ws_mem 708 (by decide +kernel) rfl) (ws_mem 709 (by decide +kernel) rfl) (ws_mem 710 (by decide +kernel) rfl) (ws_mem 38 (by decide +kernel) rfl) cw_X2_covers, by decide +kernel⟩
theorem kv_X1_43 : KV RX1 43 yX2_volume RX2 cX2_volume 1 (some .int) 0 := ⟨all5 (ws_mem 283 (by decide +kernel) rfl) (ws_mem 284 (by decide +kernel) rfl) (ws_mem 285 (by decide +kernel) rfl) (ws_mem 38 (by decide +kernel) rfl) cw_X2_volume, by decide +kernel⟩
theorem kv_X1_50 : KV RX1 50 yX2_endAlong RX2 cX2_endAlong 2 (some .int) 1 := ⟨all5 (ws_mem 299 (by decide +kernel) rfl) (ws_mem 300 (by decide +kernel) rfl) (ws_mem 301 (by decide +kernel) rfl) (ws_mem 38 (by decide +kernel) rfl) cw_X2_endAlong, by decide +kernel⟩
theorem ko_X1_54 : KO RX1 54 yJ9_max_7cf53 cJ9_max_7cf53 2 (some .int) 2 := ⟨all4 (ws_mem 303 (by decide +kernel) rfl) (ws_mem 66 (by decide +kernel) rfl) (ws_mem 35 (by decide +kernel) rfl) cw_J9_max_7cf53, by decide +kernel⟩
theorem kv_X1_78 : KV RX1 78 yX1_takes RX1 cX1_takes 4 (some .boolean) 3 := ⟨all5 (ws_mem 553 (by decide +kernel) rfl) (ws_mem 256 (by decide +kernel) rfl) (ws_mem 257 (by decide +kernel) rfl) (ws_mem 37 (by decide +kernel) rfl) cw_X1_takes, by decide +kernel⟩
theorem kv_X1_81 : KV RX1 81 yX1_hasRoomFor RX1 cX1_hasRoomFor 3 (some .boolean) 1 := ⟨all5 (ws_mem 554 (by decide +kernel) rfl) (ws_mem 556 (by decide +kernel) rfl) (ws_mem 11 (by decide +kernel) rfl) (ws_mem 37 (by decide +kernel) rfl) cw_X1_hasRoomFor, by decide +kernel⟩
theorem kv_X1_85 : KV RX1 85 yX1_supportOf RX1 cX1_supportOf 4 (some .int) 1 := ⟨all5 (ws_mem 566 (by decide +kernel) rfl) (ws_mem 567 (by decide +kernel) rfl) (ws_mem 568 (by decide +kernel) rfl) (ws_mem 37 (by decide +kernel) rfl) cw_X1_supportOf, by decide +kernel⟩
theorem kv_X1_89 : KV RX1 89 yX2_area RX2 cX2_area 1 (some .int) 0 := ⟨all5 (ws_mem 570 (by decide +kernel) rfl) (ws_mem 288 (by decide +kernel) rfl) (ws_mem 289 (by decide +kernel) rfl) (ws_mem 38 (by decide +kernel) rfl) cw_X2_area, by decide +kernel⟩
theorem kv_X1_92 : KV RX1 92 yX1_weightsAreBorne RX1 cX1_weightsAreBorne 2 (some .boolean) 0 := ⟨all5 (ws_mem 581 (by decide +kernel) rfl) (ws_mem 583 (by decide +kernel) rfl) (ws_mem 12 (by decide +kernel) rfl) (ws_mem 37 (by decide +kernel) rfl) cw_X1_weightsAreBorne, by decide +kernel⟩
theorem kv_X1_96 : KV RX1 96 yX2_meets RX2 cX2_meets 2 (some .boolean) 1 := ⟨all5 (ws_mem 558 (by decide +kernel) rfl) (ws_mem 559 (by decide +kernel) rfl) (ws_mem 560 (by decide +kernel) rfl) (ws_mem 38 (by decide +kernel) rfl) cw_X2_meets, by decide +kernel⟩
theorem kv_X1_99 : KV RX1 99 yX2_standsOn RX2 cX2_standsOn 2 (some .boolean) 1 := ⟨all5 (ws_mem 571 (by decide +kernel) rfl) (ws_mem 572 (by decide +kernel) rfl) (ws_mem 573 (by decide +kernel) rfl) (ws_mem 38 (by decide +kernel) rfl) cw_X2_standsOn, by decide +kernel⟩
theorem kv_X1_102 : KV RX1 102 yX2_commonArea RX2 cX2_commonArea 4 (some .int) 1 := ⟨all5 (ws_mem 575 (by decide +kernel) rfl) (ws_mem 576 (by decide +kernel) rfl) (ws_mem 577 (by decide +kernel) rfl) (ws_mem 38 (by decide +kernel) rfl) cw_X2_commonArea, by decide +kernel⟩
theorem kv_X1_105 : KV RX1 105 yX1_noteStanders RX1 cX1_noteStanders 3 none 0 := ⟨all5 (ws_mem 585 (by decide +kernel) rfl) (ws_mem 586 (by decide +kernel) rfl) (ws_mem 587 (by decide +kernel) rfl) (ws_mem 37 (by decide +kernel) rfl) cw_X1_noteStanders, by decide +kernel⟩
theorem kv_X1_111 : KV RX1 111 yX1_weightOn RX1 cX1_weightOn 6 (some .int) 1 := ⟨all5 (ws_mem 589 (by decide +kernel) rfl) (ws_mem 590 (by decide +kernel) rfl) (ws_mem 591 (by decide +kernel) rfl) (ws_mem 37 (by decide +kernel) rfl) cw_X1_weightOn, by decide +kernel⟩
theorem kv_X2_25 : KV RX2 25 yX0_widthIn RX0 cX0_widthIn 2 (some .int) 1 := ⟨all5 (ws_mem 546 (by decide +kernel) rfl) (ws_mem 244 (by decide +kernel) rfl) (ws_mem 245 (by decide +kernel) rfl) (ws_mem 36 (by decide +kernel) rfl) cw_X0_widthIn, by decide +kernel⟩
theorem kv_X2_34 : KV RX2 34 yX0_depthIn RX0 cX0_depthIn 2 (some .int) 1 := ⟨all5 (ws_mem 547 (by decide +kernel) rfl) (ws_mem 248 (by decide +kernel) rfl) (ws_mem 249 (by decide +kernel) rfl) (ws_mem 36 (by decide +kernel) rfl) cw_X0_depthIn, by decide +kernel⟩
theorem kv_X2_40 : KV RX2 40 yX0_heightIn RX0 cX0_heightIn 2 (some .int) 1 := ⟨all5 (ws_mem 548 (by decide +kernel) rfl) (ws_mem 252 (by decide +kernel) rfl) (ws_mem 253 (by decide +kernel) rfl) (ws_mem 36 (by decide +kernel) rfl) cw_X0_heightIn, by decide +kernel⟩
theorem kv_X2_57 : KV RX2 57 yX2_area RX2 cX2_area 1 (some .int) 0 := ⟨all5 (ws_mem 287 (by decide +kernel) rfl) (ws_mem 288 (by decide +kernel) rfl) (ws_mem 289 (by decide +kernel) rfl) (ws_mem 38 (by decide +kernel) rfl) cw_X2_area, by decide +kernel⟩
theorem kv_X2_61 : KV RX2 61 yX2_meetsFromAbove RX2 cX2_meetsFromAbove 2 (some .boolean) 1 := ⟨all5 (ws_mem 562 (by decide +kernel) rfl) (ws_mem 563 (by decide +kernel) rfl) (ws_mem 564 (by decide +kernel) rfl) (ws_mem 38 (by decide +kernel) rfl) cw_X2_meetsFromAbove, by decide +kernel⟩
theorem ko_X2_65 : KO RX2 65 yJ9_min_7cf53 cJ9_min_7cf53 2 (some .int) 2 := ⟨all4 (ws_mem 579 (by decide +kernel) rfl) (ws_mem 63 (by decide +kernel) rfl) (ws_mem 35 (by decide +kernel) rfl) cw_J9_min_7cf53, by decide +kernel⟩
theorem ko_X2_71 : KO RX2 71 yJ9_max_7cf53 cJ9_max_7cf53 2 (some .int) 2 := ⟨all4 (ws_mem 580 (by decide +kernel) rfl) (ws_mem 66 (by decide +kernel) rfl) (ws_mem 35 (by decide +kernel) rfl) cw_J9_max_7cf53, by decide +kernel⟩
theorem kv_L_7 : KV RL 7 yX3_piece RX3 cX3_piece 6 (some .int) 4 := ⟨all5 (ws_mem 312 (by decide +kernel) rfl) (ws_mem 313 (by decide +kernel) rfl) (ws_mem 314 (by decide +kernel) rfl) (ws_mem 34 (by decide +kernel) rfl) cw_X3_piece, by decide +kernel⟩
theorem kv_L_17 : KV RL 17 yX3_turn RX3 cX3_turn 4 (some .int) 2 := ⟨all5 (ws_mem 415 (by decide +kernel) rfl) (ws_mem 416 (by decide +kernel) rfl) (ws_mem 417 (by decide +kernel) rfl) (ws_mem 34 (by decide +kernel) rfl) cw_X3_turn, by decide +kernel⟩
theorem kv_L_23 : KV RL 23 yX3_limit RX3 cX3_limit 4 none 2 := ⟨all5 (ws_mem 468 (by decide +kernel) rfl) (ws_mem 469 (by decide +kernel) rfl) (ws_mem 470 (by decide +kernel) rfl) (ws_mem 34 (by decide +kernel) rfl) cw_X3_limit, by decide +kernel⟩
theorem kv_L_27 : KV RL 27 yX3_rank RX3 cX3_rank 4 (some .int) 2 := ⟨all5 (ws_mem 476 (by decide +kernel) rfl) (ws_mem 477 (by decide +kernel) rfl) (ws_mem 478 (by decide +kernel) rfl) (ws_mem 34 (by decide +kernel) rfl) cw_X3_rank, by decide +kernel⟩
theorem kv_L_30 : KV RL 30 yX3_share RX3 cX3_share 2 none 1 := ⟨all5 (ws_mem 488 (by decide +kernel) rfl) (ws_mem 489 (by decide +kernel) rfl) (ws_mem 490 (by decide +kernel) rfl) (ws_mem 34 (by decide +kernel) rfl) cw_X3_share, by decide +kernel⟩
theorem kv_L_34 : KV RL 34 yX3_solve RX3 cX3_solve 2 (some .int) 1 := ⟨all5 (ws_mem 496 (by decide +kernel) rfl) (ws_mem 497 (by decide +kernel) rfl) (ws_mem 498 (by decide +kernel) rfl) (ws_mem 34 (by decide +kernel) rfl) cw_X3_solve, by decide +kernel⟩
theorem kv_L_38 : KV RL 38 yX3_at RX3 cX3_at 4 (some .int) 2 := ⟨all5 (ws_mem 598 (by decide +kernel) rfl) (ws_mem 599 (by decide +kernel) rfl) (ws_mem 600 (by decide +kernel) rfl) (ws_mem 34 (by decide +kernel) rfl) cw_X3_at, by decide +kernel⟩
theorem kv_L_41 : KV RL 41 yX3_over RX3 cX3_over 5 (some .boolean) 2 := ⟨all5 (ws_mem 615 (by decide +kernel) rfl) (ws_mem 616 (by decide +kernel) rfl) (ws_mem 617 (by decide +kernel) rfl) (ws_mem 34 (by decide +kernel) rfl) cw_X3_over, by decide +kernel⟩
theorem kv_L_47 : KV RL 47 yX3_support RX3 cX3_support 4 (some .int) 1 := ⟨all5 (ws_mem 640 (by decide +kernel) rfl) (ws_mem 641 (by decide +kernel) rfl) (ws_mem 642 (by decide +kernel) rfl) (ws_mem 34 (by decide +kernel) rfl) cw_X3_support, by decide +kernel⟩
theorem kv_L_52 : KV RL 52 yX3_bears RX3 cX3_bears 3 (some .int) 1 := ⟨all5 (ws_mem 665 (by decide +kernel) rfl) (ws_mem 666 (by decide +kernel) rfl) (ws_mem 667 (by decide +kernel) rfl) (ws_mem 34 (by decide +kernel) rfl) cw_X3_bears, by decide +kernel⟩
theorem kv_L_55 : KV RL 55 yX3_cell RX3 cX3_cell 4 (some .int) 3 := ⟨all5 (ws_mem 675 (by decide +kernel) rfl) (ws_mem 676 (by decide +kernel) rfl) (ws_mem 677 (by decide +kernel) rfl) (ws_mem 34 (by decide +kernel) rfl) cw_X3_cell, by decide +kernel⟩
theorem kv_L_61 : KV RL 61 yX3_close RX3 cX3_close 3 (some .int) 0 := ⟨all5 (ws_mem 715 (by decide +kernel) rfl) (ws_mem 716 (by decide +kernel) rfl) (ws_mem 717 (by decide +kernel) rfl) (ws_mem 34 (by decide +kernel) rfl) cw_X3_close, by decide +kernel⟩
theorem kv_L_65 : KV RL 65 yX3_box RX3 cX3_box 2 (some .int) 1 := ⟨all5 (ws_mem 723 (by decide +kernel) rfl) (ws_mem 724 (by decide +kernel) rfl) (ws_mem 725 (by decide +kernel) rfl) (ws_mem 34 (by decide +kernel) rfl) cw_X3_box, by decide +kernel⟩
theorem ko_L_68 : KO RL 68 yL_cell cL_cell 2 (some .int) 2 := ⟨all4 (ws_mem 304 (by decide +kernel) rfl) (ws_mem 305 (by decide +kernel) rfl) (ws_mem 33 (by decide +kernel) rfl) cw_L_cell, by decide +kernel⟩
theorem kv_L_82 : KV RL 82 yX4_piece RX4 cX4_piece 5 (some .int) 4 := ⟨all5 (ws_mem 852 (by decide +kernel) rfl) (ws_mem 853 (by decide +kernel) rfl) (ws_mem 854 (by decide +kernel) rfl) (ws_mem 39 (by decide +kernel) rfl) cw_X4_piece, by decide +kernel⟩
theorem kv_L_83 : KV RL 83 yX4_thrown RX4 cX4_thrown 1 (some .int) 0 := ⟨all5 (ws_mem 848 (by decide +kernel) rfl) (ws_mem 849 (by decide +kernel) rfl) (ws_mem 850 (by decide +kernel) rfl) (ws_mem 39 (by decide +kernel) rfl) cw_X4_thrown, by decide +kernel⟩
theorem kv_L_89 : KV RL 89 yX4_turn RX4 cX4_turn 5 (some .int) 2 := ⟨all5 (ws_mem 859 (by decide +kernel) rfl) (ws_mem 860 (by decide +kernel) rfl) (ws_mem 861 (by decide +kernel) rfl) (ws_mem 39 (by decide +kernel) rfl) cw_X4_turn, by decide +kernel⟩
theorem kv_L_93 : KV RL 93 yX4_limit RX4 cX4_limit 3 none 2 := ⟨all5 (ws_mem 882 (by decide +kernel) rfl) (ws_mem 883 (by decide +kernel) rfl) (ws_mem 884 (by decide +kernel) rfl) (ws_mem 39 (by decide +kernel) rfl) cw_X4_limit, by decide +kernel⟩
theorem kv_L_96 : KV RL 96 yX4_rank RX4 cX4_rank 4 (some .int) 2 := ⟨all5 (ws_mem 886 (by decide +kernel) rfl) (ws_mem 887 (by decide +kernel) rfl) (ws_mem 888 (by decide +kernel) rfl) (ws_mem 39 (by decide +kernel) rfl) cw_X4_rank, by decide +kernel⟩
theorem kv_L_100 : KV RL 100 yX4_share RX4 cX4_share 2 none 1 := ⟨all5 (ws_mem 894 (by decide +kernel) rfl) (ws_mem 895 (by decide +kernel) rfl) (ws_mem 896 (by decide +kernel) rfl) (ws_mem 39 (by decide +kernel) rfl) cw_X4_share, by decide +kernel⟩
theorem kv_L_104 : KV RL 104 yX4_solve RX4 cX4_solve 3 (some .int) 1 := ⟨all5 (ws_mem 898 (by decide +kernel) rfl) (ws_mem 899 (by decide +kernel) rfl) (ws_mem 900 (by decide +kernel) rfl) (ws_mem 39 (by decide +kernel) rfl) cw_X4_solve, by decide +kernel⟩
theorem kv_L_105 : KV RL 105 yX3_exact RX3 cX3_exact 1 (some .boolean) 0 := ⟨all5 (ws_mem 216 (by decide +kernel) rfl) (ws_mem 217 (by decide +kernel) rfl) (ws_mem 218 (by decide +kernel) rfl) (ws_mem 34 (by decide +kernel) rfl) cw_X3_exact, by decide +kernel⟩
theorem kv_L_109 : KV RL 109 yX4_exact RX4 cX4_exact 1 (some .boolean) 0 := ⟨all5 (ws_mem 957 (by decide +kernel) rfl) (ws_mem 958 (by decide +kernel) rfl) (ws_mem 959 (by decide +kernel) rfl) (ws_mem 39 (by decide +kernel) rfl) cw_X4_exact, by decide +kernel⟩
theorem kv_L_110 : KV RL 110 yX3_steps RX3 cX3_steps 1 (some .int) 0 := ⟨all5 (ws_mem 220 (by decide +kernel) rfl) (ws_mem 221 (by decide +kernel) rfl) (ws_mem 222 (by decide +kernel) rfl) (ws_mem 34 (by decide +kernel) rfl) cw_X3_steps, by decide +kernel⟩
theorem kv_L_113 : KV RL 113 yX4_steps RX4 cX4_steps 1 (some .int) 0 := ⟨all5 (ws_mem 961 (by decide +kernel) rfl) (ws_mem 962 (by decide +kernel) rfl) (ws_mem 963 (by decide +kernel) rfl) (ws_mem 39 (by decide +kernel) rfl) cw_X4_steps, by decide +kernel⟩
theorem kv_L_114 : KV RL 114 yX3_bound RX3 cX3_bound 3 (some .int) 0 := ⟨all5 (ws_mem 224 (by decide +kernel) rfl) (ws_mem 225 (by decide +kernel) rfl) (ws_mem 226 (by decide +kernel) rfl) (ws_mem 34 (by decide +kernel) rfl) cw_X3_bound, by decide +kernel⟩
theorem kv_L_117 : KV RL 117 yX4_bound RX4 cX4_bound 3 (some .int) 0 := ⟨all5 (ws_mem 965 (by decide +kernel) rfl) (ws_mem 966 (by decide +kernel) rfl) (ws_mem 967 (by decide +kernel) rfl) (ws_mem 39 (by decide +kernel) rfl) cw_X4_bound, by decide +kernel⟩
theorem kv_L_120 : KV RL 120 yX4_at RX4 cX4_at 3 (some .int) 2 := ⟨all5 (ws_mem 973 (by decide +kernel) rfl) (ws_mem 974 (by decide +kernel) rfl) (ws_mem 975 (by decide +kernel) rfl) (ws_mem 39 (by decide +kernel) rfl) cw_X4_at, by decide +kernel⟩
theorem kv_L_123 : KV RL 123 yX4_over RX4 cX4_over 3 (some .boolean) 2 := ⟨all5 (ws_mem 977 (by decide +kernel) rfl) (ws_mem 978 (by decide +kernel) rfl) (ws_mem 979 (by decide +kernel) rfl) (ws_mem 39 (by decide +kernel) rfl) cw_X4_over, by decide +kernel⟩
theorem kv_L_126 : KV RL 126 yX4_support RX4 cX4_support 2 (some .int) 1 := ⟨all5 (ws_mem 981 (by decide +kernel) rfl) (ws_mem 982 (by decide +kernel) rfl) (ws_mem 983 (by decide +kernel) rfl) (ws_mem 39 (by decide +kernel) rfl) cw_X4_support, by decide +kernel⟩
theorem kv_L_129 : KV RL 129 yX4_bears RX4 cX4_bears 2 (some .int) 1 := ⟨all5 (ws_mem 985 (by decide +kernel) rfl) (ws_mem 986 (by decide +kernel) rfl) (ws_mem 987 (by decide +kernel) rfl) (ws_mem 39 (by decide +kernel) rfl) cw_X4_bears, by decide +kernel⟩
theorem kv_L_133 : KV RL 133 yX4_cell RX4 cX4_cell 5 (some .int) 3 := ⟨all5 (ws_mem 989 (by decide +kernel) rfl) (ws_mem 990 (by decide +kernel) rfl) (ws_mem 991 (by decide +kernel) rfl) (ws_mem 39 (by decide +kernel) rfl) cw_X4_cell, by decide +kernel⟩
theorem kv_L_137 : KV RL 137 yX4_close RX4 cX4_close 3 (some .int) 0 := ⟨all5 (ws_mem 993 (by decide +kernel) rfl) (ws_mem 994 (by decide +kernel) rfl) (ws_mem 995 (by decide +kernel) rfl) (ws_mem 39 (by decide +kernel) rfl) cw_X4_close, by decide +kernel⟩
theorem kv_L_140 : KV RL 140 yX4_box RX4 cX4_box 2 (some .int) 1 := ⟨all5 (ws_mem 997 (by decide +kernel) rfl) (ws_mem 998 (by decide +kernel) rfl) (ws_mem 999 (by decide +kernel) rfl) (ws_mem 39 (by decide +kernel) rfl) cw_X4_box, by decide +kernel⟩
theorem kv_L_141 : KV RL 141 yX3_count RX3 cX3_count 2 (some .int) 1 := ⟨all5 (ws_mem 267 (by decide +kernel) rfl) (ws_mem 268 (by decide +kernel) rfl) (ws_mem 269 (by decide +kernel) rfl) (ws_mem 34 (by decide +kernel) rfl) cw_X3_count, by decide +kernel⟩
theorem kv_L_144 : KV RL 144 yX4_count RX4 cX4_count 7 (some .int) 1 := ⟨all5 (ws_mem 1001 (by decide +kernel) rfl) (ws_mem 1002 (by decide +kernel) rfl) (ws_mem 1003 (by decide +kernel) rfl) (ws_mem 39 (by decide +kernel) rfl) cw_X4_count, by decide +kernel⟩
theorem ko_X4_114 : KO RX4 114 yX4_held cX4_held 1 (some .int) 1 := ⟨all4 (ws_mem 733 (by decide +kernel) rfl) (ws_mem 734 (by decide +kernel) rfl) (ws_mem 39 (by decide +kernel) rfl) cw_X4_held, by decide +kernel⟩
theorem ko_X4_127 : KO RX4 127 yX4_from cX4_from 2 (some .int) 2 := ⟨all4 (ws_mem 879 (by decide +kernel) rfl) (ws_mem 880 (by decide +kernel) rfl) (ws_mem 39 (by decide +kernel) rfl) cw_X4_from, by decide +kernel⟩
theorem kv_X4_131 : KV RX4 131 yX4_byMarks RX4 cX4_byMarks 3 (some .boolean) 2 := ⟨all5 (ws_mem 871 (by decide +kernel) rfl) (ws_mem 873 (by decide +kernel) rfl) (ws_mem 16 (by decide +kernel) rfl) (ws_mem 39 (by decide +kernel) rfl) cw_X4_byMarks, by decide +kernel⟩
theorem kv_X4_135 : KV RX4 135 yX4_measure RX4 cX4_measure 4 (some .int) 3 := ⟨all5 (ws_mem 875 (by decide +kernel) rfl) (ws_mem 877 (by decide +kernel) rfl) (ws_mem 17 (by decide +kernel) rfl) (ws_mem 39 (by decide +kernel) rfl) cw_X4_measure, by decide +kernel⟩
theorem ko_X4_139 : KO RX4 139 yX4_common cX4_common 6 (some .int) 4 := ⟨all4 (ws_mem 950 (by decide +kernel) rfl) (ws_mem 951 (by decide +kernel) rfl) (ws_mem 39 (by decide +kernel) rfl) cw_X4_common, by decide +kernel⟩
theorem kv_X4_143 : KV RX4 143 yX4_area RX4 cX4_area 3 (some .int) 2 := ⟨all5 (ws_mem 946 (by decide +kernel) rfl) (ws_mem 948 (by decide +kernel) rfl) (ws_mem 30 (by decide +kernel) rfl) (ws_mem 39 (by decide +kernel) rfl) cw_X4_area, by decide +kernel⟩
theorem kv_X4_146 : KV RX4 146 yX4_standsOn RX4 cX4_standsOn 3 (some .boolean) 2 := ⟨all5 (ws_mem 942 (by decide +kernel) rfl) (ws_mem 944 (by decide +kernel) rfl) (ws_mem 29 (by decide +kernel) rfl) (ws_mem 39 (by decide +kernel) rfl) cw_X4_standsOn, by decide +kernel⟩
theorem kv_X4_149 : KV RX4 149 yX4_supportOf RX4 cX4_supportOf 4 (some .int) 1 := ⟨all5 (ws_mem 938 (by decide +kernel) rfl) (ws_mem 940 (by decide +kernel) rfl) (ws_mem 28 (by decide +kernel) rfl) (ws_mem 39 (by decide +kernel) rfl) cw_X4_supportOf, by decide +kernel⟩
theorem kv_X4_152 : KV RX4 152 yX4_borne RX4 cX4_borne 6 (some .int) 1 := ⟨all5 (ws_mem 953 (by decide +kernel) rfl) (ws_mem 955 (by decide +kernel) rfl) (ws_mem 31 (by decide +kernel) rfl) (ws_mem 39 (by decide +kernel) rfl) cw_X4_borne, by decide +kernel⟩
theorem kv_X4_155 : KV RX4 155 yX4_volume RX4 cX4_volume 2 (some .int) 1 := ⟨all5 (ws_mem 922 (by decide +kernel) rfl) (ws_mem 924 (by decide +kernel) rfl) (ws_mem 24 (by decide +kernel) rfl) (ws_mem 39 (by decide +kernel) rfl) cw_X4_volume, by decide +kernel⟩
theorem kv_X4_158 : KV RX4 158 yX4_end RX4 cX4_end 7 none 3 := ⟨all5 (ws_mem 910 (by decide +kernel) rfl) (ws_mem 912 (by decide +kernel) rfl) (ws_mem 21 (by decide +kernel) rfl) (ws_mem 39 (by decide +kernel) rfl) cw_X4_end, by decide +kernel⟩
theorem kv_X4_162 : KV RX4 162 yX4_let RX4 cX4_let 6 (some .boolean) 2 := ⟨all5 (ws_mem 867 (by decide +kernel) rfl) (ws_mem 869 (by decide +kernel) rfl) (ws_mem 15 (by decide +kernel) rfl) (ws_mem 39 (by decide +kernel) rfl) cw_X4_let, by decide +kernel⟩
theorem kv_X4_165 : KV RX4 165 yX4_volumeNow RX4 cX4_volumeNow 3 (some .int) 0 := ⟨all5 (ws_mem 918 (by decide +kernel) rfl) (ws_mem 920 (by decide +kernel) rfl) (ws_mem 23 (by decide +kernel) rfl) (ws_mem 39 (by decide +kernel) rfl) cw_X4_volumeNow, by decide +kernel⟩
theorem kv_X4_169 : KV RX4 169 yX4_enter RX4 cX4_enter 3 none 1 := ⟨all5 (ws_mem 906 (by decide +kernel) rfl) (ws_mem 908 (by decide +kernel) rfl) (ws_mem 20 (by decide +kernel) rfl) (ws_mem 39 (by decide +kernel) rfl) cw_X4_enter, by decide +kernel⟩
theorem kv_X4_173 : KV RX4 173 yX4_look RX4 cX4_look 3 none 0 := ⟨all5 (ws_mem 914 (by decide +kernel) rfl) (ws_mem 916 (by decide +kernel) rfl) (ws_mem 22 (by decide +kernel) rfl) (ws_mem 39 (by decide +kernel) rfl) cw_X4_look, by decide +kernel⟩
theorem kv_X4_176 : KV RX4 176 yX4_advance RX4 cX4_advance 2 (some .boolean) 1 := ⟨all5 (ws_mem 926 (by decide +kernel) rfl) (ws_mem 928 (by decide +kernel) rfl) (ws_mem 25 (by decide +kernel) rfl) (ws_mem 39 (by decide +kernel) rfl) cw_X4_advance, by decide +kernel⟩
theorem kv_X4_180 : KV RX4 180 yX4_stand RX4 cX4_stand 6 none 5 := ⟨all5 (ws_mem 930 (by decide +kernel) rfl) (ws_mem 932 (by decide +kernel) rfl) (ws_mem 26 (by decide +kernel) rfl) (ws_mem 39 (by decide +kernel) rfl) cw_X4_stand, by decide +kernel⟩
theorem kv_X4_184 : KV RX4 184 yX4_isPlan RX4 cX4_isPlan 3 (some .boolean) 0 := ⟨all5 (ws_mem 934 (by decide +kernel) rfl) (ws_mem 936 (by decide +kernel) rfl) (ws_mem 27 (by decide +kernel) rfl) (ws_mem 39 (by decide +kernel) rfl) cw_X4_isPlan, by decide +kernel⟩
theorem ko_X4_188 : KO RX4 188 yX4_not cX4_not 3 (some .boolean) 3 := ⟨all4 (ws_mem 856 (by decide +kernel) rfl) (ws_mem 857 (by decide +kernel) rfl) (ws_mem 39 (by decide +kernel) rfl) cw_X4_not, by decide +kernel⟩
theorem kv_X4_192 : KV RX4 192 yX4_noPiece RX4 cX4_noPiece 2 (some .boolean) 1 := ⟨all5 (ws_mem 863 (by decide +kernel) rfl) (ws_mem 865 (by decide +kernel) rfl) (ws_mem 14 (by decide +kernel) rfl) (ws_mem 39 (by decide +kernel) rfl) cw_X4_noPiece, by decide +kernel⟩
theorem kv_X4_195 : KV RX4 195 yX4_findOrder RX4 cX4_findOrder 3 none 0 := ⟨all5 (ws_mem 890 (by decide +kernel) rfl) (ws_mem 892 (by decide +kernel) rfl) (ws_mem 18 (by decide +kernel) rfl) (ws_mem 39 (by decide +kernel) rfl) cw_X4_findOrder, by decide +kernel⟩
theorem kv_X4_198 : KV RX4 198 yX4_search RX4 cX4_search 4 (some .boolean) 1 := ⟨all5 (ws_mem 902 (by decide +kernel) rfl) (ws_mem 904 (by decide +kernel) rfl) (ws_mem 19 (by decide +kernel) rfl) (ws_mem 39 (by decide +kernel) rfl) cw_X4_search, by decide +kernel⟩
theorem kv_X4_201 : KV RX4 201 yX4_goesIn RX4 cX4_goesIn 3 (some .boolean) 1 := ⟨all5 (ws_mem 969 (by decide +kernel) rfl) (ws_mem 971 (by decide +kernel) rfl) (ws_mem 32 (by decide +kernel) rfl) (ws_mem 39 (by decide +kernel) rfl) cw_X4_goesIn, by decide +kernel⟩
theorem kn_X0_33 : KN RX0 33 yX3_isIn "PackingSearch" cX3_isIn 2 (some .boolean) 2 := ⟨all3 (ws_mem 241 (by decide +kernel) rfl) (ws_mem 34 (by decide +kernel) rfl) cw_X3_isIn, by decide +kernel, by decide +kernel⟩
theorem kn_X1_117 : KN RX1 117 yX3_isIn "PackingSearch" cX3_isIn 2 (some .boolean) 2 := ⟨all3 (ws_mem 241 (by decide +kernel) rfl) (ws_mem 34 (by decide +kernel) rfl) cw_X3_isIn, by decide +kernel, by decide +kernel⟩
theorem hm_max : Cond.static Lib.Math.max.name ∈ WS ∧ Cond.initialized "java/lang/Math" ∈ WS ∧ Cond.code Lib.Math.max.name Lib.Math.max.code 2 (some .int) ∈ WS := ⟨(ws_mem 66 (by decide +kernel) rfl), (ws_mem 35 (by decide +kernel) rfl), (ws_mem 67 (by decide +kernel) rfl)⟩
theorem hk_X3_215 : Cond.methodLink RX3 215 Lib.Math.max.name ∈ WS := (ws_mem 65 (by decide +kernel) rfl)
theorem hk_X1_54 : Cond.methodLink RX1 54 Lib.Math.max.name ∈ WS := (ws_mem 303 (by decide +kernel) rfl)
theorem hk_X2_71 : Cond.methodLink RX2 71 Lib.Math.max.name ∈ WS := (ws_mem 580 (by decide +kernel) rfl)
theorem hm_min : Cond.static Lib.Math.min.name ∈ WS ∧ Cond.initialized "java/lang/Math" ∈ WS ∧ Cond.code Lib.Math.min.name Lib.Math.min.code 2 (some .int) ∈ WS := ⟨(ws_mem 63 (by decide +kernel) rfl), (ws_mem 35 (by decide +kernel) rfl), (ws_mem 64 (by decide +kernel) rfl)⟩
theorem hk_X3_128 : Cond.methodLink RX3 128 Lib.Math.min.name ∈ WS := (ws_mem 62 (by decide +kernel) rfl)
theorem hk_X2_65 : Cond.methodLink RX2 65 Lib.Math.min.name ∈ WS := (ws_mem 579 (by decide +kernel) rfl)
theorem hc_J6_265 : Cond.constant RJ6 265 (1431655765) ∈ WS := (ws_mem 462 (by decide +kernel) rfl)
theorem hc_J6_266 : Cond.constant RJ6 266 (858993459) ∈ WS := (ws_mem 463 (by decide +kernel) rfl)
theorem hc_J6_267 : Cond.constant RJ6 267 (252645135) ∈ WS := (ws_mem 464 (by decide +kernel) rfl)
end
