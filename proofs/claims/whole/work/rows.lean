section
-- ===== PART A: goes FIRST, ahead of the names: the tables' words, and 'selects' of the private methods out of them =====
/-- a private method of a class that the tables say can be made, by its rows of tables_1 -/
def lw_okq (q : MethodName × Nat) : Prop := (q.1.cls ≠ "java/lang/invoke/MethodHandle" ∧ q.1.cls ≠ "java/lang/invoke/VarHandle") ∧ Cond.instantiable q.1.cls q.2 ∈ tables_1 ∧ Cond.privateMethod q.1 ∈ tables_1 ∧ Cond.instanceMethod q.1 ∈ tables_1
theorem lw_p0 : lw_okq (⟨"WindingRaster$Outline", "isFull", "()Z"⟩, 5) := ⟨⟨by decide +kernel, by decide +kernel⟩, List.mem_of_getElem? (i := 28) (by decide +kernel), List.mem_of_getElem? (i := 135) (by decide +kernel), List.mem_of_getElem? (i := 136) (by decide +kernel)⟩
theorem lw_p1 : lw_okq (⟨"WindingRaster$Outline", "begin", "(II)V"⟩, 5) := ⟨⟨by decide +kernel, by decide +kernel⟩, List.mem_of_getElem? (i := 28) (by decide +kernel), List.mem_of_getElem? (i := 139) (by decide +kernel), List.mem_of_getElem? (i := 140) (by decide +kernel)⟩
theorem lw_p2 : lw_okq (⟨"WindingRaster$Outline", "addPoint", "(II)V"⟩, 5) := ⟨⟨by decide +kernel, by decide +kernel⟩, List.mem_of_getElem? (i := 28) (by decide +kernel), List.mem_of_getElem? (i := 143) (by decide +kernel), List.mem_of_getElem? (i := 144) (by decide +kernel)⟩
theorem lw_p3 : lw_okq (⟨"WindingRaster$Outline", "hasLine", "()Z"⟩, 5) := ⟨⟨by decide +kernel, by decide +kernel⟩, List.mem_of_getElem? (i := 28) (by decide +kernel), List.mem_of_getElem? (i := 152) (by decide +kernel), List.mem_of_getElem? (i := 153) (by decide +kernel)⟩
theorem lw_p4 : lw_okq (⟨"WindingRaster$Outline", "goOn", "(II)V"⟩, 5) := ⟨⟨by decide +kernel, by decide +kernel⟩, List.mem_of_getElem? (i := 28) (by decide +kernel), List.mem_of_getElem? (i := 156) (by decide +kernel), List.mem_of_getElem? (i := 157) (by decide +kernel)⟩
theorem lw_p5 : lw_okq (⟨"WindingRaster$Outline", "forget", "()V"⟩, 5) := ⟨⟨by decide +kernel, by decide +kernel⟩, List.mem_of_getElem? (i := 28) (by decide +kernel), List.mem_of_getElem? (i := 165) (by decide +kernel), List.mem_of_getElem? (i := 166) (by decide +kernel)⟩
theorem lw_p6 : lw_okq (⟨"WindingRaster", "hasPixel", "(II)Z"⟩, 7) := ⟨⟨by decide +kernel, by decide +kernel⟩, List.mem_of_getElem? (i := 11) (by decide +kernel), List.mem_of_getElem? (i := 173) (by decide +kernel), List.mem_of_getElem? (i := 174) (by decide +kernel)⟩
theorem lw_p7 : lw_okq (⟨"WindingRaster$Outline", "windingAt", "(II)I"⟩, 5) := ⟨⟨by decide +kernel, by decide +kernel⟩, List.mem_of_getElem? (i := 28) (by decide +kernel), List.mem_of_getElem? (i := 177) (by decide +kernel), List.mem_of_getElem? (i := 178) (by decide +kernel)⟩
theorem lw_p8 : lw_okq (⟨"WindingRaster$Outline", "stepAt", "(II)I"⟩, 5) := ⟨⟨by decide +kernel, by decide +kernel⟩, List.mem_of_getElem? (i := 28) (by decide +kernel), List.mem_of_getElem? (i := 185) (by decide +kernel), List.mem_of_getElem? (i := 186) (by decide +kernel)⟩
theorem lw_p9 : lw_okq (⟨"WindingRaster$Outline", "firstColumn", "(II)I"⟩, 5) := ⟨⟨by decide +kernel, by decide +kernel⟩, List.mem_of_getElem? (i := 28) (by decide +kernel), List.mem_of_getElem? (i := 189) (by decide +kernel), List.mem_of_getElem? (i := 190) (by decide +kernel)⟩
theorem lw_p10 : lw_okq (⟨"WindingRaster", "cutClip", "(I)V"⟩, 7) := ⟨⟨by decide +kernel, by decide +kernel⟩, List.mem_of_getElem? (i := 11) (by decide +kernel), List.mem_of_getElem? (i := 207) (by decide +kernel), List.mem_of_getElem? (i := 208) (by decide +kernel)⟩
theorem lw_p11 : lw_okq (⟨"WindingRaster$ClipPile", "start", "()I"⟩, 4) := ⟨⟨by decide +kernel, by decide +kernel⟩, List.mem_of_getElem? (i := 52) (by decide +kernel), List.mem_of_getElem? (i := 211) (by decide +kernel), List.mem_of_getElem? (i := 212) (by decide +kernel)⟩
theorem lw_p12 : lw_okq (⟨"WindingRaster$Outline", "windRow", "(I[I)Z"⟩, 5) := ⟨⟨by decide +kernel, by decide +kernel⟩, List.mem_of_getElem? (i := 28) (by decide +kernel), List.mem_of_getElem? (i := 218) (by decide +kernel), List.mem_of_getElem? (i := 219) (by decide +kernel)⟩
theorem lw_p13 : lw_okq (⟨"WindingRaster", "cutRun", "(II)V"⟩, 7) := ⟨⟨by decide +kernel, by decide +kernel⟩, List.mem_of_getElem? (i := 11) (by decide +kernel), List.mem_of_getElem? (i := 224) (by decide +kernel), List.mem_of_getElem? (i := 225) (by decide +kernel)⟩
theorem lw_p14 : lw_okq (⟨"WindingRaster$RunList", "add", "(I)V"⟩, 2) := ⟨⟨by decide +kernel, by decide +kernel⟩, List.mem_of_getElem? (i := 78) (by decide +kernel), List.mem_of_getElem? (i := 238) (by decide +kernel), List.mem_of_getElem? (i := 239) (by decide +kernel)⟩
theorem lw_p15 : lw_okq (⟨"WindingRaster", "paint", "([IIII)I"⟩, 7) := ⟨⟨by decide +kernel, by decide +kernel⟩, List.mem_of_getElem? (i := 11) (by decide +kernel), List.mem_of_getElem? (i := 242) (by decide +kernel), List.mem_of_getElem? (i := 243) (by decide +kernel)⟩
def lw_privs_1 : List (MethodName × Nat) := [(⟨"WindingRaster$Outline", "isFull", "()Z"⟩, 5), (⟨"WindingRaster$Outline", "begin", "(II)V"⟩, 5), (⟨"WindingRaster$Outline", "addPoint", "(II)V"⟩, 5), (⟨"WindingRaster$Outline", "hasLine", "()Z"⟩, 5), (⟨"WindingRaster$Outline", "goOn", "(II)V"⟩, 5), (⟨"WindingRaster$Outline", "forget", "()V"⟩, 5), (⟨"WindingRaster", "hasPixel", "(II)Z"⟩, 7), (⟨"WindingRaster$Outline", "windingAt", "(II)I"⟩, 5), (⟨"WindingRaster$Outline", "stepAt", "(II)I"⟩, 5), (⟨"WindingRaster$Outline", "firstColumn", "(II)I"⟩, 5), (⟨"WindingRaster", "cutClip", "(I)V"⟩, 7), (⟨"WindingRaster$ClipPile", "start", "()I"⟩, 4), (⟨"WindingRaster$Outline", "windRow", "(I[I)Z"⟩, 5), (⟨"WindingRaster", "cutRun", "(II)V"⟩, 7), (⟨"WindingRaster$RunList", "add", "(I)V"⟩, 2), (⟨"WindingRaster", "paint", "([IIII)I"⟩, 7)]
theorem lw_r1 : ∀ q ∈ lw_privs_1, lw_okq q := List.forall_mem_cons.mpr ⟨lw_p0, List.forall_mem_cons.mpr ⟨lw_p1, List.forall_mem_cons.mpr ⟨lw_p2, List.forall_mem_cons.mpr ⟨lw_p3, List.forall_mem_cons.mpr ⟨lw_p4, List.forall_mem_cons.mpr ⟨lw_p5, List.forall_mem_cons.mpr ⟨lw_p6, List.forall_mem_cons.mpr ⟨lw_p7, List.forall_mem_cons.mpr ⟨lw_p8, List.forall_mem_cons.mpr ⟨lw_p9, List.forall_mem_cons.mpr ⟨lw_p10, List.forall_mem_cons.mpr ⟨lw_p11, List.forall_mem_cons.mpr ⟨lw_p12, List.forall_mem_cons.mpr ⟨lw_p13, List.forall_mem_cons.mpr ⟨lw_p14, List.forall_mem_cons.mpr ⟨lw_p15, fun _ h => absurd h List.not_mem_nil⟩⟩⟩⟩⟩⟩⟩⟩⟩⟩⟩⟩⟩⟩⟩⟩
theorem lw_p16 : lw_okq (⟨"WindingRaster$ClipPile", "replace", "(LWindingRaster$RunList;)Z"⟩, 4) := ⟨⟨by decide +kernel, by decide +kernel⟩, List.mem_of_getElem? (i := 52) (by decide +kernel), List.mem_of_getElem? (i := 255) (by decide +kernel), List.mem_of_getElem? (i := 256) (by decide +kernel)⟩
theorem lw_p17 : lw_okq (⟨"WindingRaster$ClipPile", "pixelCount", "()I"⟩, 4) := ⟨⟨by decide +kernel, by decide +kernel⟩, List.mem_of_getElem? (i := 52) (by decide +kernel), List.mem_of_getElem? (i := 263) (by decide +kernel), List.mem_of_getElem? (i := 264) (by decide +kernel)⟩
theorem lw_p18 : lw_okq (⟨"WindingRaster$ClipPile", "push", "()Z"⟩, 4) := ⟨⟨by decide +kernel, by decide +kernel⟩, List.mem_of_getElem? (i := 52) (by decide +kernel), List.mem_of_getElem? (i := 272) (by decide +kernel), List.mem_of_getElem? (i := 273) (by decide +kernel)⟩
theorem lw_p19 : lw_okq (⟨"WindingRaster$ClipPile", "pop", "()Z"⟩, 4) := ⟨⟨by decide +kernel, by decide +kernel⟩, List.mem_of_getElem? (i := 52) (by decide +kernel), List.mem_of_getElem? (i := 280) (by decide +kernel), List.mem_of_getElem? (i := 281) (by decide +kernel)⟩
theorem lw_p20 : lw_okq (⟨"WindingRaster$ClipPile", "has", "(II)Z"⟩, 4) := ⟨⟨by decide +kernel, by decide +kernel⟩, List.mem_of_getElem? (i := 52) (by decide +kernel), List.mem_of_getElem? (i := 292) (by decide +kernel), List.mem_of_getElem? (i := 293) (by decide +kernel)⟩
theorem lw_p21 : lw_okq (⟨"WindingRasterModel", "put", "(III)I"⟩, 11) := ⟨⟨by decide +kernel, by decide +kernel⟩, List.mem_of_getElem? (i := 318) (by decide +kernel), List.mem_of_getElem? (i := 381) (by decide +kernel), List.mem_of_getElem? (i := 382) (by decide +kernel)⟩
theorem lw_p22 : lw_okq (⟨"WindingRasterModel", "isPixel", "(II)Z"⟩, 11) := ⟨⟨by decide +kernel, by decide +kernel⟩, List.mem_of_getElem? (i := 318) (by decide +kernel), List.mem_of_getElem? (i := 397) (by decide +kernel), List.mem_of_getElem? (i := 398) (by decide +kernel)⟩
theorem lw_p23 : lw_okq (⟨"WindingRasterModel", "meet", "(I)V"⟩, 11) := ⟨⟨by decide +kernel, by decide +kernel⟩, List.mem_of_getElem? (i := 318) (by decide +kernel), List.mem_of_getElem? (i := 401) (by decide +kernel), List.mem_of_getElem? (i := 402) (by decide +kernel)⟩
theorem lw_p24 : lw_okq (⟨"WindingRasterModel", "next", "(I)I"⟩, 11) := ⟨⟨by decide +kernel, by decide +kernel⟩, List.mem_of_getElem? (i := 318) (by decide +kernel), List.mem_of_getElem? (i := 410) (by decide +kernel), List.mem_of_getElem? (i := 411) (by decide +kernel)⟩
theorem lw_p25 : lw_okq (⟨"WindingRasterModel", "windings", "(II)I"⟩, 11) := ⟨⟨by decide +kernel, by decide +kernel⟩, List.mem_of_getElem? (i := 318) (by decide +kernel), List.mem_of_getElem? (i := 414) (by decide +kernel), List.mem_of_getElem? (i := 415) (by decide +kernel)⟩
theorem lw_p26 : lw_okq (⟨"WindingRasterModel", "isLeft", "(IJJ)Z"⟩, 11) := ⟨⟨by decide +kernel, by decide +kernel⟩, List.mem_of_getElem? (i := 318) (by decide +kernel), List.mem_of_getElem? (i := 418) (by decide +kernel), List.mem_of_getElem? (i := 419) (by decide +kernel)⟩
theorem lw_p27 : lw_okq (⟨"WindingRasterModel", "isOpen", "(II)Z"⟩, 11) := ⟨⟨by decide +kernel, by decide +kernel⟩, List.mem_of_getElem? (i := 318) (by decide +kernel), List.mem_of_getElem? (i := 429) (by decide +kernel), List.mem_of_getElem? (i := 430) (by decide +kernel)⟩
theorem lw_p28 : lw_okq (⟨"WindingRasterModel", "setOpen", "(IIZ)V"⟩, 11) := ⟨⟨by decide +kernel, by decide +kernel⟩, List.mem_of_getElem? (i := 318) (by decide +kernel), List.mem_of_getElem? (i := 440) (by decide +kernel), List.mem_of_getElem? (i := 441) (by decide +kernel)⟩
theorem lw_p29 : lw_okq (⟨"WindingRasterModel", "runsTo", "(I)I"⟩, 11) := ⟨⟨by decide +kernel, by decide +kernel⟩, List.mem_of_getElem? (i := 318) (by decide +kernel), List.mem_of_getElem? (i := 444) (by decide +kernel), List.mem_of_getElem? (i := 445) (by decide +kernel)⟩
theorem lw_p30 : lw_okq (⟨"WindingRasterModel", "runsOf", "(I)I"⟩, 11) := ⟨⟨by decide +kernel, by decide +kernel⟩, List.mem_of_getElem? (i := 318) (by decide +kernel), List.mem_of_getElem? (i := 448) (by decide +kernel), List.mem_of_getElem? (i := 449) (by decide +kernel)⟩
def lw_privs_2 : List (MethodName × Nat) := [(⟨"WindingRaster$ClipPile", "replace", "(LWindingRaster$RunList;)Z"⟩, 4), (⟨"WindingRaster$ClipPile", "pixelCount", "()I"⟩, 4), (⟨"WindingRaster$ClipPile", "push", "()Z"⟩, 4), (⟨"WindingRaster$ClipPile", "pop", "()Z"⟩, 4), (⟨"WindingRaster$ClipPile", "has", "(II)Z"⟩, 4), (⟨"WindingRasterModel", "put", "(III)I"⟩, 11), (⟨"WindingRasterModel", "isPixel", "(II)Z"⟩, 11), (⟨"WindingRasterModel", "meet", "(I)V"⟩, 11), (⟨"WindingRasterModel", "next", "(I)I"⟩, 11), (⟨"WindingRasterModel", "windings", "(II)I"⟩, 11), (⟨"WindingRasterModel", "isLeft", "(IJJ)Z"⟩, 11), (⟨"WindingRasterModel", "isOpen", "(II)Z"⟩, 11), (⟨"WindingRasterModel", "setOpen", "(IIZ)V"⟩, 11), (⟨"WindingRasterModel", "runsTo", "(I)I"⟩, 11), (⟨"WindingRasterModel", "runsOf", "(I)I"⟩, 11)]
theorem lw_r2 : ∀ q ∈ lw_privs_2, lw_okq q := List.forall_mem_cons.mpr ⟨lw_p16, List.forall_mem_cons.mpr ⟨lw_p17, List.forall_mem_cons.mpr ⟨lw_p18, List.forall_mem_cons.mpr ⟨lw_p19, List.forall_mem_cons.mpr ⟨lw_p20, List.forall_mem_cons.mpr ⟨lw_p21, List.forall_mem_cons.mpr ⟨lw_p22, List.forall_mem_cons.mpr ⟨lw_p23, List.forall_mem_cons.mpr ⟨lw_p24, List.forall_mem_cons.mpr ⟨lw_p25, List.forall_mem_cons.mpr ⟨lw_p26, List.forall_mem_cons.mpr ⟨lw_p27, List.forall_mem_cons.mpr ⟨lw_p28, List.forall_mem_cons.mpr ⟨lw_p29, List.forall_mem_cons.mpr ⟨lw_p30, fun _ h => absurd h List.not_mem_nil⟩⟩⟩⟩⟩⟩⟩⟩⟩⟩⟩⟩⟩⟩⟩
def lw_privs : List (MethodName × Nat) := lw_privs_1 ++ (lw_privs_2)
def lw_tbl : List Cond := k2_sels lw_privs ++ tables_1
theorem lw_privs_ok : ∀ q ∈ lw_privs, lw_okq q := by
  show ∀ q ∈ lw_privs_1 ++ (lw_privs_2), lw_okq q
  exact List.forall_mem_append.mpr ⟨lw_r1, lw_r2⟩
-- names, by a program out of claim/Statement.lean and claim/JAVAP.txt
abbrev bW_init : ByteArray := prog_1_method_1_code
def yW_init : MethodName := ⟨"WindingRaster", "<init>", "(II)V"⟩
abbrev bJM_min : ByteArray := prog_8_method_69_code
def yJM_min : MethodName := ⟨"java/lang/Math", "min", "(II)I"⟩
abbrev bJM_max : ByteArray := prog_8_method_65_code
def yJM_max : MethodName := ⟨"java/lang/Math", "max", "(II)I"⟩
abbrev bJA_fill : ByteArray := prog_10_method_103_code
def yJA_fill : MethodName := ⟨"java/util/Arrays", "fill", "([II)V"⟩
abbrev bO_init : ByteArray := prog_3_method_1_code
def yO_init : MethodName := ⟨"WindingRaster$Outline", "<init>", "()V"⟩
abbrev bC_init : ByteArray := prog_2_method_1_code
def yC_init : MethodName := ⟨"WindingRaster$ClipPile", "<init>", "(II)V"⟩
abbrev bR_of : ByteArray := prog_4_method_2_code
def yR_of : MethodName := ⟨"WindingRaster$Run", "of", "(III)I"⟩
abbrev bL_init : ByteArray := prog_5_method_1_code
def yL_init : MethodName := ⟨"WindingRaster$RunList", "<init>", "(I)V"⟩
abbrev bW_columns : ByteArray := prog_1_method_2_code
def yW_columns : MethodName := ⟨"WindingRaster", "columns", "()I"⟩
abbrev bW_rows : ByteArray := prog_1_method_3_code
def yW_rows : MethodName := ⟨"WindingRaster", "rows", "()I"⟩
abbrev bW_move : ByteArray := prog_1_method_4_code
def yW_move : MethodName := ⟨"WindingRaster", "move", "(II)I"⟩
abbrev bW_isPlace : ByteArray := prog_1_method_18_code
def yW_isPlace : MethodName := ⟨"WindingRaster", "isPlace", "(I)Z"⟩
abbrev bO_isFull : ByteArray := prog_3_method_2_code
def yO_isFull : MethodName := ⟨"WindingRaster$Outline", "isFull", "()Z"⟩
abbrev bO_begin : ByteArray := prog_3_method_4_code
def yO_begin : MethodName := ⟨"WindingRaster$Outline", "begin", "(II)V"⟩
abbrev bO_addPoint : ByteArray := prog_3_method_6_code
def yO_addPoint : MethodName := ⟨"WindingRaster$Outline", "addPoint", "(II)V"⟩
abbrev bW_line : ByteArray := prog_1_method_5_code
def yW_line : MethodName := ⟨"WindingRaster", "line", "(II)I"⟩
abbrev bO_hasLine : ByteArray := prog_3_method_3_code
def yO_hasLine : MethodName := ⟨"WindingRaster$Outline", "hasLine", "()Z"⟩
abbrev bO_goOn : ByteArray := prog_3_method_5_code
def yO_goOn : MethodName := ⟨"WindingRaster$Outline", "goOn", "(II)V"⟩
abbrev bW_clear : ByteArray := prog_1_method_6_code
def yW_clear : MethodName := ⟨"WindingRaster", "clear", "()I"⟩
abbrev bO_forget : ByteArray := prog_3_method_7_code
def yO_forget : MethodName := ⟨"WindingRaster$Outline", "forget", "()V"⟩
abbrev bW_winding : ByteArray := prog_1_method_7_code
def yW_winding : MethodName := ⟨"WindingRaster", "winding", "(II)I"⟩
abbrev bW_hasPixel : ByteArray := prog_1_method_22_code
def yW_hasPixel : MethodName := ⟨"WindingRaster", "hasPixel", "(II)Z"⟩
abbrev bO_windingAt : ByteArray := prog_3_method_8_code
def yO_windingAt : MethodName := ⟨"WindingRaster$Outline", "windingAt", "(II)I"⟩
abbrev bO_centreOf : ByteArray := prog_3_method_10_code
def yO_centreOf : MethodName := ⟨"WindingRaster$Outline", "centreOf", "(I)I"⟩
abbrev bO_stepAt : ByteArray := prog_3_method_11_code
def yO_stepAt : MethodName := ⟨"WindingRaster$Outline", "stepAt", "(II)I"⟩
abbrev bO_firstColumn : ByteArray := prog_3_method_12_code
def yO_firstColumn : MethodName := ⟨"WindingRaster$Outline", "firstColumn", "(II)I"⟩
abbrev bJM_floorDiv : ByteArray := prog_8_method_49_code
def yJM_floorDiv : MethodName := ⟨"java/lang/Math", "floorDiv", "(JJ)J"⟩
abbrev bW_fill : ByteArray := prog_1_method_8_code
def yW_fill : MethodName := ⟨"WindingRaster", "fill", "(II)I"⟩
abbrev bW_isRule : ByteArray := prog_1_method_19_code
def yW_isRule : MethodName := ⟨"WindingRaster", "isRule", "(I)Z"⟩
abbrev bW_isGray : ByteArray := prog_1_method_20_code
def yW_isGray : MethodName := ⟨"WindingRaster", "isGray", "(I)Z"⟩
abbrev bW_cutClip : ByteArray := prog_1_method_23_code
def yW_cutClip : MethodName := ⟨"WindingRaster", "cutClip", "(I)V"⟩
abbrev bC_start : ByteArray := prog_2_method_2_code
def yC_start : MethodName := ⟨"WindingRaster$ClipPile", "start", "()I"⟩
abbrev bR_rowOf : ByteArray := prog_4_method_3_code
def yR_rowOf : MethodName := ⟨"WindingRaster$Run", "rowOf", "(I)I"⟩
abbrev bO_windRow : ByteArray := prog_3_method_9_code
def yO_windRow : MethodName := ⟨"WindingRaster$Outline", "windRow", "(I[I)Z"⟩
abbrev bW_cutRun : ByteArray := prog_1_method_24_code
def yW_cutRun : MethodName := ⟨"WindingRaster", "cutRun", "(II)V"⟩
abbrev bR_endOf : ByteArray := prog_4_method_5_code
def yR_endOf : MethodName := ⟨"WindingRaster$Run", "endOf", "(I)I"⟩
abbrev bR_fromOf : ByteArray := prog_4_method_4_code
def yR_fromOf : MethodName := ⟨"WindingRaster$Run", "fromOf", "(I)I"⟩
abbrev bW_isInside : ByteArray := prog_1_method_21_code
def yW_isInside : MethodName := ⟨"WindingRaster", "isInside", "(II)Z"⟩
abbrev bL_add : ByteArray := prog_5_method_2_code
def yL_add : MethodName := ⟨"WindingRaster$RunList", "add", "(I)V"⟩
abbrev bW_paint : ByteArray := prog_1_method_25_code
def yW_paint : MethodName := ⟨"WindingRaster", "paint", "([IIII)I"⟩
abbrev bR_lengthOf : ByteArray := prog_4_method_6_code
def yR_lengthOf : MethodName := ⟨"WindingRaster$Run", "lengthOf", "(I)I"⟩
abbrev bW_clip : ByteArray := prog_1_method_9_code
def yW_clip : MethodName := ⟨"WindingRaster", "clip", "(I)I"⟩
abbrev bC_replace : ByteArray := prog_2_method_5_code
def yC_replace : MethodName := ⟨"WindingRaster$ClipPile", "replace", "(LWindingRaster$RunList;)Z"⟩
abbrev bC_pixelCount : ByteArray := prog_2_method_7_code
def yC_pixelCount : MethodName := ⟨"WindingRaster$ClipPile", "pixelCount", "()I"⟩
abbrev bW_save : ByteArray := prog_1_method_10_code
def yW_save : MethodName := ⟨"WindingRaster", "save", "()I"⟩
abbrev bC_push : ByteArray := prog_2_method_3_code
def yC_push : MethodName := ⟨"WindingRaster$ClipPile", "push", "()Z"⟩
abbrev bW_restore : ByteArray := prog_1_method_11_code
def yW_restore : MethodName := ⟨"WindingRaster", "restore", "()I"⟩
abbrev bC_pop : ByteArray := prog_2_method_4_code
def yC_pop : MethodName := ⟨"WindingRaster$ClipPile", "pop", "()Z"⟩
abbrev bW_gray : ByteArray := prog_1_method_12_code
def yW_gray : MethodName := ⟨"WindingRaster", "gray", "(II)I"⟩
abbrev bW_open : ByteArray := prog_1_method_13_code
def yW_open : MethodName := ⟨"WindingRaster", "open", "(II)I"⟩
abbrev bC_has : ByteArray := prog_2_method_6_code
def yC_has : MethodName := ⟨"WindingRaster$ClipPile", "has", "(II)Z"⟩
abbrev bW_pixels : ByteArray := prog_1_method_14_code
def yW_pixels : MethodName := ⟨"WindingRaster", "pixels", "()I"⟩
abbrev bW_runs : ByteArray := prog_1_method_15_code
def yW_runs : MethodName := ⟨"WindingRaster", "runs", "()I"⟩
abbrev bW_count : ByteArray := prog_1_method_16_code
def yW_count : MethodName := ⟨"WindingRaster", "count", "(II)I"⟩
abbrev bW_flood : ByteArray := prog_1_method_17_code
def yW_flood : MethodName := ⟨"WindingRaster", "flood", "(I)I"⟩
abbrev bLW_cell : ByteArray := method_2_code
def yLW_cell : MethodName := ⟨"WindingRasterLaw", "cell", "([II)I"⟩
abbrev bM_init : ByteArray := prog_7_method_1_code
def yM_init : MethodName := ⟨"WindingRasterModel", "<init>", "(II)V"⟩
abbrev bM_side : ByteArray := prog_7_method_2_code
def yM_side : MethodName := ⟨"WindingRasterModel", "side", "(I)I"⟩
abbrev bM_columns : ByteArray := prog_7_method_3_code
def yM_columns : MethodName := ⟨"WindingRasterModel", "columns", "()I"⟩
abbrev bM_rows : ByteArray := prog_7_method_4_code
def yM_rows : MethodName := ⟨"WindingRasterModel", "rows", "()I"⟩
abbrev bM_move : ByteArray := prog_7_method_7_code
def yM_move : MethodName := ⟨"WindingRasterModel", "move", "(II)I"⟩
abbrev bM_isPlace : ByteArray := prog_7_method_5_code
def yM_isPlace : MethodName := ⟨"WindingRasterModel", "isPlace", "(I)Z"⟩
abbrev bM_put : ByteArray := prog_7_method_6_code
def yM_put : MethodName := ⟨"WindingRasterModel", "put", "(III)I"⟩
abbrev bM_line : ByteArray := prog_7_method_8_code
def yM_line : MethodName := ⟨"WindingRasterModel", "line", "(II)I"⟩
abbrev bM_clear : ByteArray := prog_7_method_9_code
def yM_clear : MethodName := ⟨"WindingRasterModel", "clear", "()I"⟩
abbrev bM_winding : ByteArray := prog_7_method_17_code
def yM_winding : MethodName := ⟨"WindingRasterModel", "winding", "(II)I"⟩
abbrev bM_isPixel : ByteArray := prog_7_method_15_code
def yM_isPixel : MethodName := ⟨"WindingRasterModel", "isPixel", "(II)Z"⟩
abbrev bM_meet : ByteArray := prog_7_method_12_code
def yM_meet : MethodName := ⟨"WindingRasterModel", "meet", "(I)V"⟩
abbrev bM_centre : ByteArray := prog_7_method_11_code
def yM_centre : MethodName := ⟨"WindingRasterModel", "centre", "(I)J"⟩
abbrev bM_next : ByteArray := prog_7_method_10_code
def yM_next : MethodName := ⟨"WindingRasterModel", "next", "(I)I"⟩
abbrev bM_windings : ByteArray := prog_7_method_14_code
def yM_windings : MethodName := ⟨"WindingRasterModel", "windings", "(II)I"⟩
abbrev bM_isLeft : ByteArray := prog_7_method_13_code
def yM_isLeft : MethodName := ⟨"WindingRasterModel", "isLeft", "(IJJ)Z"⟩
abbrev bM_fill : ByteArray := prog_7_method_23_code
def yM_fill : MethodName := ⟨"WindingRasterModel", "fill", "(II)I"⟩
abbrev bM_at : ByteArray := prog_7_method_16_code
def yM_at : MethodName := ⟨"WindingRasterModel", "at", "(II)I"⟩
abbrev bM_isOpen : ByteArray := prog_7_method_19_code
def yM_isOpen : MethodName := ⟨"WindingRasterModel", "isOpen", "(II)Z"⟩
abbrev bM_isInside : ByteArray := prog_7_method_18_code
def yM_isInside : MethodName := ⟨"WindingRasterModel", "isInside", "(II)Z"⟩
abbrev bM_clip : ByteArray := prog_7_method_24_code
def yM_clip : MethodName := ⟨"WindingRasterModel", "clip", "(I)I"⟩
abbrev bM_setOpen : ByteArray := prog_7_method_20_code
def yM_setOpen : MethodName := ⟨"WindingRasterModel", "setOpen", "(IIZ)V"⟩
abbrev bM_runsTo : ByteArray := prog_7_method_22_code
def yM_runsTo : MethodName := ⟨"WindingRasterModel", "runsTo", "(I)I"⟩
abbrev bM_runsOf : ByteArray := prog_7_method_21_code
def yM_runsOf : MethodName := ⟨"WindingRasterModel", "runsOf", "(I)I"⟩
abbrev bM_pixels : ByteArray := prog_7_method_29_code
def yM_pixels : MethodName := ⟨"WindingRasterModel", "pixels", "()I"⟩
abbrev bM_save : ByteArray := prog_7_method_25_code
def yM_save : MethodName := ⟨"WindingRasterModel", "save", "()I"⟩
abbrev bM_restore : ByteArray := prog_7_method_26_code
def yM_restore : MethodName := ⟨"WindingRasterModel", "restore", "()I"⟩
abbrev bM_gray : ByteArray := prog_7_method_27_code
def yM_gray : MethodName := ⟨"WindingRasterModel", "gray", "(II)I"⟩
abbrev bM_open : ByteArray := prog_7_method_28_code
def yM_open : MethodName := ⟨"WindingRasterModel", "open", "(II)I"⟩
abbrev bM_runs : ByteArray := prog_7_method_30_code
def yM_runs : MethodName := ⟨"WindingRasterModel", "runs", "()I"⟩
abbrev bM_count : ByteArray := prog_7_method_31_code
def yM_count : MethodName := ⟨"WindingRasterModel", "count", "(II)I"⟩
abbrev bM_flood : ByteArray := prog_7_method_32_code
def yM_flood : MethodName := ⟨"WindingRasterModel", "flood", "(I)I"⟩
def TW : u_T := fun k => match k with
  | 0 => ("WindingRaster", "columns", "I", true)
  | 1 => ("WindingRaster", "rows", "I", true)
  | 2 => ("WindingRaster", "grays", "[I", true)
  | 3 => ("WindingRaster", "outline", "LWindingRaster$Outline;", true)
  | 4 => ("WindingRaster", "clips", "LWindingRaster$ClipPile;", true)
  | 5 => ("WindingRaster", "windings", "[I", true)
  | _ => ("WindingRaster", "pieces", "LWindingRaster$RunList;", true)
def tW : Nat → FieldType := fun k => match k with
  | 0 => .int
  | 1 => .int
  | 2 => (.array .int)
  | 3 => (.object "WindingRaster$Outline")
  | 4 => (.object "WindingRaster$ClipPile")
  | 5 => (.array .int)
  | _ => (.object "WindingRaster$RunList")
abbrev wsW : List Cond := u_ws "WindingRaster" TW 7
theorem nW : ∀ a, a < 7 → ∀ b, b < 7 → a ≠ b → (TW a).2.1 ≠ (TW b).2.1 := by decide +kernel
theorem tW_ok : ∀ k, k < 7 → parseFieldDescriptor (TW k).2.2.1 = some (tW k) := by decide +kernel
def TO : u_T := fun k => match k with
  | 0 => ("WindingRaster$Outline", "xs", "[I", true)
  | 1 => ("WindingRaster$Outline", "ys", "[I", true)
  | 2 => ("WindingRaster$Outline", "next", "[I", true)
  | 3 => ("WindingRaster$Outline", "size", "I", false)
  | _ => ("WindingRaster$Outline", "lineStart", "I", false)
def tO : Nat → FieldType := fun k => match k with
  | 0 => (.array .int)
  | 1 => (.array .int)
  | 2 => (.array .int)
  | 3 => .int
  | _ => .int
abbrev wsO : List Cond := u_ws "WindingRaster$Outline" TO 5
theorem nO : ∀ a, a < 5 → ∀ b, b < 5 → a ≠ b → (TO a).2.1 ≠ (TO b).2.1 := by decide +kernel
theorem tO_ok : ∀ k, k < 5 → parseFieldDescriptor (TO k).2.2.1 = some (tO k) := by decide +kernel
def TC : u_T := fun k => match k with
  | 0 => ("WindingRaster$ClipPile", "items", "[I", true)
  | 1 => ("WindingRaster$ClipPile", "starts", "[I", true)
  | 2 => ("WindingRaster$ClipPile", "saved", "I", false)
  | _ => ("WindingRaster$ClipPile", "end", "I", false)
def tC : Nat → FieldType := fun k => match k with
  | 0 => (.array .int)
  | 1 => (.array .int)
  | 2 => .int
  | _ => .int
abbrev wsC : List Cond := u_ws "WindingRaster$ClipPile" TC 4
theorem nC : ∀ a, a < 4 → ∀ b, b < 4 → a ≠ b → (TC a).2.1 ≠ (TC b).2.1 := by decide +kernel
theorem tC_ok : ∀ k, k < 4 → parseFieldDescriptor (TC k).2.2.1 = some (tC k) := by decide +kernel
def TL : u_T := fun k => match k with
  | 0 => ("WindingRaster$RunList", "items", "[I", true)
  | _ => ("WindingRaster$RunList", "size", "I", false)
def tL : Nat → FieldType := fun k => match k with
  | 0 => (.array .int)
  | _ => .int
abbrev wsL : List Cond := u_ws "WindingRaster$RunList" TL 2
theorem nL : ∀ a, a < 2 → ∀ b, b < 2 → a ≠ b → (TL a).2.1 ≠ (TL b).2.1 := by decide +kernel
theorem tL_ok : ∀ k, k < 2 → parseFieldDescriptor (TL k).2.2.1 = some (tL k) := by decide +kernel
def TM : u_T := fun k => match k with
  | 0 => ("WindingRasterModel", "columns", "I", true)
  | 1 => ("WindingRasterModel", "rows", "I", true)
  | 2 => ("WindingRasterModel", "grays", "[B", true)
  | 3 => ("WindingRasterModel", "masks", "[S", true)
  | 4 => ("WindingRasterModel", "saved", "I", false)
  | 5 => ("WindingRasterModel", "xs", "[I", true)
  | 6 => ("WindingRasterModel", "ys", "[I", true)
  | 7 => ("WindingRasterModel", "firsts", "[I", true)
  | 8 => ("WindingRasterModel", "points", "I", false)
  | 9 => ("WindingRasterModel", "met", "[I", true)
  | _ => ("WindingRasterModel", "meets", "I", false)
def tM : Nat → FieldType := fun k => match k with
  | 0 => .int
  | 1 => .int
  | 2 => (.array .byte)
  | 3 => (.array .short)
  | 4 => .int
  | 5 => (.array .int)
  | 6 => (.array .int)
  | 7 => (.array .int)
  | 8 => .int
  | 9 => (.array .int)
  | _ => .int
abbrev wsM : List Cond := u_ws "WindingRasterModel" TM 11
theorem nM : ∀ a, a < 11 → ∀ b, b < 11 → a ≠ b → (TM a).2.1 ≠ (TM b).2.1 := by decide +kernel
theorem tM_ok : ∀ k, k < 11 → parseFieldDescriptor (TM k).2.2.1 = some (tM k) := by decide +kernel
abbrev vwCl : List vw_C := [("WindingRaster", TW, 7), ("WindingRaster$Outline", TO, 5), ("WindingRaster$ClipPile", TC, 4), ("WindingRaster$RunList", TL, 2), ("WindingRasterModel", TM, 11)]
def vwTy (cA cB cS : ClassId) : List (ClassId × FieldType) := [(cA, .int), (cB, .byte), (cS, .short)]
def vwB : List Cond := lw_tbl.filter goodWord
theorem vwB_good : vwB.all goodWord = true := List.all_eq_true.mpr (fun w h => (List.mem_filter.mp h).2)
theorem vwB_law : ∀ w ∈ vwB, w ∈ lw_tbl := fun w h => (List.mem_filter.mp h).1
theorem vwB_t {w : Cond} (i : Nat) (h : tables_1[i]? = some w) (hg : goodWord w = true) : w ∈ vwB := List.mem_filter.mpr ⟨List.mem_append_right _ (List.mem_of_getElem? h), hg⟩
theorem vwB_p {w : Cond} (i : Nat) (h : (k2_sels lw_privs)[i]? = some w) (hg : goodWord w = true) : w ∈ vwB := List.mem_filter.mpr ⟨List.mem_append_left _ (List.mem_of_getElem? h), hg⟩
def vwNw : List Cond := [Cond.methodLinkNest "WindingRaster" 37 ⟨"WindingRaster$Outline", "<init>", "()V"⟩ "WindingRaster", Cond.fieldLinkNest "WindingRaster" 74 "WindingRaster$Outline" "size" "I" "WindingRaster", Cond.methodLinkNest "WindingRaster" 44 ⟨"WindingRaster$ClipPile", "<init>", "(II)V"⟩ "WindingRaster", Cond.methodLinkNest "WindingRaster$ClipPile" 18 ⟨"WindingRaster$Run", "of", "(III)I"⟩ "WindingRaster", Cond.fieldLinkNest "WindingRaster" 133 "WindingRaster$ClipPile" "items" "[I" "WindingRaster", Cond.fieldLinkNest "WindingRaster" 121 "WindingRaster$ClipPile" "saved" "I" "WindingRaster", Cond.fieldLinkNest "WindingRaster" 130 "WindingRaster$ClipPile" "end" "I" "WindingRaster", Cond.methodLinkNest "WindingRaster" 56 ⟨"WindingRaster$RunList", "<init>", "(I)V"⟩ "WindingRaster", Cond.fieldLinkNest "WindingRaster$ClipPile" 52 "WindingRaster$RunList" "items" "[I" "WindingRaster", Cond.fieldLinkNest "WindingRaster" 102 "WindingRaster$RunList" "items" "[I" "WindingRaster", Cond.fieldLinkNest "WindingRaster$ClipPile" 47 "WindingRaster$RunList" "size" "I" "WindingRaster", Cond.fieldLinkNest "WindingRaster" 105 "WindingRaster$RunList" "size" "I" "WindingRaster", Cond.methodLinkNest "WindingRaster" 67 ⟨"WindingRaster$Outline", "isFull", "()Z"⟩ "WindingRaster", Cond.methodLinkNest "WindingRaster" 71 ⟨"WindingRaster$Outline", "begin", "(II)V"⟩ "WindingRaster", Cond.methodLinkNest "WindingRaster" 77 ⟨"WindingRaster$Outline", "hasLine", "()Z"⟩ "WindingRaster", Cond.methodLinkNest "WindingRaster" 80 ⟨"WindingRaster$Outline", "goOn", "(II)V"⟩ "WindingRaster", Cond.methodLinkNest "WindingRaster" 83 ⟨"WindingRaster$Outline", "forget", "()V"⟩ "WindingRaster", Cond.methodLinkNest "WindingRaster" 90 ⟨"WindingRaster$Outline", "windingAt", "(II)I"⟩ "WindingRaster", Cond.methodLinkNest "WindingRaster" 134 ⟨"WindingRaster$ClipPile", "start", "()I"⟩ "WindingRaster", Cond.methodLinkNest "WindingRaster" 139 ⟨"WindingRaster$Run", "rowOf", "(I)I"⟩ "WindingRaster", Cond.methodLinkNest "WindingRaster" 145 ⟨"WindingRaster$Outline", "windRow", "(I[I)Z"⟩ "WindingRaster", Cond.methodLinkNest "WindingRaster" 152 ⟨"WindingRaster$Run", "endOf", "(I)I"⟩ "WindingRaster", Cond.methodLinkNest "WindingRaster" 155 ⟨"WindingRaster$Run", "fromOf", "(I)I"⟩ "WindingRaster", Cond.methodLinkNest "WindingRaster" 161 ⟨"WindingRaster$Run", "of", "(III)I"⟩ "WindingRaster", Cond.methodLinkNest "WindingRaster" 165 ⟨"WindingRaster$RunList", "add", "(I)V"⟩ "WindingRaster", Cond.methodLinkNest "WindingRaster" 168 ⟨"WindingRaster$Run", "lengthOf", "(I)I"⟩ "WindingRaster", Cond.methodLinkNest "WindingRaster" 110 ⟨"WindingRaster$ClipPile", "replace", "(LWindingRaster$RunList;)Z"⟩ "WindingRaster", Cond.methodLinkNest "WindingRaster" 114 ⟨"WindingRaster$ClipPile", "pixelCount", "()I"⟩ "WindingRaster", Cond.methodLinkNest "WindingRaster$ClipPile" 63 ⟨"WindingRaster$Run", "lengthOf", "(I)I"⟩ "WindingRaster", Cond.methodLinkNest "WindingRaster" 118 ⟨"WindingRaster$ClipPile", "push", "()Z"⟩ "WindingRaster", Cond.methodLinkNest "WindingRaster" 124 ⟨"WindingRaster$ClipPile", "pop", "()Z"⟩ "WindingRaster", Cond.methodLinkNest "WindingRaster" 127 ⟨"WindingRaster$ClipPile", "has", "(II)Z"⟩ "WindingRaster", Cond.methodLinkNest "WindingRaster$ClipPile" 53 ⟨"WindingRaster$Run", "rowOf", "(I)I"⟩ "WindingRaster", Cond.methodLinkNest "WindingRaster$ClipPile" 57 ⟨"WindingRaster$Run", "fromOf", "(I)I"⟩ "WindingRaster", Cond.methodLinkNest "WindingRaster$ClipPile" 60 ⟨"WindingRaster$Run", "endOf", "(I)I"⟩ "WindingRaster"]
theorem vwNw_law : ∀ w ∈ vwNw, w ∈ lw_tbl := List.forall_mem_cons.mpr ⟨List.mem_append_right _ (List.mem_of_getElem? (i := 29) rfl), List.forall_mem_cons.mpr ⟨List.mem_append_right _ (List.mem_of_getElem? (i := 37) rfl), List.forall_mem_cons.mpr ⟨List.mem_append_right _ (List.mem_of_getElem? (i := 53) rfl), List.forall_mem_cons.mpr ⟨List.mem_append_right _ (List.mem_of_getElem? (i := 57) rfl), List.forall_mem_cons.mpr ⟨List.mem_append_right _ (List.mem_of_getElem? (i := 62) rfl), List.forall_mem_cons.mpr ⟨List.mem_append_right _ (List.mem_of_getElem? (i := 65) rfl), List.forall_mem_cons.mpr ⟨List.mem_append_right _ (List.mem_of_getElem? (i := 67) rfl), List.forall_mem_cons.mpr ⟨List.mem_append_right _ (List.mem_of_getElem? (i := 79) rfl), List.forall_mem_cons.mpr ⟨List.mem_append_right _ (List.mem_of_getElem? (i := 85) rfl), List.forall_mem_cons.mpr ⟨List.mem_append_right _ (List.mem_of_getElem? (i := 86) rfl), List.forall_mem_cons.mpr ⟨List.mem_append_right _ (List.mem_of_getElem? (i := 88) rfl), List.forall_mem_cons.mpr ⟨List.mem_append_right _ (List.mem_of_getElem? (i := 89) rfl), List.forall_mem_cons.mpr ⟨List.mem_append_right _ (List.mem_of_getElem? (i := 134) rfl), List.forall_mem_cons.mpr ⟨List.mem_append_right _ (List.mem_of_getElem? (i := 138) rfl), List.forall_mem_cons.mpr ⟨List.mem_append_right _ (List.mem_of_getElem? (i := 151) rfl), List.forall_mem_cons.mpr ⟨List.mem_append_right _ (List.mem_of_getElem? (i := 155) rfl), List.forall_mem_cons.mpr ⟨List.mem_append_right _ (List.mem_of_getElem? (i := 164) rfl), List.forall_mem_cons.mpr ⟨List.mem_append_right _ (List.mem_of_getElem? (i := 176) rfl), List.forall_mem_cons.mpr ⟨List.mem_append_right _ (List.mem_of_getElem? (i := 210) rfl), List.forall_mem_cons.mpr ⟨List.mem_append_right _ (List.mem_of_getElem? (i := 214) rfl), List.forall_mem_cons.mpr ⟨List.mem_append_right _ (List.mem_of_getElem? (i := 217) rfl), List.forall_mem_cons.mpr ⟨List.mem_append_right _ (List.mem_of_getElem? (i := 227) rfl), List.forall_mem_cons.mpr ⟨List.mem_append_right _ (List.mem_of_getElem? (i := 230) rfl), List.forall_mem_cons.mpr ⟨List.mem_append_right _ (List.mem_of_getElem? (i := 236) rfl), List.forall_mem_cons.mpr ⟨List.mem_append_right _ (List.mem_of_getElem? (i := 237) rfl), List.forall_mem_cons.mpr ⟨List.mem_append_right _ (List.mem_of_getElem? (i := 245) rfl), List.forall_mem_cons.mpr ⟨List.mem_append_right _ (List.mem_of_getElem? (i := 254) rfl), List.forall_mem_cons.mpr ⟨List.mem_append_right _ (List.mem_of_getElem? (i := 262) rfl), List.forall_mem_cons.mpr ⟨List.mem_append_right _ (List.mem_of_getElem? (i := 266) rfl), List.forall_mem_cons.mpr ⟨List.mem_append_right _ (List.mem_of_getElem? (i := 271) rfl), List.forall_mem_cons.mpr ⟨List.mem_append_right _ (List.mem_of_getElem? (i := 279) rfl), List.forall_mem_cons.mpr ⟨List.mem_append_right _ (List.mem_of_getElem? (i := 291) rfl), List.forall_mem_cons.mpr ⟨List.mem_append_right _ (List.mem_of_getElem? (i := 295) rfl), List.forall_mem_cons.mpr ⟨List.mem_append_right _ (List.mem_of_getElem? (i := 296) rfl), List.forall_mem_cons.mpr ⟨List.mem_append_right _ (List.mem_of_getElem? (i := 297) rfl), fun _ h => absurd h List.not_mem_nil⟩⟩⟩⟩⟩⟩⟩⟩⟩⟩⟩⟩⟩⟩⟩⟩⟩⟩⟩⟩⟩⟩⟩⟩⟩⟩⟩⟩⟩⟩⟩⟩⟩⟩⟩
theorem gIn {c b : Cond} (h : c ∈ vwB) : GoodIn (b :: vwB) (c :: vwB) := fun w hw => by
  have hm : w ∈ vwB := (List.mem_cons.mp hw).elim (fun q => by rw [q]; exact h) id
  exact ⟨List.mem_cons_of_mem _ hm, good_of_word (List.all_eq_true.mp vwB_good w hm)⟩
theorem gInL {c : Cond} (h : c ∈ vwB) : GoodIn lw_tbl (c :: vwB) := fun w hw => by
  have hm : w ∈ vwB := (List.mem_cons.mp hw).elim (fun q => by rw [q]; exact h) id
  exact ⟨vwB_law w hm, good_of_word (List.all_eq_true.mp vwB_good w hm)⟩
theorem vm_0 : Cond.initialized "WindingRasterLaw" ∈ vwB := vwB_t 0 rfl rfl
theorem vm_1 : Cond.initialized "WindingRaster" ∈ vwB := vwB_t 1 rfl rfl
theorem vm_2 : Cond.initialized "java/lang/Math" ∈ vwB := vwB_t 2 rfl rfl
theorem vm_3 : Cond.initialized "java/util/Arrays" ∈ vwB := vwB_t 3 rfl rfl
theorem vm_4 : Cond.initialized "WindingRaster$Outline" ∈ vwB := vwB_t 4 rfl rfl
theorem vm_5 : Cond.initialized "WindingRaster$ClipPile" ∈ vwB := vwB_t 5 rfl rfl
theorem vm_6 : Cond.initialized "WindingRaster$Run" ∈ vwB := vwB_t 6 rfl rfl
theorem vm_7 : Cond.initialized "WindingRaster$RunList" ∈ vwB := vwB_t 7 rfl rfl
theorem vm_8 : Cond.initialized "WindingRasterModel" ∈ vwB := vwB_t 8 rfl rfl
theorem vm_9 : Cond.initialized "java/lang/System" ∈ vwB := vwB_t 9 rfl rfl
theorem vm_10 : Cond.classLink "WindingRasterLaw" 7 "WindingRaster" ∈ vwB := vwB_t 10 rfl rfl
theorem vm_11 : Cond.instantiable "WindingRaster" 7 ∈ vwB := vwB_t 11 rfl rfl
theorem vm_12 : Cond.methodLink "WindingRasterLaw" 15 ⟨"WindingRaster", "<init>", "(II)V"⟩ ∈ vwB := vwB_t 12 rfl rfl
theorem vm_13 : Cond.instanceMethod ⟨"WindingRaster", "<init>", "(II)V"⟩ ∈ vwB := vwB_t 13 rfl rfl
theorem vm_14 : Cond.code ⟨"WindingRaster", "<init>", "(II)V"⟩ prog_1_method_1_code 3 (Option.none : Option Jvm.ClassFile.FieldType) ∈ vwB := vwB_t 14 rfl rfl
theorem vm_15 : Cond.methodLink "WindingRaster" 1 ⟨"java/lang/Object", "<init>", "()V"⟩ ∈ vwB := vwB_t 15 rfl rfl
theorem vm_16 : Cond.instanceMethod ⟨"java/lang/Object", "<init>", "()V"⟩ ∈ vwB := vwB_t 16 rfl rfl
theorem vm_17 : Cond.code ⟨"java/lang/Object", "<init>", "()V"⟩ object_method_1_code 1 (Option.none : Option Jvm.ClassFile.FieldType) ∈ vwB := vwB_t 17 rfl rfl
theorem vm_18 : Cond.methodLink "WindingRaster" 9 ⟨"java/lang/Math", "min", "(II)I"⟩ ∈ vwB := vwB_t 18 rfl rfl
theorem vm_19 : Cond.static ⟨"java/lang/Math", "min", "(II)I"⟩ ∈ vwB := vwB_t 19 rfl rfl
theorem vm_20 : Cond.code ⟨"java/lang/Math", "min", "(II)I"⟩ prog_8_method_69_code 2 (Option.some Jvm.ClassFile.FieldType.int) ∈ vwB := vwB_t 20 rfl rfl
theorem vm_21 : Cond.methodLink "WindingRaster" 15 ⟨"java/lang/Math", "max", "(II)I"⟩ ∈ vwB := vwB_t 21 rfl rfl
theorem vm_22 : Cond.static ⟨"java/lang/Math", "max", "(II)I"⟩ ∈ vwB := vwB_t 22 rfl rfl
theorem vm_23 : Cond.code ⟨"java/lang/Math", "max", "(II)I"⟩ prog_8_method_65_code 2 (Option.some Jvm.ClassFile.FieldType.int) ∈ vwB := vwB_t 23 rfl rfl
theorem vm_24 : Cond.methodLink "WindingRaster" 29 ⟨"java/util/Arrays", "fill", "([II)V"⟩ ∈ vwB := vwB_t 24 rfl rfl
theorem vm_25 : Cond.static ⟨"java/util/Arrays", "fill", "([II)V"⟩ ∈ vwB := vwB_t 25 rfl rfl
theorem vm_26 : Cond.code ⟨"java/util/Arrays", "fill", "([II)V"⟩ prog_10_method_103_code 4 (Option.none : Option Jvm.ClassFile.FieldType) ∈ vwB := vwB_t 26 rfl rfl
theorem vm_27 : Cond.classLink "WindingRaster" 35 "WindingRaster$Outline" ∈ vwB := vwB_t 27 rfl rfl
theorem vm_28 : Cond.instantiable "WindingRaster$Outline" 5 ∈ vwB := vwB_t 28 rfl rfl
theorem vm_29 : Cond.instanceMethod ⟨"WindingRaster$Outline", "<init>", "()V"⟩ ∈ vwB := vwB_t 30 rfl rfl
theorem vm_30 : Cond.code ⟨"WindingRaster$Outline", "<init>", "()V"⟩ prog_3_method_1_code 1 (Option.none : Option Jvm.ClassFile.FieldType) ∈ vwB := vwB_t 31 rfl rfl
theorem vm_31 : Cond.methodLink "WindingRaster$Outline" 3 ⟨"java/lang/Object", "<init>", "()V"⟩ ∈ vwB := vwB_t 32 rfl rfl
theorem vm_32 : Cond.fieldLink "WindingRaster$Outline" 9 "WindingRaster$Outline" "xs" "[I" ∈ vwB := vwB_t 33 rfl rfl
theorem vm_33 : Cond.fieldLink "WindingRaster$Outline" 15 "WindingRaster$Outline" "ys" "[I" ∈ vwB := vwB_t 34 rfl rfl
theorem vm_34 : Cond.fieldLink "WindingRaster$Outline" 18 "WindingRaster$Outline" "next" "[I" ∈ vwB := vwB_t 35 rfl rfl
theorem vm_35 : Cond.fieldLink "WindingRaster$Outline" 21 "WindingRaster$Outline" "size" "I" ∈ vwB := vwB_t 36 rfl rfl
theorem vm_36 : Cond.fieldLink "WindingRaster$Outline" 25 "WindingRaster$Outline" "lineStart" "I" ∈ vwB := vwB_t 38 rfl rfl
theorem vm_37 : Cond.laysFinal "WindingRaster$Outline" "WindingRaster$Outline" "xs" "[I" ∈ vwB := vwB_t 39 rfl rfl
theorem vm_38 : Cond.laysFinal "WindingRaster$Outline" "WindingRaster$Outline" "ys" "[I" ∈ vwB := vwB_t 41 rfl rfl
theorem vm_39 : Cond.laysFinal "WindingRaster$Outline" "WindingRaster$Outline" "next" "[I" ∈ vwB := vwB_t 43 rfl rfl
theorem vm_40 : Cond.lays "WindingRaster$Outline" "WindingRaster$Outline" "size" "I" ∈ vwB := vwB_t 45 rfl rfl
theorem vm_41 : Cond.lays "WindingRaster$Outline" "WindingRaster$Outline" "lineStart" "I" ∈ vwB := vwB_t 47 rfl rfl
theorem vm_42 : Cond.arrayClass Jvm.ClassFile.FieldType.int ∈ vwB := vwB_t 50 rfl rfl
theorem vm_43 : Cond.classLink "WindingRaster" 42 "WindingRaster$ClipPile" ∈ vwB := vwB_t 51 rfl rfl
theorem vm_44 : Cond.instantiable "WindingRaster$ClipPile" 4 ∈ vwB := vwB_t 52 rfl rfl
theorem vm_45 : Cond.instanceMethod ⟨"WindingRaster$ClipPile", "<init>", "(II)V"⟩ ∈ vwB := vwB_t 54 rfl rfl
theorem vm_46 : Cond.code ⟨"WindingRaster$ClipPile", "<init>", "(II)V"⟩ prog_2_method_1_code 4 (Option.none : Option Jvm.ClassFile.FieldType) ∈ vwB := vwB_t 55 rfl rfl
theorem vm_47 : Cond.methodLink "WindingRaster$ClipPile" 3 ⟨"java/lang/Object", "<init>", "()V"⟩ ∈ vwB := vwB_t 56 rfl rfl
theorem vm_48 : Cond.static ⟨"WindingRaster$Run", "of", "(III)I"⟩ ∈ vwB := vwB_t 58 rfl rfl
theorem vm_49 : Cond.code ⟨"WindingRaster$Run", "of", "(III)I"⟩ prog_4_method_2_code 3 (Option.some Jvm.ClassFile.FieldType.int) ∈ vwB := vwB_t 59 rfl rfl
theorem vm_50 : Cond.methodLink "WindingRaster$ClipPile" 24 ⟨"java/lang/Math", "min", "(II)I"⟩ ∈ vwB := vwB_t 60 rfl rfl
theorem vm_51 : Cond.fieldLink "WindingRaster$ClipPile" 9 "WindingRaster$ClipPile" "items" "[I" ∈ vwB := vwB_t 61 rfl rfl
theorem vm_52 : Cond.fieldLink "WindingRaster$ClipPile" 15 "WindingRaster$ClipPile" "starts" "[I" ∈ vwB := vwB_t 63 rfl rfl
theorem vm_53 : Cond.fieldLink "WindingRaster$ClipPile" 34 "WindingRaster$ClipPile" "saved" "I" ∈ vwB := vwB_t 64 rfl rfl
theorem vm_54 : Cond.fieldLink "WindingRaster$ClipPile" 30 "WindingRaster$ClipPile" "end" "I" ∈ vwB := vwB_t 66 rfl rfl
theorem vm_55 : Cond.laysFinal "WindingRaster$ClipPile" "WindingRaster$ClipPile" "items" "[I" ∈ vwB := vwB_t 68 rfl rfl
theorem vm_56 : Cond.laysFinal "WindingRaster$ClipPile" "WindingRaster$ClipPile" "starts" "[I" ∈ vwB := vwB_t 70 rfl rfl
theorem vm_57 : Cond.lays "WindingRaster$ClipPile" "WindingRaster$ClipPile" "saved" "I" ∈ vwB := vwB_t 72 rfl rfl
theorem vm_58 : Cond.lays "WindingRaster$ClipPile" "WindingRaster$ClipPile" "end" "I" ∈ vwB := vwB_t 74 rfl rfl
theorem vm_59 : Cond.classLink "WindingRaster" 54 "WindingRaster$RunList" ∈ vwB := vwB_t 77 rfl rfl
theorem vm_60 : Cond.instantiable "WindingRaster$RunList" 2 ∈ vwB := vwB_t 78 rfl rfl
theorem vm_61 : Cond.instanceMethod ⟨"WindingRaster$RunList", "<init>", "(I)V"⟩ ∈ vwB := vwB_t 80 rfl rfl
theorem vm_62 : Cond.code ⟨"WindingRaster$RunList", "<init>", "(I)V"⟩ prog_5_method_1_code 2 (Option.none : Option Jvm.ClassFile.FieldType) ∈ vwB := vwB_t 81 rfl rfl
theorem vm_63 : Cond.methodLink "WindingRaster$RunList" 1 ⟨"java/lang/Object", "<init>", "()V"⟩ ∈ vwB := vwB_t 82 rfl rfl
theorem vm_64 : Cond.methodLink "WindingRaster$RunList" 7 ⟨"java/lang/Math", "max", "(II)I"⟩ ∈ vwB := vwB_t 83 rfl rfl
theorem vm_65 : Cond.fieldLink "WindingRaster$RunList" 13 "WindingRaster$RunList" "items" "[I" ∈ vwB := vwB_t 84 rfl rfl
theorem vm_66 : Cond.fieldLink "WindingRaster$RunList" 19 "WindingRaster$RunList" "size" "I" ∈ vwB := vwB_t 87 rfl rfl
theorem vm_67 : Cond.laysFinal "WindingRaster$RunList" "WindingRaster$RunList" "items" "[I" ∈ vwB := vwB_t 90 rfl rfl
theorem vm_68 : Cond.lays "WindingRaster$RunList" "WindingRaster$RunList" "size" "I" ∈ vwB := vwB_t 92 rfl rfl
theorem vm_69 : Cond.fieldLink "WindingRaster" 18 "WindingRaster" "columns" "I" ∈ vwB := vwB_t 95 rfl rfl
theorem vm_70 : Cond.fieldLink "WindingRaster" 22 "WindingRaster" "rows" "I" ∈ vwB := vwB_t 96 rfl rfl
theorem vm_71 : Cond.fieldLink "WindingRaster" 25 "WindingRaster" "grays" "[I" ∈ vwB := vwB_t 97 rfl rfl
theorem vm_72 : Cond.fieldLink "WindingRaster" 38 "WindingRaster" "outline" "LWindingRaster$Outline;" ∈ vwB := vwB_t 98 rfl rfl
theorem vm_73 : Cond.fieldLink "WindingRaster" 47 "WindingRaster" "clips" "LWindingRaster$ClipPile;" ∈ vwB := vwB_t 99 rfl rfl
theorem vm_74 : Cond.fieldLink "WindingRaster" 51 "WindingRaster" "windings" "[I" ∈ vwB := vwB_t 100 rfl rfl
theorem vm_75 : Cond.fieldLink "WindingRaster" 59 "WindingRaster" "pieces" "LWindingRaster$RunList;" ∈ vwB := vwB_t 101 rfl rfl
theorem vm_76 : Cond.laysFinal "WindingRaster" "WindingRaster" "columns" "I" ∈ vwB := vwB_t 102 rfl rfl
theorem vm_77 : Cond.laysFinal "WindingRaster" "WindingRaster" "rows" "I" ∈ vwB := vwB_t 104 rfl rfl
theorem vm_78 : Cond.laysFinal "WindingRaster" "WindingRaster" "grays" "[I" ∈ vwB := vwB_t 106 rfl rfl
theorem vm_79 : Cond.laysFinal "WindingRaster" "WindingRaster" "outline" "LWindingRaster$Outline;" ∈ vwB := vwB_t 108 rfl rfl
theorem vm_80 : Cond.laysFinal "WindingRaster" "WindingRaster" "clips" "LWindingRaster$ClipPile;" ∈ vwB := vwB_t 110 rfl rfl
theorem vm_81 : Cond.laysFinal "WindingRaster" "WindingRaster" "windings" "[I" ∈ vwB := vwB_t 112 rfl rfl
theorem vm_82 : Cond.laysFinal "WindingRaster" "WindingRaster" "pieces" "LWindingRaster$RunList;" ∈ vwB := vwB_t 114 rfl rfl
theorem vm_83 : Cond.methodLink "WindingRasterLaw" 21 ⟨"WindingRaster", "columns", "()I"⟩ ∈ vwB := vwB_t 117 rfl rfl
theorem vm_84 : Cond.instanceMethod ⟨"WindingRaster", "columns", "()I"⟩ ∈ vwB := vwB_t 118 rfl rfl
theorem vm_85 : Cond.selects "WindingRaster" ⟨"WindingRaster", "columns", "()I"⟩ ⟨"WindingRaster", "columns", "()I"⟩ ∈ vwB := vwB_t 119 rfl rfl
theorem vm_86 : Cond.code ⟨"WindingRaster", "columns", "()I"⟩ prog_1_method_2_code 1 (Option.some Jvm.ClassFile.FieldType.int) ∈ vwB := vwB_t 120 rfl rfl
theorem vm_87 : Cond.methodLink "WindingRasterLaw" 26 ⟨"WindingRaster", "rows", "()I"⟩ ∈ vwB := vwB_t 121 rfl rfl
theorem vm_88 : Cond.instanceMethod ⟨"WindingRaster", "rows", "()I"⟩ ∈ vwB := vwB_t 122 rfl rfl
theorem vm_89 : Cond.selects "WindingRaster" ⟨"WindingRaster", "rows", "()I"⟩ ⟨"WindingRaster", "rows", "()I"⟩ ∈ vwB := vwB_t 123 rfl rfl
theorem vm_90 : Cond.code ⟨"WindingRaster", "rows", "()I"⟩ prog_1_method_3_code 1 (Option.some Jvm.ClassFile.FieldType.int) ∈ vwB := vwB_t 124 rfl rfl
theorem vm_91 : Cond.methodLink "WindingRasterLaw" 30 ⟨"WindingRaster", "move", "(II)I"⟩ ∈ vwB := vwB_t 125 rfl rfl
theorem vm_92 : Cond.instanceMethod ⟨"WindingRaster", "move", "(II)I"⟩ ∈ vwB := vwB_t 126 rfl rfl
theorem vm_93 : Cond.selects "WindingRaster" ⟨"WindingRaster", "move", "(II)I"⟩ ⟨"WindingRaster", "move", "(II)I"⟩ ∈ vwB := vwB_t 127 rfl rfl
theorem vm_94 : Cond.code ⟨"WindingRaster", "move", "(II)I"⟩ prog_1_method_4_code 3 (Option.some Jvm.ClassFile.FieldType.int) ∈ vwB := vwB_t 128 rfl rfl
theorem vm_95 : Cond.methodLink "WindingRaster" 63 ⟨"WindingRaster", "isPlace", "(I)Z"⟩ ∈ vwB := vwB_t 129 rfl rfl
theorem vm_96 : Cond.static ⟨"WindingRaster", "isPlace", "(I)Z"⟩ ∈ vwB := vwB_t 130 rfl rfl
theorem vm_97 : Cond.code ⟨"WindingRaster", "isPlace", "(I)Z"⟩ prog_1_method_18_code 1 (Option.some Jvm.ClassFile.FieldType.boolean) ∈ vwB := vwB_t 131 rfl rfl
theorem vm_98 : Cond.constant "WindingRaster" 137 (-536870912 : Int32) ∈ vwB := vwB_t 132 rfl rfl
theorem vm_99 : Cond.constant "WindingRaster" 138 (536870912 : Int32) ∈ vwB := vwB_t 133 rfl rfl
theorem vm_100 : Cond.instanceMethod ⟨"WindingRaster$Outline", "isFull", "()Z"⟩ ∈ vwB := vwB_t 136 rfl rfl
theorem vm_101 : Cond.code ⟨"WindingRaster$Outline", "isFull", "()Z"⟩ prog_3_method_2_code 1 (Option.some Jvm.ClassFile.FieldType.boolean) ∈ vwB := vwB_t 137 rfl rfl
theorem vm_102 : Cond.instanceMethod ⟨"WindingRaster$Outline", "begin", "(II)V"⟩ ∈ vwB := vwB_t 140 rfl rfl
theorem vm_103 : Cond.code ⟨"WindingRaster$Outline", "begin", "(II)V"⟩ prog_3_method_4_code 3 (Option.none : Option Jvm.ClassFile.FieldType) ∈ vwB := vwB_t 141 rfl rfl
theorem vm_104 : Cond.methodLink "WindingRaster$Outline" 28 ⟨"WindingRaster$Outline", "addPoint", "(II)V"⟩ ∈ vwB := vwB_t 142 rfl rfl
theorem vm_105 : Cond.instanceMethod ⟨"WindingRaster$Outline", "addPoint", "(II)V"⟩ ∈ vwB := vwB_t 144 rfl rfl
theorem vm_106 : Cond.code ⟨"WindingRaster$Outline", "addPoint", "(II)V"⟩ prog_3_method_6_code 3 (Option.none : Option Jvm.ClassFile.FieldType) ∈ vwB := vwB_t 145 rfl rfl
theorem vm_107 : Cond.methodLink "WindingRaster$Outline" 36 ⟨"WindingRaster$Outline", "isFull", "()Z"⟩ ∈ vwB := vwB_t 146 rfl rfl
theorem vm_108 : Cond.methodLink "WindingRasterLaw" 35 ⟨"WindingRaster", "line", "(II)I"⟩ ∈ vwB := vwB_t 147 rfl rfl
theorem vm_109 : Cond.instanceMethod ⟨"WindingRaster", "line", "(II)I"⟩ ∈ vwB := vwB_t 148 rfl rfl
theorem vm_110 : Cond.selects "WindingRaster" ⟨"WindingRaster", "line", "(II)I"⟩ ⟨"WindingRaster", "line", "(II)I"⟩ ∈ vwB := vwB_t 149 rfl rfl
theorem vm_111 : Cond.code ⟨"WindingRaster", "line", "(II)I"⟩ prog_1_method_5_code 3 (Option.some Jvm.ClassFile.FieldType.int) ∈ vwB := vwB_t 150 rfl rfl
theorem vm_112 : Cond.instanceMethod ⟨"WindingRaster$Outline", "hasLine", "()Z"⟩ ∈ vwB := vwB_t 153 rfl rfl
theorem vm_113 : Cond.code ⟨"WindingRaster$Outline", "hasLine", "()Z"⟩ prog_3_method_3_code 1 (Option.some Jvm.ClassFile.FieldType.boolean) ∈ vwB := vwB_t 154 rfl rfl
theorem vm_114 : Cond.instanceMethod ⟨"WindingRaster$Outline", "goOn", "(II)V"⟩ ∈ vwB := vwB_t 157 rfl rfl
theorem vm_115 : Cond.code ⟨"WindingRaster$Outline", "goOn", "(II)V"⟩ prog_3_method_5_code 3 (Option.none : Option Jvm.ClassFile.FieldType) ∈ vwB := vwB_t 158 rfl rfl
theorem vm_116 : Cond.methodLink "WindingRaster$Outline" 32 ⟨"WindingRaster$Outline", "hasLine", "()Z"⟩ ∈ vwB := vwB_t 159 rfl rfl
theorem vm_117 : Cond.methodLink "WindingRasterLaw" 39 ⟨"WindingRaster", "clear", "()I"⟩ ∈ vwB := vwB_t 160 rfl rfl
theorem vm_118 : Cond.instanceMethod ⟨"WindingRaster", "clear", "()I"⟩ ∈ vwB := vwB_t 161 rfl rfl
theorem vm_119 : Cond.selects "WindingRaster" ⟨"WindingRaster", "clear", "()I"⟩ ⟨"WindingRaster", "clear", "()I"⟩ ∈ vwB := vwB_t 162 rfl rfl
theorem vm_120 : Cond.code ⟨"WindingRaster", "clear", "()I"⟩ prog_1_method_6_code 2 (Option.some Jvm.ClassFile.FieldType.int) ∈ vwB := vwB_t 163 rfl rfl
theorem vm_121 : Cond.instanceMethod ⟨"WindingRaster$Outline", "forget", "()V"⟩ ∈ vwB := vwB_t 166 rfl rfl
theorem vm_122 : Cond.code ⟨"WindingRaster$Outline", "forget", "()V"⟩ prog_3_method_7_code 1 (Option.none : Option Jvm.ClassFile.FieldType) ∈ vwB := vwB_t 167 rfl rfl
theorem vm_123 : Cond.methodLink "WindingRasterLaw" 43 ⟨"WindingRaster", "winding", "(II)I"⟩ ∈ vwB := vwB_t 168 rfl rfl
theorem vm_124 : Cond.instanceMethod ⟨"WindingRaster", "winding", "(II)I"⟩ ∈ vwB := vwB_t 169 rfl rfl
theorem vm_125 : Cond.selects "WindingRaster" ⟨"WindingRaster", "winding", "(II)I"⟩ ⟨"WindingRaster", "winding", "(II)I"⟩ ∈ vwB := vwB_t 170 rfl rfl
theorem vm_126 : Cond.code ⟨"WindingRaster", "winding", "(II)I"⟩ prog_1_method_7_code 3 (Option.some Jvm.ClassFile.FieldType.int) ∈ vwB := vwB_t 171 rfl rfl
theorem vm_127 : Cond.methodLink "WindingRaster" 86 ⟨"WindingRaster", "hasPixel", "(II)Z"⟩ ∈ vwB := vwB_t 172 rfl rfl
theorem vm_128 : Cond.instanceMethod ⟨"WindingRaster", "hasPixel", "(II)Z"⟩ ∈ vwB := vwB_t 174 rfl rfl
theorem vm_129 : Cond.code ⟨"WindingRaster", "hasPixel", "(II)Z"⟩ prog_1_method_22_code 3 (Option.some Jvm.ClassFile.FieldType.boolean) ∈ vwB := vwB_t 175 rfl rfl
theorem vm_130 : Cond.instanceMethod ⟨"WindingRaster$Outline", "windingAt", "(II)I"⟩ ∈ vwB := vwB_t 178 rfl rfl
theorem vm_131 : Cond.code ⟨"WindingRaster$Outline", "windingAt", "(II)I"⟩ prog_3_method_8_code 7 (Option.some Jvm.ClassFile.FieldType.int) ∈ vwB := vwB_t 179 rfl rfl
theorem vm_132 : Cond.methodLink "WindingRaster$Outline" 39 ⟨"WindingRaster$Outline", "centreOf", "(I)I"⟩ ∈ vwB := vwB_t 180 rfl rfl
theorem vm_133 : Cond.static ⟨"WindingRaster$Outline", "centreOf", "(I)I"⟩ ∈ vwB := vwB_t 181 rfl rfl
theorem vm_134 : Cond.code ⟨"WindingRaster$Outline", "centreOf", "(I)I"⟩ prog_3_method_10_code 1 (Option.some Jvm.ClassFile.FieldType.int) ∈ vwB := vwB_t 182 rfl rfl
theorem vm_135 : Cond.constant "WindingRaster$Outline" 61 (32768 : Int32) ∈ vwB := vwB_t 183 rfl rfl
theorem vm_136 : Cond.methodLink "WindingRaster$Outline" 43 ⟨"WindingRaster$Outline", "stepAt", "(II)I"⟩ ∈ vwB := vwB_t 184 rfl rfl
theorem vm_137 : Cond.instanceMethod ⟨"WindingRaster$Outline", "stepAt", "(II)I"⟩ ∈ vwB := vwB_t 186 rfl rfl
theorem vm_138 : Cond.code ⟨"WindingRaster$Outline", "stepAt", "(II)I"⟩ prog_3_method_11_code 5 (Option.some Jvm.ClassFile.FieldType.int) ∈ vwB := vwB_t 187 rfl rfl
theorem vm_139 : Cond.methodLink "WindingRaster$Outline" 47 ⟨"WindingRaster$Outline", "firstColumn", "(II)I"⟩ ∈ vwB := vwB_t 188 rfl rfl
theorem vm_140 : Cond.instanceMethod ⟨"WindingRaster$Outline", "firstColumn", "(II)I"⟩ ∈ vwB := vwB_t 190 rfl rfl
theorem vm_141 : Cond.code ⟨"WindingRaster$Outline", "firstColumn", "(II)I"⟩ prog_3_method_12_code 13 (Option.some Jvm.ClassFile.FieldType.int) ∈ vwB := vwB_t 191 rfl rfl
theorem vm_142 : Cond.methodLink "WindingRaster$Outline" 62 ⟨"java/lang/Math", "floorDiv", "(JJ)J"⟩ ∈ vwB := vwB_t 192 rfl rfl
theorem vm_143 : Cond.static ⟨"java/lang/Math", "floorDiv", "(JJ)J"⟩ ∈ vwB := vwB_t 193 rfl rfl
theorem vm_144 : Cond.code ⟨"java/lang/Math", "floorDiv", "(JJ)J"⟩ prog_8_method_49_code 6 (Option.some Jvm.ClassFile.FieldType.long) ∈ vwB := vwB_t 194 rfl rfl
theorem vm_145 : Cond.constantLong "WindingRaster$Outline" 66 (32768 : Int64) ∈ vwB := vwB_t 195 rfl rfl
theorem vm_146 : Cond.methodLink "WindingRasterLaw" 47 ⟨"WindingRaster", "fill", "(II)I"⟩ ∈ vwB := vwB_t 196 rfl rfl
theorem vm_147 : Cond.instanceMethod ⟨"WindingRaster", "fill", "(II)I"⟩ ∈ vwB := vwB_t 197 rfl rfl
theorem vm_148 : Cond.selects "WindingRaster" ⟨"WindingRaster", "fill", "(II)I"⟩ ⟨"WindingRaster", "fill", "(II)I"⟩ ∈ vwB := vwB_t 198 rfl rfl
theorem vm_149 : Cond.code ⟨"WindingRaster", "fill", "(II)I"⟩ prog_1_method_8_code 3 (Option.some Jvm.ClassFile.FieldType.int) ∈ vwB := vwB_t 199 rfl rfl
theorem vm_150 : Cond.methodLink "WindingRaster" 93 ⟨"WindingRaster", "isRule", "(I)Z"⟩ ∈ vwB := vwB_t 200 rfl rfl
theorem vm_151 : Cond.static ⟨"WindingRaster", "isRule", "(I)Z"⟩ ∈ vwB := vwB_t 201 rfl rfl
theorem vm_152 : Cond.code ⟨"WindingRaster", "isRule", "(I)Z"⟩ prog_1_method_19_code 1 (Option.some Jvm.ClassFile.FieldType.boolean) ∈ vwB := vwB_t 202 rfl rfl
theorem vm_153 : Cond.methodLink "WindingRaster" 96 ⟨"WindingRaster", "isGray", "(I)Z"⟩ ∈ vwB := vwB_t 203 rfl rfl
theorem vm_154 : Cond.static ⟨"WindingRaster", "isGray", "(I)Z"⟩ ∈ vwB := vwB_t 204 rfl rfl
theorem vm_155 : Cond.code ⟨"WindingRaster", "isGray", "(I)Z"⟩ prog_1_method_20_code 1 (Option.some Jvm.ClassFile.FieldType.boolean) ∈ vwB := vwB_t 205 rfl rfl
theorem vm_156 : Cond.methodLink "WindingRaster" 99 ⟨"WindingRaster", "cutClip", "(I)V"⟩ ∈ vwB := vwB_t 206 rfl rfl
theorem vm_157 : Cond.instanceMethod ⟨"WindingRaster", "cutClip", "(I)V"⟩ ∈ vwB := vwB_t 208 rfl rfl
theorem vm_158 : Cond.code ⟨"WindingRaster", "cutClip", "(I)V"⟩ prog_1_method_23_code 6 (Option.none : Option Jvm.ClassFile.FieldType) ∈ vwB := vwB_t 209 rfl rfl
theorem vm_159 : Cond.instanceMethod ⟨"WindingRaster$ClipPile", "start", "()I"⟩ ∈ vwB := vwB_t 212 rfl rfl
theorem vm_160 : Cond.code ⟨"WindingRaster$ClipPile", "start", "()I"⟩ prog_2_method_2_code 1 (Option.some Jvm.ClassFile.FieldType.int) ∈ vwB := vwB_t 213 rfl rfl
theorem vm_161 : Cond.static ⟨"WindingRaster$Run", "rowOf", "(I)I"⟩ ∈ vwB := vwB_t 215 rfl rfl
theorem vm_162 : Cond.code ⟨"WindingRaster$Run", "rowOf", "(I)I"⟩ prog_4_method_3_code 1 (Option.some Jvm.ClassFile.FieldType.int) ∈ vwB := vwB_t 216 rfl rfl
theorem vm_163 : Cond.instanceMethod ⟨"WindingRaster$Outline", "windRow", "(I[I)Z"⟩ ∈ vwB := vwB_t 219 rfl rfl
theorem vm_164 : Cond.code ⟨"WindingRaster$Outline", "windRow", "(I[I)Z"⟩ prog_3_method_9_code 8 (Option.some Jvm.ClassFile.FieldType.boolean) ∈ vwB := vwB_t 220 rfl rfl
theorem vm_165 : Cond.methodLink "WindingRaster$Outline" 50 ⟨"java/util/Arrays", "fill", "([II)V"⟩ ∈ vwB := vwB_t 221 rfl rfl
theorem vm_166 : Cond.methodLink "WindingRaster$Outline" 56 ⟨"java/lang/Math", "max", "(II)I"⟩ ∈ vwB := vwB_t 222 rfl rfl
theorem vm_167 : Cond.methodLink "WindingRaster" 149 ⟨"WindingRaster", "cutRun", "(II)V"⟩ ∈ vwB := vwB_t 223 rfl rfl
theorem vm_168 : Cond.instanceMethod ⟨"WindingRaster", "cutRun", "(II)V"⟩ ∈ vwB := vwB_t 225 rfl rfl
theorem vm_169 : Cond.code ⟨"WindingRaster", "cutRun", "(II)V"⟩ prog_1_method_24_code 8 (Option.none : Option Jvm.ClassFile.FieldType) ∈ vwB := vwB_t 226 rfl rfl
theorem vm_170 : Cond.static ⟨"WindingRaster$Run", "endOf", "(I)I"⟩ ∈ vwB := vwB_t 228 rfl rfl
theorem vm_171 : Cond.code ⟨"WindingRaster$Run", "endOf", "(I)I"⟩ prog_4_method_5_code 1 (Option.some Jvm.ClassFile.FieldType.int) ∈ vwB := vwB_t 229 rfl rfl
theorem vm_172 : Cond.static ⟨"WindingRaster$Run", "fromOf", "(I)I"⟩ ∈ vwB := vwB_t 231 rfl rfl
theorem vm_173 : Cond.code ⟨"WindingRaster$Run", "fromOf", "(I)I"⟩ prog_4_method_4_code 1 (Option.some Jvm.ClassFile.FieldType.int) ∈ vwB := vwB_t 232 rfl rfl
theorem vm_174 : Cond.methodLink "WindingRaster" 158 ⟨"WindingRaster", "isInside", "(II)Z"⟩ ∈ vwB := vwB_t 233 rfl rfl
theorem vm_175 : Cond.static ⟨"WindingRaster", "isInside", "(II)Z"⟩ ∈ vwB := vwB_t 234 rfl rfl
theorem vm_176 : Cond.code ⟨"WindingRaster", "isInside", "(II)Z"⟩ prog_1_method_21_code 2 (Option.some Jvm.ClassFile.FieldType.boolean) ∈ vwB := vwB_t 235 rfl rfl
theorem vm_177 : Cond.instanceMethod ⟨"WindingRaster$RunList", "add", "(I)V"⟩ ∈ vwB := vwB_t 239 rfl rfl
theorem vm_178 : Cond.code ⟨"WindingRaster$RunList", "add", "(I)V"⟩ prog_5_method_2_code 2 (Option.none : Option Jvm.ClassFile.FieldType) ∈ vwB := vwB_t 240 rfl rfl
theorem vm_179 : Cond.methodLink "WindingRaster" 106 ⟨"WindingRaster", "paint", "([IIII)I"⟩ ∈ vwB := vwB_t 241 rfl rfl
theorem vm_180 : Cond.instanceMethod ⟨"WindingRaster", "paint", "([IIII)I"⟩ ∈ vwB := vwB_t 243 rfl rfl
theorem vm_181 : Cond.code ⟨"WindingRaster", "paint", "([IIII)I"⟩ prog_1_method_25_code 10 (Option.some Jvm.ClassFile.FieldType.int) ∈ vwB := vwB_t 244 rfl rfl
theorem vm_182 : Cond.static ⟨"WindingRaster$Run", "lengthOf", "(I)I"⟩ ∈ vwB := vwB_t 246 rfl rfl
theorem vm_183 : Cond.code ⟨"WindingRaster$Run", "lengthOf", "(I)I"⟩ prog_4_method_6_code 1 (Option.some Jvm.ClassFile.FieldType.int) ∈ vwB := vwB_t 247 rfl rfl
theorem vm_184 : Cond.methodLink "WindingRaster$Run" 9 ⟨"WindingRaster$Run", "endOf", "(I)I"⟩ ∈ vwB := vwB_t 248 rfl rfl
theorem vm_185 : Cond.methodLink "WindingRaster$Run" 13 ⟨"WindingRaster$Run", "fromOf", "(I)I"⟩ ∈ vwB := vwB_t 249 rfl rfl
theorem vm_186 : Cond.methodLink "WindingRasterLaw" 51 ⟨"WindingRaster", "clip", "(I)I"⟩ ∈ vwB := vwB_t 250 rfl rfl
theorem vm_187 : Cond.instanceMethod ⟨"WindingRaster", "clip", "(I)I"⟩ ∈ vwB := vwB_t 251 rfl rfl
theorem vm_188 : Cond.selects "WindingRaster" ⟨"WindingRaster", "clip", "(I)I"⟩ ⟨"WindingRaster", "clip", "(I)I"⟩ ∈ vwB := vwB_t 252 rfl rfl
theorem vm_189 : Cond.code ⟨"WindingRaster", "clip", "(I)I"⟩ prog_1_method_9_code 2 (Option.some Jvm.ClassFile.FieldType.int) ∈ vwB := vwB_t 253 rfl rfl
theorem vm_190 : Cond.instanceMethod ⟨"WindingRaster$ClipPile", "replace", "(LWindingRaster$RunList;)Z"⟩ ∈ vwB := vwB_t 256 rfl rfl
theorem vm_191 : Cond.code ⟨"WindingRaster$ClipPile", "replace", "(LWindingRaster$RunList;)Z"⟩ prog_2_method_5_code 2 (Option.some Jvm.ClassFile.FieldType.boolean) ∈ vwB := vwB_t 257 rfl rfl
theorem vm_192 : Cond.methodLink "WindingRaster$ClipPile" 37 ⟨"WindingRaster$ClipPile", "start", "()I"⟩ ∈ vwB := vwB_t 258 rfl rfl
theorem vm_193 : Cond.methodLink "WindingRaster$ClipPile" 41 ⟨"java/lang/System", "arraycopy", "(Ljava/lang/Object;ILjava/lang/Object;II)V"⟩ ∈ vwB := vwB_t 259 rfl rfl
theorem vm_194 : Cond.static ⟨"java/lang/System", "arraycopy", "(Ljava/lang/Object;ILjava/lang/Object;II)V"⟩ ∈ vwB := vwB_t 260 rfl rfl
theorem vm_195 : Cond.native ⟨"java/lang/System", "arraycopy", "(Ljava/lang/Object;ILjava/lang/Object;II)V"⟩ ∈ vwB := vwB_t 261 rfl rfl
theorem vm_196 : Cond.instanceMethod ⟨"WindingRaster$ClipPile", "pixelCount", "()I"⟩ ∈ vwB := vwB_t 264 rfl rfl
theorem vm_197 : Cond.code ⟨"WindingRaster$ClipPile", "pixelCount", "()I"⟩ prog_2_method_7_code 3 (Option.some Jvm.ClassFile.FieldType.int) ∈ vwB := vwB_t 265 rfl rfl
theorem vm_198 : Cond.methodLink "WindingRasterLaw" 56 ⟨"WindingRaster", "save", "()I"⟩ ∈ vwB := vwB_t 267 rfl rfl
theorem vm_199 : Cond.instanceMethod ⟨"WindingRaster", "save", "()I"⟩ ∈ vwB := vwB_t 268 rfl rfl
theorem vm_200 : Cond.selects "WindingRaster" ⟨"WindingRaster", "save", "()I"⟩ ⟨"WindingRaster", "save", "()I"⟩ ∈ vwB := vwB_t 269 rfl rfl
theorem vm_201 : Cond.code ⟨"WindingRaster", "save", "()I"⟩ prog_1_method_10_code 1 (Option.some Jvm.ClassFile.FieldType.int) ∈ vwB := vwB_t 270 rfl rfl
theorem vm_202 : Cond.instanceMethod ⟨"WindingRaster$ClipPile", "push", "()Z"⟩ ∈ vwB := vwB_t 273 rfl rfl
theorem vm_203 : Cond.code ⟨"WindingRaster$ClipPile", "push", "()Z"⟩ prog_2_method_3_code 2 (Option.some Jvm.ClassFile.FieldType.boolean) ∈ vwB := vwB_t 274 rfl rfl
theorem vm_204 : Cond.methodLink "WindingRasterLaw" 60 ⟨"WindingRaster", "restore", "()I"⟩ ∈ vwB := vwB_t 275 rfl rfl
theorem vm_205 : Cond.instanceMethod ⟨"WindingRaster", "restore", "()I"⟩ ∈ vwB := vwB_t 276 rfl rfl
theorem vm_206 : Cond.selects "WindingRaster" ⟨"WindingRaster", "restore", "()I"⟩ ⟨"WindingRaster", "restore", "()I"⟩ ∈ vwB := vwB_t 277 rfl rfl
theorem vm_207 : Cond.code ⟨"WindingRaster", "restore", "()I"⟩ prog_1_method_11_code 1 (Option.some Jvm.ClassFile.FieldType.int) ∈ vwB := vwB_t 278 rfl rfl
theorem vm_208 : Cond.instanceMethod ⟨"WindingRaster$ClipPile", "pop", "()Z"⟩ ∈ vwB := vwB_t 281 rfl rfl
theorem vm_209 : Cond.code ⟨"WindingRaster$ClipPile", "pop", "()Z"⟩ prog_2_method_4_code 1 (Option.some Jvm.ClassFile.FieldType.boolean) ∈ vwB := vwB_t 282 rfl rfl
theorem vm_210 : Cond.methodLink "WindingRasterLaw" 64 ⟨"WindingRaster", "gray", "(II)I"⟩ ∈ vwB := vwB_t 283 rfl rfl
theorem vm_211 : Cond.instanceMethod ⟨"WindingRaster", "gray", "(II)I"⟩ ∈ vwB := vwB_t 284 rfl rfl
theorem vm_212 : Cond.selects "WindingRaster" ⟨"WindingRaster", "gray", "(II)I"⟩ ⟨"WindingRaster", "gray", "(II)I"⟩ ∈ vwB := vwB_t 285 rfl rfl
theorem vm_213 : Cond.code ⟨"WindingRaster", "gray", "(II)I"⟩ prog_1_method_12_code 3 (Option.some Jvm.ClassFile.FieldType.int) ∈ vwB := vwB_t 286 rfl rfl
theorem vm_214 : Cond.methodLink "WindingRasterLaw" 68 ⟨"WindingRaster", "open", "(II)I"⟩ ∈ vwB := vwB_t 287 rfl rfl
theorem vm_215 : Cond.instanceMethod ⟨"WindingRaster", "open", "(II)I"⟩ ∈ vwB := vwB_t 288 rfl rfl
theorem vm_216 : Cond.selects "WindingRaster" ⟨"WindingRaster", "open", "(II)I"⟩ ⟨"WindingRaster", "open", "(II)I"⟩ ∈ vwB := vwB_t 289 rfl rfl
theorem vm_217 : Cond.code ⟨"WindingRaster", "open", "(II)I"⟩ prog_1_method_13_code 3 (Option.some Jvm.ClassFile.FieldType.int) ∈ vwB := vwB_t 290 rfl rfl
theorem vm_218 : Cond.instanceMethod ⟨"WindingRaster$ClipPile", "has", "(II)Z"⟩ ∈ vwB := vwB_t 293 rfl rfl
theorem vm_219 : Cond.code ⟨"WindingRaster$ClipPile", "has", "(II)Z"⟩ prog_2_method_6_code 5 (Option.some Jvm.ClassFile.FieldType.boolean) ∈ vwB := vwB_t 294 rfl rfl
theorem vm_220 : Cond.methodLink "WindingRasterLaw" 72 ⟨"WindingRaster", "pixels", "()I"⟩ ∈ vwB := vwB_t 298 rfl rfl
theorem vm_221 : Cond.instanceMethod ⟨"WindingRaster", "pixels", "()I"⟩ ∈ vwB := vwB_t 299 rfl rfl
theorem vm_222 : Cond.selects "WindingRaster" ⟨"WindingRaster", "pixels", "()I"⟩ ⟨"WindingRaster", "pixels", "()I"⟩ ∈ vwB := vwB_t 300 rfl rfl
theorem vm_223 : Cond.code ⟨"WindingRaster", "pixels", "()I"⟩ prog_1_method_14_code 1 (Option.some Jvm.ClassFile.FieldType.int) ∈ vwB := vwB_t 301 rfl rfl
theorem vm_224 : Cond.methodLink "WindingRasterLaw" 76 ⟨"WindingRaster", "runs", "()I"⟩ ∈ vwB := vwB_t 302 rfl rfl
theorem vm_225 : Cond.instanceMethod ⟨"WindingRaster", "runs", "()I"⟩ ∈ vwB := vwB_t 303 rfl rfl
theorem vm_226 : Cond.selects "WindingRaster" ⟨"WindingRaster", "runs", "()I"⟩ ⟨"WindingRaster", "runs", "()I"⟩ ∈ vwB := vwB_t 304 rfl rfl
theorem vm_227 : Cond.code ⟨"WindingRaster", "runs", "()I"⟩ prog_1_method_15_code 1 (Option.some Jvm.ClassFile.FieldType.int) ∈ vwB := vwB_t 305 rfl rfl
theorem vm_228 : Cond.methodLink "WindingRasterLaw" 80 ⟨"WindingRaster", "count", "(II)I"⟩ ∈ vwB := vwB_t 306 rfl rfl
theorem vm_229 : Cond.instanceMethod ⟨"WindingRaster", "count", "(II)I"⟩ ∈ vwB := vwB_t 307 rfl rfl
theorem vm_230 : Cond.selects "WindingRaster" ⟨"WindingRaster", "count", "(II)I"⟩ ⟨"WindingRaster", "count", "(II)I"⟩ ∈ vwB := vwB_t 308 rfl rfl
theorem vm_231 : Cond.code ⟨"WindingRaster", "count", "(II)I"⟩ prog_1_method_16_code 5 (Option.some Jvm.ClassFile.FieldType.int) ∈ vwB := vwB_t 309 rfl rfl
theorem vm_232 : Cond.methodLink "WindingRasterLaw" 84 ⟨"WindingRaster", "flood", "(I)I"⟩ ∈ vwB := vwB_t 310 rfl rfl
theorem vm_233 : Cond.instanceMethod ⟨"WindingRaster", "flood", "(I)I"⟩ ∈ vwB := vwB_t 311 rfl rfl
theorem vm_234 : Cond.selects "WindingRaster" ⟨"WindingRaster", "flood", "(I)I"⟩ ⟨"WindingRaster", "flood", "(I)I"⟩ ∈ vwB := vwB_t 312 rfl rfl
theorem vm_235 : Cond.code ⟨"WindingRaster", "flood", "(I)I"⟩ prog_1_method_17_code 2 (Option.some Jvm.ClassFile.FieldType.int) ∈ vwB := vwB_t 313 rfl rfl
theorem vm_236 : Cond.methodLink "WindingRasterLaw" 9 ⟨"WindingRasterLaw", "cell", "([II)I"⟩ ∈ vwB := vwB_t 314 rfl rfl
theorem vm_237 : Cond.static ⟨"WindingRasterLaw", "cell", "([II)I"⟩ ∈ vwB := vwB_t 315 rfl rfl
theorem vm_238 : Cond.code ⟨"WindingRasterLaw", "cell", "([II)I"⟩ method_2_code 2 (Option.some Jvm.ClassFile.FieldType.int) ∈ vwB := vwB_t 316 rfl rfl
theorem vm_239 : Cond.classLink "WindingRasterLaw" 18 "WindingRasterModel" ∈ vwB := vwB_t 317 rfl rfl
theorem vm_240 : Cond.instantiable "WindingRasterModel" 11 ∈ vwB := vwB_t 318 rfl rfl
theorem vm_241 : Cond.methodLink "WindingRasterLaw" 20 ⟨"WindingRasterModel", "<init>", "(II)V"⟩ ∈ vwB := vwB_t 319 rfl rfl
theorem vm_242 : Cond.instanceMethod ⟨"WindingRasterModel", "<init>", "(II)V"⟩ ∈ vwB := vwB_t 320 rfl rfl
theorem vm_243 : Cond.code ⟨"WindingRasterModel", "<init>", "(II)V"⟩ prog_7_method_1_code 4 (Option.none : Option Jvm.ClassFile.FieldType) ∈ vwB := vwB_t 321 rfl rfl
theorem vm_244 : Cond.methodLink "WindingRasterModel" 1 ⟨"java/lang/Object", "<init>", "()V"⟩ ∈ vwB := vwB_t 322 rfl rfl
theorem vm_245 : Cond.constant "WindingRasterModel" 7 (65536 : Int32) ∈ vwB := vwB_t 323 rfl rfl
theorem vm_246 : Cond.methodLink "WindingRasterModel" 31 ⟨"WindingRasterModel", "side", "(I)I"⟩ ∈ vwB := vwB_t 324 rfl rfl
theorem vm_247 : Cond.static ⟨"WindingRasterModel", "side", "(I)I"⟩ ∈ vwB := vwB_t 325 rfl rfl
theorem vm_248 : Cond.code ⟨"WindingRasterModel", "side", "(I)I"⟩ prog_7_method_2_code 1 (Option.some Jvm.ClassFile.FieldType.int) ∈ vwB := vwB_t 326 rfl rfl
theorem vm_249 : Cond.fieldLink "WindingRasterModel" 35 "WindingRasterModel" "columns" "I" ∈ vwB := vwB_t 327 rfl rfl
theorem vm_250 : Cond.fieldLink "WindingRasterModel" 39 "WindingRasterModel" "rows" "I" ∈ vwB := vwB_t 328 rfl rfl
theorem vm_251 : Cond.fieldLink "WindingRasterModel" 8 "WindingRasterModel" "grays" "[B" ∈ vwB := vwB_t 329 rfl rfl
theorem vm_252 : Cond.fieldLink "WindingRasterModel" 14 "WindingRasterModel" "masks" "[S" ∈ vwB := vwB_t 330 rfl rfl
theorem vm_253 : Cond.fieldLink "WindingRasterModel" 96 "WindingRasterModel" "saved" "I" ∈ vwB := vwB_t 331 rfl rfl
theorem vm_254 : Cond.fieldLink "WindingRasterModel" 18 "WindingRasterModel" "xs" "[I" ∈ vwB := vwB_t 332 rfl rfl
theorem vm_255 : Cond.fieldLink "WindingRasterModel" 22 "WindingRasterModel" "ys" "[I" ∈ vwB := vwB_t 333 rfl rfl
theorem vm_256 : Cond.fieldLink "WindingRasterModel" 25 "WindingRasterModel" "firsts" "[I" ∈ vwB := vwB_t 334 rfl rfl
theorem vm_257 : Cond.fieldLink "WindingRasterModel" 46 "WindingRasterModel" "points" "I" ∈ vwB := vwB_t 335 rfl rfl
theorem vm_258 : Cond.fieldLink "WindingRasterModel" 28 "WindingRasterModel" "met" "[I" ∈ vwB := vwB_t 336 rfl rfl
theorem vm_259 : Cond.fieldLink "WindingRasterModel" 65 "WindingRasterModel" "meets" "I" ∈ vwB := vwB_t 337 rfl rfl
theorem vm_260 : Cond.laysFinal "WindingRasterModel" "WindingRasterModel" "columns" "I" ∈ vwB := vwB_t 338 rfl rfl
theorem vm_261 : Cond.laysFinal "WindingRasterModel" "WindingRasterModel" "rows" "I" ∈ vwB := vwB_t 340 rfl rfl
theorem vm_262 : Cond.laysFinal "WindingRasterModel" "WindingRasterModel" "grays" "[B" ∈ vwB := vwB_t 342 rfl rfl
theorem vm_263 : Cond.laysFinal "WindingRasterModel" "WindingRasterModel" "masks" "[S" ∈ vwB := vwB_t 344 rfl rfl
theorem vm_264 : Cond.lays "WindingRasterModel" "WindingRasterModel" "saved" "I" ∈ vwB := vwB_t 346 rfl rfl
theorem vm_265 : Cond.laysFinal "WindingRasterModel" "WindingRasterModel" "xs" "[I" ∈ vwB := vwB_t 348 rfl rfl
theorem vm_266 : Cond.laysFinal "WindingRasterModel" "WindingRasterModel" "ys" "[I" ∈ vwB := vwB_t 350 rfl rfl
theorem vm_267 : Cond.laysFinal "WindingRasterModel" "WindingRasterModel" "firsts" "[I" ∈ vwB := vwB_t 352 rfl rfl
theorem vm_268 : Cond.lays "WindingRasterModel" "WindingRasterModel" "points" "I" ∈ vwB := vwB_t 354 rfl rfl
theorem vm_269 : Cond.laysFinal "WindingRasterModel" "WindingRasterModel" "met" "[I" ∈ vwB := vwB_t 356 rfl rfl
theorem vm_270 : Cond.lays "WindingRasterModel" "WindingRasterModel" "meets" "I" ∈ vwB := vwB_t 358 rfl rfl
theorem vm_271 : Cond.arrayClass Jvm.ClassFile.FieldType.byte ∈ vwB := vwB_t 361 rfl rfl
theorem vm_272 : Cond.arrayClass Jvm.ClassFile.FieldType.short ∈ vwB := vwB_t 362 rfl rfl
theorem vm_273 : Cond.methodLink "WindingRasterLaw" 25 ⟨"WindingRasterModel", "columns", "()I"⟩ ∈ vwB := vwB_t 363 rfl rfl
theorem vm_274 : Cond.instanceMethod ⟨"WindingRasterModel", "columns", "()I"⟩ ∈ vwB := vwB_t 364 rfl rfl
theorem vm_275 : Cond.selects "WindingRasterModel" ⟨"WindingRasterModel", "columns", "()I"⟩ ⟨"WindingRasterModel", "columns", "()I"⟩ ∈ vwB := vwB_t 365 rfl rfl
theorem vm_276 : Cond.code ⟨"WindingRasterModel", "columns", "()I"⟩ prog_7_method_3_code 1 (Option.some Jvm.ClassFile.FieldType.int) ∈ vwB := vwB_t 366 rfl rfl
theorem vm_277 : Cond.methodLink "WindingRasterLaw" 29 ⟨"WindingRasterModel", "rows", "()I"⟩ ∈ vwB := vwB_t 367 rfl rfl
theorem vm_278 : Cond.instanceMethod ⟨"WindingRasterModel", "rows", "()I"⟩ ∈ vwB := vwB_t 368 rfl rfl
theorem vm_279 : Cond.selects "WindingRasterModel" ⟨"WindingRasterModel", "rows", "()I"⟩ ⟨"WindingRasterModel", "rows", "()I"⟩ ∈ vwB := vwB_t 369 rfl rfl
theorem vm_280 : Cond.code ⟨"WindingRasterModel", "rows", "()I"⟩ prog_7_method_4_code 1 (Option.some Jvm.ClassFile.FieldType.int) ∈ vwB := vwB_t 370 rfl rfl
theorem vm_281 : Cond.methodLink "WindingRasterLaw" 34 ⟨"WindingRasterModel", "move", "(II)I"⟩ ∈ vwB := vwB_t 371 rfl rfl
theorem vm_282 : Cond.instanceMethod ⟨"WindingRasterModel", "move", "(II)I"⟩ ∈ vwB := vwB_t 372 rfl rfl
theorem vm_283 : Cond.selects "WindingRasterModel" ⟨"WindingRasterModel", "move", "(II)I"⟩ ⟨"WindingRasterModel", "move", "(II)I"⟩ ∈ vwB := vwB_t 373 rfl rfl
theorem vm_284 : Cond.code ⟨"WindingRasterModel", "move", "(II)I"⟩ prog_7_method_7_code 3 (Option.some Jvm.ClassFile.FieldType.int) ∈ vwB := vwB_t 374 rfl rfl
theorem vm_285 : Cond.methodLink "WindingRasterModel" 49 ⟨"WindingRasterModel", "isPlace", "(I)Z"⟩ ∈ vwB := vwB_t 375 rfl rfl
theorem vm_286 : Cond.static ⟨"WindingRasterModel", "isPlace", "(I)Z"⟩ ∈ vwB := vwB_t 376 rfl rfl
theorem vm_287 : Cond.code ⟨"WindingRasterModel", "isPlace", "(I)Z"⟩ prog_7_method_5_code 1 (Option.some Jvm.ClassFile.FieldType.boolean) ∈ vwB := vwB_t 377 rfl rfl
theorem vm_288 : Cond.constantLong "WindingRasterModel" 42 (-536870912 : Int64) ∈ vwB := vwB_t 378 rfl rfl
theorem vm_289 : Cond.constantLong "WindingRasterModel" 44 (536870912 : Int64) ∈ vwB := vwB_t 379 rfl rfl
theorem vm_290 : Cond.methodLink "WindingRasterModel" 53 ⟨"WindingRasterModel", "put", "(III)I"⟩ ∈ vwB := vwB_t 380 rfl rfl
theorem vm_291 : Cond.instanceMethod ⟨"WindingRasterModel", "put", "(III)I"⟩ ∈ vwB := vwB_t 382 rfl rfl
theorem vm_292 : Cond.code ⟨"WindingRasterModel", "put", "(III)I"⟩ prog_7_method_6_code 4 (Option.some Jvm.ClassFile.FieldType.int) ∈ vwB := vwB_t 383 rfl rfl
theorem vm_293 : Cond.methodLink "WindingRasterLaw" 38 ⟨"WindingRasterModel", "line", "(II)I"⟩ ∈ vwB := vwB_t 384 rfl rfl
theorem vm_294 : Cond.instanceMethod ⟨"WindingRasterModel", "line", "(II)I"⟩ ∈ vwB := vwB_t 385 rfl rfl
theorem vm_295 : Cond.selects "WindingRasterModel" ⟨"WindingRasterModel", "line", "(II)I"⟩ ⟨"WindingRasterModel", "line", "(II)I"⟩ ∈ vwB := vwB_t 386 rfl rfl
theorem vm_296 : Cond.code ⟨"WindingRasterModel", "line", "(II)I"⟩ prog_7_method_8_code 3 (Option.some Jvm.ClassFile.FieldType.int) ∈ vwB := vwB_t 387 rfl rfl
theorem vm_297 : Cond.methodLink "WindingRasterLaw" 42 ⟨"WindingRasterModel", "clear", "()I"⟩ ∈ vwB := vwB_t 388 rfl rfl
theorem vm_298 : Cond.instanceMethod ⟨"WindingRasterModel", "clear", "()I"⟩ ∈ vwB := vwB_t 389 rfl rfl
theorem vm_299 : Cond.selects "WindingRasterModel" ⟨"WindingRasterModel", "clear", "()I"⟩ ⟨"WindingRasterModel", "clear", "()I"⟩ ∈ vwB := vwB_t 390 rfl rfl
theorem vm_300 : Cond.code ⟨"WindingRasterModel", "clear", "()I"⟩ prog_7_method_9_code 2 (Option.some Jvm.ClassFile.FieldType.int) ∈ vwB := vwB_t 391 rfl rfl
theorem vm_301 : Cond.methodLink "WindingRasterLaw" 46 ⟨"WindingRasterModel", "winding", "(II)I"⟩ ∈ vwB := vwB_t 392 rfl rfl
theorem vm_302 : Cond.instanceMethod ⟨"WindingRasterModel", "winding", "(II)I"⟩ ∈ vwB := vwB_t 393 rfl rfl
theorem vm_303 : Cond.selects "WindingRasterModel" ⟨"WindingRasterModel", "winding", "(II)I"⟩ ⟨"WindingRasterModel", "winding", "(II)I"⟩ ∈ vwB := vwB_t 394 rfl rfl
theorem vm_304 : Cond.code ⟨"WindingRasterModel", "winding", "(II)I"⟩ prog_7_method_17_code 3 (Option.some Jvm.ClassFile.FieldType.int) ∈ vwB := vwB_t 395 rfl rfl
theorem vm_305 : Cond.methodLink "WindingRasterModel" 75 ⟨"WindingRasterModel", "isPixel", "(II)Z"⟩ ∈ vwB := vwB_t 396 rfl rfl
theorem vm_306 : Cond.instanceMethod ⟨"WindingRasterModel", "isPixel", "(II)Z"⟩ ∈ vwB := vwB_t 398 rfl rfl
theorem vm_307 : Cond.code ⟨"WindingRasterModel", "isPixel", "(II)Z"⟩ prog_7_method_15_code 3 (Option.some Jvm.ClassFile.FieldType.boolean) ∈ vwB := vwB_t 399 rfl rfl
theorem vm_308 : Cond.methodLink "WindingRasterModel" 79 ⟨"WindingRasterModel", "meet", "(I)V"⟩ ∈ vwB := vwB_t 400 rfl rfl
theorem vm_309 : Cond.instanceMethod ⟨"WindingRasterModel", "meet", "(I)V"⟩ ∈ vwB := vwB_t 402 rfl rfl
theorem vm_310 : Cond.code ⟨"WindingRasterModel", "meet", "(I)V"⟩ prog_7_method_12_code 7 (Option.none : Option Jvm.ClassFile.FieldType) ∈ vwB := vwB_t 403 rfl rfl
theorem vm_311 : Cond.methodLink "WindingRasterModel" 61 ⟨"WindingRasterModel", "centre", "(I)J"⟩ ∈ vwB := vwB_t 404 rfl rfl
theorem vm_312 : Cond.static ⟨"WindingRasterModel", "centre", "(I)J"⟩ ∈ vwB := vwB_t 405 rfl rfl
theorem vm_313 : Cond.code ⟨"WindingRasterModel", "centre", "(I)J"⟩ prog_7_method_11_code 1 (Option.some Jvm.ClassFile.FieldType.long) ∈ vwB := vwB_t 406 rfl rfl
theorem vm_314 : Cond.constantLong "WindingRasterModel" 57 (65536 : Int64) ∈ vwB := vwB_t 407 rfl rfl
theorem vm_315 : Cond.constantLong "WindingRasterModel" 59 (32768 : Int64) ∈ vwB := vwB_t 408 rfl rfl
theorem vm_316 : Cond.methodLink "WindingRasterModel" 68 ⟨"WindingRasterModel", "next", "(I)I"⟩ ∈ vwB := vwB_t 409 rfl rfl
theorem vm_317 : Cond.instanceMethod ⟨"WindingRasterModel", "next", "(I)I"⟩ ∈ vwB := vwB_t 411 rfl rfl
theorem vm_318 : Cond.code ⟨"WindingRasterModel", "next", "(I)I"⟩ prog_7_method_10_code 2 (Option.some Jvm.ClassFile.FieldType.int) ∈ vwB := vwB_t 412 rfl rfl
theorem vm_319 : Cond.methodLink "WindingRasterModel" 83 ⟨"WindingRasterModel", "windings", "(II)I"⟩ ∈ vwB := vwB_t 413 rfl rfl
theorem vm_320 : Cond.instanceMethod ⟨"WindingRasterModel", "windings", "(II)I"⟩ ∈ vwB := vwB_t 415 rfl rfl
theorem vm_321 : Cond.code ⟨"WindingRasterModel", "windings", "(II)I"⟩ prog_7_method_14_code 6 (Option.some Jvm.ClassFile.FieldType.int) ∈ vwB := vwB_t 416 rfl rfl
theorem vm_322 : Cond.methodLink "WindingRasterModel" 71 ⟨"WindingRasterModel", "isLeft", "(IJJ)Z"⟩ ∈ vwB := vwB_t 417 rfl rfl
theorem vm_323 : Cond.instanceMethod ⟨"WindingRasterModel", "isLeft", "(IJJ)Z"⟩ ∈ vwB := vwB_t 419 rfl rfl
theorem vm_324 : Cond.code ⟨"WindingRasterModel", "isLeft", "(IJJ)Z"⟩ prog_7_method_13_code 11 (Option.some Jvm.ClassFile.FieldType.boolean) ∈ vwB := vwB_t 420 rfl rfl
theorem vm_325 : Cond.methodLink "WindingRasterLaw" 50 ⟨"WindingRasterModel", "fill", "(II)I"⟩ ∈ vwB := vwB_t 421 rfl rfl
theorem vm_326 : Cond.instanceMethod ⟨"WindingRasterModel", "fill", "(II)I"⟩ ∈ vwB := vwB_t 422 rfl rfl
theorem vm_327 : Cond.selects "WindingRasterModel" ⟨"WindingRasterModel", "fill", "(II)I"⟩ ⟨"WindingRasterModel", "fill", "(II)I"⟩ ∈ vwB := vwB_t 423 rfl rfl
theorem vm_328 : Cond.code ⟨"WindingRasterModel", "fill", "(II)I"⟩ prog_7_method_23_code 6 (Option.some Jvm.ClassFile.FieldType.int) ∈ vwB := vwB_t 424 rfl rfl
theorem vm_329 : Cond.methodLink "WindingRasterModel" 87 ⟨"WindingRasterModel", "at", "(II)I"⟩ ∈ vwB := vwB_t 425 rfl rfl
theorem vm_330 : Cond.static ⟨"WindingRasterModel", "at", "(II)I"⟩ ∈ vwB := vwB_t 426 rfl rfl
theorem vm_331 : Cond.code ⟨"WindingRasterModel", "at", "(II)I"⟩ prog_7_method_16_code 2 (Option.some Jvm.ClassFile.FieldType.int) ∈ vwB := vwB_t 427 rfl rfl
theorem vm_332 : Cond.methodLink "WindingRasterModel" 90 ⟨"WindingRasterModel", "isOpen", "(II)Z"⟩ ∈ vwB := vwB_t 428 rfl rfl
theorem vm_333 : Cond.instanceMethod ⟨"WindingRasterModel", "isOpen", "(II)Z"⟩ ∈ vwB := vwB_t 430 rfl rfl
theorem vm_334 : Cond.code ⟨"WindingRasterModel", "isOpen", "(II)Z"⟩ prog_7_method_19_code 3 (Option.some Jvm.ClassFile.FieldType.boolean) ∈ vwB := vwB_t 431 rfl rfl
theorem vm_335 : Cond.methodLink "WindingRasterModel" 99 ⟨"WindingRasterModel", "isInside", "(II)Z"⟩ ∈ vwB := vwB_t 432 rfl rfl
theorem vm_336 : Cond.static ⟨"WindingRasterModel", "isInside", "(II)Z"⟩ ∈ vwB := vwB_t 433 rfl rfl
theorem vm_337 : Cond.code ⟨"WindingRasterModel", "isInside", "(II)Z"⟩ prog_7_method_18_code 2 (Option.some Jvm.ClassFile.FieldType.boolean) ∈ vwB := vwB_t 434 rfl rfl
theorem vm_338 : Cond.methodLink "WindingRasterLaw" 55 ⟨"WindingRasterModel", "clip", "(I)I"⟩ ∈ vwB := vwB_t 435 rfl rfl
theorem vm_339 : Cond.instanceMethod ⟨"WindingRasterModel", "clip", "(I)I"⟩ ∈ vwB := vwB_t 436 rfl rfl
theorem vm_340 : Cond.selects "WindingRasterModel" ⟨"WindingRasterModel", "clip", "(I)I"⟩ ⟨"WindingRasterModel", "clip", "(I)I"⟩ ∈ vwB := vwB_t 437 rfl rfl
theorem vm_341 : Cond.code ⟨"WindingRasterModel", "clip", "(I)I"⟩ prog_7_method_24_code 4 (Option.some Jvm.ClassFile.FieldType.int) ∈ vwB := vwB_t 438 rfl rfl
theorem vm_342 : Cond.methodLink "WindingRasterModel" 102 ⟨"WindingRasterModel", "setOpen", "(IIZ)V"⟩ ∈ vwB := vwB_t 439 rfl rfl
theorem vm_343 : Cond.instanceMethod ⟨"WindingRasterModel", "setOpen", "(IIZ)V"⟩ ∈ vwB := vwB_t 441 rfl rfl
theorem vm_344 : Cond.code ⟨"WindingRasterModel", "setOpen", "(IIZ)V"⟩ prog_7_method_20_code 5 (Option.none : Option Jvm.ClassFile.FieldType) ∈ vwB := vwB_t 442 rfl rfl
theorem vm_345 : Cond.methodLink "WindingRasterModel" 106 ⟨"WindingRasterModel", "runsTo", "(I)I"⟩ ∈ vwB := vwB_t 443 rfl rfl
theorem vm_346 : Cond.instanceMethod ⟨"WindingRasterModel", "runsTo", "(I)I"⟩ ∈ vwB := vwB_t 445 rfl rfl
theorem vm_347 : Cond.code ⟨"WindingRasterModel", "runsTo", "(I)I"⟩ prog_7_method_22_code 4 (Option.some Jvm.ClassFile.FieldType.int) ∈ vwB := vwB_t 446 rfl rfl
theorem vm_348 : Cond.methodLink "WindingRasterModel" 93 ⟨"WindingRasterModel", "runsOf", "(I)I"⟩ ∈ vwB := vwB_t 447 rfl rfl
theorem vm_349 : Cond.instanceMethod ⟨"WindingRasterModel", "runsOf", "(I)I"⟩ ∈ vwB := vwB_t 449 rfl rfl
theorem vm_350 : Cond.code ⟨"WindingRasterModel", "runsOf", "(I)I"⟩ prog_7_method_21_code 5 (Option.some Jvm.ClassFile.FieldType.int) ∈ vwB := vwB_t 450 rfl rfl
theorem vm_351 : Cond.methodLink "WindingRasterModel" 109 ⟨"WindingRasterModel", "pixels", "()I"⟩ ∈ vwB := vwB_t 451 rfl rfl
theorem vm_352 : Cond.instanceMethod ⟨"WindingRasterModel", "pixels", "()I"⟩ ∈ vwB := vwB_t 452 rfl rfl
theorem vm_353 : Cond.selects "WindingRasterModel" ⟨"WindingRasterModel", "pixels", "()I"⟩ ⟨"WindingRasterModel", "pixels", "()I"⟩ ∈ vwB := vwB_t 453 rfl rfl
theorem vm_354 : Cond.code ⟨"WindingRasterModel", "pixels", "()I"⟩ prog_7_method_29_code 4 (Option.some Jvm.ClassFile.FieldType.int) ∈ vwB := vwB_t 454 rfl rfl
theorem vm_355 : Cond.methodLink "WindingRasterLaw" 59 ⟨"WindingRasterModel", "save", "()I"⟩ ∈ vwB := vwB_t 455 rfl rfl
theorem vm_356 : Cond.instanceMethod ⟨"WindingRasterModel", "save", "()I"⟩ ∈ vwB := vwB_t 456 rfl rfl
theorem vm_357 : Cond.selects "WindingRasterModel" ⟨"WindingRasterModel", "save", "()I"⟩ ⟨"WindingRasterModel", "save", "()I"⟩ ∈ vwB := vwB_t 457 rfl rfl
theorem vm_358 : Cond.code ⟨"WindingRasterModel", "save", "()I"⟩ prog_7_method_25_code 2 (Option.some Jvm.ClassFile.FieldType.int) ∈ vwB := vwB_t 458 rfl rfl
theorem vm_359 : Cond.methodLink "WindingRasterLaw" 63 ⟨"WindingRasterModel", "restore", "()I"⟩ ∈ vwB := vwB_t 459 rfl rfl
theorem vm_360 : Cond.instanceMethod ⟨"WindingRasterModel", "restore", "()I"⟩ ∈ vwB := vwB_t 460 rfl rfl
theorem vm_361 : Cond.selects "WindingRasterModel" ⟨"WindingRasterModel", "restore", "()I"⟩ ⟨"WindingRasterModel", "restore", "()I"⟩ ∈ vwB := vwB_t 461 rfl rfl
theorem vm_362 : Cond.code ⟨"WindingRasterModel", "restore", "()I"⟩ prog_7_method_26_code 1 (Option.some Jvm.ClassFile.FieldType.int) ∈ vwB := vwB_t 462 rfl rfl
theorem vm_363 : Cond.methodLink "WindingRasterLaw" 67 ⟨"WindingRasterModel", "gray", "(II)I"⟩ ∈ vwB := vwB_t 463 rfl rfl
theorem vm_364 : Cond.instanceMethod ⟨"WindingRasterModel", "gray", "(II)I"⟩ ∈ vwB := vwB_t 464 rfl rfl
theorem vm_365 : Cond.selects "WindingRasterModel" ⟨"WindingRasterModel", "gray", "(II)I"⟩ ⟨"WindingRasterModel", "gray", "(II)I"⟩ ∈ vwB := vwB_t 465 rfl rfl
theorem vm_366 : Cond.code ⟨"WindingRasterModel", "gray", "(II)I"⟩ prog_7_method_27_code 3 (Option.some Jvm.ClassFile.FieldType.int) ∈ vwB := vwB_t 466 rfl rfl
theorem vm_367 : Cond.methodLink "WindingRasterLaw" 71 ⟨"WindingRasterModel", "open", "(II)I"⟩ ∈ vwB := vwB_t 467 rfl rfl
theorem vm_368 : Cond.instanceMethod ⟨"WindingRasterModel", "open", "(II)I"⟩ ∈ vwB := vwB_t 468 rfl rfl
theorem vm_369 : Cond.selects "WindingRasterModel" ⟨"WindingRasterModel", "open", "(II)I"⟩ ⟨"WindingRasterModel", "open", "(II)I"⟩ ∈ vwB := vwB_t 469 rfl rfl
theorem vm_370 : Cond.code ⟨"WindingRasterModel", "open", "(II)I"⟩ prog_7_method_28_code 3 (Option.some Jvm.ClassFile.FieldType.int) ∈ vwB := vwB_t 470 rfl rfl
theorem vm_371 : Cond.methodLink "WindingRasterLaw" 75 ⟨"WindingRasterModel", "pixels", "()I"⟩ ∈ vwB := vwB_t 471 rfl rfl
theorem vm_372 : Cond.methodLink "WindingRasterLaw" 79 ⟨"WindingRasterModel", "runs", "()I"⟩ ∈ vwB := vwB_t 472 rfl rfl
theorem vm_373 : Cond.instanceMethod ⟨"WindingRasterModel", "runs", "()I"⟩ ∈ vwB := vwB_t 473 rfl rfl
theorem vm_374 : Cond.selects "WindingRasterModel" ⟨"WindingRasterModel", "runs", "()I"⟩ ⟨"WindingRasterModel", "runs", "()I"⟩ ∈ vwB := vwB_t 474 rfl rfl
theorem vm_375 : Cond.code ⟨"WindingRasterModel", "runs", "()I"⟩ prog_7_method_30_code 1 (Option.some Jvm.ClassFile.FieldType.int) ∈ vwB := vwB_t 475 rfl rfl
theorem vm_376 : Cond.methodLink "WindingRasterLaw" 83 ⟨"WindingRasterModel", "count", "(II)I"⟩ ∈ vwB := vwB_t 476 rfl rfl
theorem vm_377 : Cond.instanceMethod ⟨"WindingRasterModel", "count", "(II)I"⟩ ∈ vwB := vwB_t 477 rfl rfl
theorem vm_378 : Cond.selects "WindingRasterModel" ⟨"WindingRasterModel", "count", "(II)I"⟩ ⟨"WindingRasterModel", "count", "(II)I"⟩ ∈ vwB := vwB_t 478 rfl rfl
theorem vm_379 : Cond.code ⟨"WindingRasterModel", "count", "(II)I"⟩ prog_7_method_31_code 5 (Option.some Jvm.ClassFile.FieldType.int) ∈ vwB := vwB_t 479 rfl rfl
theorem vm_380 : Cond.methodLink "WindingRasterLaw" 87 ⟨"WindingRasterModel", "flood", "(I)I"⟩ ∈ vwB := vwB_t 480 rfl rfl
theorem vm_381 : Cond.instanceMethod ⟨"WindingRasterModel", "flood", "(I)I"⟩ ∈ vwB := vwB_t 481 rfl rfl
theorem vm_382 : Cond.selects "WindingRasterModel" ⟨"WindingRasterModel", "flood", "(I)I"⟩ ⟨"WindingRasterModel", "flood", "(I)I"⟩ ∈ vwB := vwB_t 482 rfl rfl
theorem vm_383 : Cond.code ⟨"WindingRasterModel", "flood", "(I)I"⟩ prog_7_method_32_code 5 (Option.some Jvm.ClassFile.FieldType.int) ∈ vwB := vwB_t 483 rfl rfl
theorem vm_384 : Cond.selects "WindingRaster$Outline" ⟨"WindingRaster$Outline", "isFull", "()Z"⟩ ⟨"WindingRaster$Outline", "isFull", "()Z"⟩ ∈ vwB := vwB_p 0 rfl rfl
theorem vm_385 : Cond.selects "WindingRaster$Outline" ⟨"WindingRaster$Outline", "begin", "(II)V"⟩ ⟨"WindingRaster$Outline", "begin", "(II)V"⟩ ∈ vwB := vwB_p 1 rfl rfl
theorem vm_386 : Cond.selects "WindingRaster$Outline" ⟨"WindingRaster$Outline", "addPoint", "(II)V"⟩ ⟨"WindingRaster$Outline", "addPoint", "(II)V"⟩ ∈ vwB := vwB_p 2 rfl rfl
theorem vm_387 : Cond.selects "WindingRaster$Outline" ⟨"WindingRaster$Outline", "hasLine", "()Z"⟩ ⟨"WindingRaster$Outline", "hasLine", "()Z"⟩ ∈ vwB := vwB_p 3 rfl rfl
theorem vm_388 : Cond.selects "WindingRaster$Outline" ⟨"WindingRaster$Outline", "goOn", "(II)V"⟩ ⟨"WindingRaster$Outline", "goOn", "(II)V"⟩ ∈ vwB := vwB_p 4 rfl rfl
theorem vm_389 : Cond.selects "WindingRaster$Outline" ⟨"WindingRaster$Outline", "forget", "()V"⟩ ⟨"WindingRaster$Outline", "forget", "()V"⟩ ∈ vwB := vwB_p 5 rfl rfl
theorem vm_390 : Cond.selects "WindingRaster" ⟨"WindingRaster", "hasPixel", "(II)Z"⟩ ⟨"WindingRaster", "hasPixel", "(II)Z"⟩ ∈ vwB := vwB_p 6 rfl rfl
theorem vm_391 : Cond.selects "WindingRaster$Outline" ⟨"WindingRaster$Outline", "windingAt", "(II)I"⟩ ⟨"WindingRaster$Outline", "windingAt", "(II)I"⟩ ∈ vwB := vwB_p 7 rfl rfl
theorem vm_392 : Cond.selects "WindingRaster$Outline" ⟨"WindingRaster$Outline", "stepAt", "(II)I"⟩ ⟨"WindingRaster$Outline", "stepAt", "(II)I"⟩ ∈ vwB := vwB_p 8 rfl rfl
theorem vm_393 : Cond.selects "WindingRaster$Outline" ⟨"WindingRaster$Outline", "firstColumn", "(II)I"⟩ ⟨"WindingRaster$Outline", "firstColumn", "(II)I"⟩ ∈ vwB := vwB_p 9 rfl rfl
theorem vm_394 : Cond.selects "WindingRaster" ⟨"WindingRaster", "cutClip", "(I)V"⟩ ⟨"WindingRaster", "cutClip", "(I)V"⟩ ∈ vwB := vwB_p 10 rfl rfl
theorem vm_395 : Cond.selects "WindingRaster$ClipPile" ⟨"WindingRaster$ClipPile", "start", "()I"⟩ ⟨"WindingRaster$ClipPile", "start", "()I"⟩ ∈ vwB := vwB_p 11 rfl rfl
theorem vm_396 : Cond.selects "WindingRaster$Outline" ⟨"WindingRaster$Outline", "windRow", "(I[I)Z"⟩ ⟨"WindingRaster$Outline", "windRow", "(I[I)Z"⟩ ∈ vwB := vwB_p 12 rfl rfl
theorem vm_397 : Cond.selects "WindingRaster" ⟨"WindingRaster", "cutRun", "(II)V"⟩ ⟨"WindingRaster", "cutRun", "(II)V"⟩ ∈ vwB := vwB_p 13 rfl rfl
theorem vm_398 : Cond.selects "WindingRaster$RunList" ⟨"WindingRaster$RunList", "add", "(I)V"⟩ ⟨"WindingRaster$RunList", "add", "(I)V"⟩ ∈ vwB := vwB_p 14 rfl rfl
theorem vm_399 : Cond.selects "WindingRaster" ⟨"WindingRaster", "paint", "([IIII)I"⟩ ⟨"WindingRaster", "paint", "([IIII)I"⟩ ∈ vwB := vwB_p 15 rfl rfl
theorem vm_400 : Cond.selects "WindingRaster$ClipPile" ⟨"WindingRaster$ClipPile", "replace", "(LWindingRaster$RunList;)Z"⟩ ⟨"WindingRaster$ClipPile", "replace", "(LWindingRaster$RunList;)Z"⟩ ∈ vwB := vwB_p 16 rfl rfl
theorem vm_401 : Cond.selects "WindingRaster$ClipPile" ⟨"WindingRaster$ClipPile", "pixelCount", "()I"⟩ ⟨"WindingRaster$ClipPile", "pixelCount", "()I"⟩ ∈ vwB := vwB_p 17 rfl rfl
theorem vm_402 : Cond.selects "WindingRaster$ClipPile" ⟨"WindingRaster$ClipPile", "push", "()Z"⟩ ⟨"WindingRaster$ClipPile", "push", "()Z"⟩ ∈ vwB := vwB_p 18 rfl rfl
theorem vm_403 : Cond.selects "WindingRaster$ClipPile" ⟨"WindingRaster$ClipPile", "pop", "()Z"⟩ ⟨"WindingRaster$ClipPile", "pop", "()Z"⟩ ∈ vwB := vwB_p 19 rfl rfl
theorem vm_404 : Cond.selects "WindingRaster$ClipPile" ⟨"WindingRaster$ClipPile", "has", "(II)Z"⟩ ⟨"WindingRaster$ClipPile", "has", "(II)Z"⟩ ∈ vwB := vwB_p 20 rfl rfl
theorem vm_405 : Cond.selects "WindingRasterModel" ⟨"WindingRasterModel", "put", "(III)I"⟩ ⟨"WindingRasterModel", "put", "(III)I"⟩ ∈ vwB := vwB_p 21 rfl rfl
theorem vm_406 : Cond.selects "WindingRasterModel" ⟨"WindingRasterModel", "isPixel", "(II)Z"⟩ ⟨"WindingRasterModel", "isPixel", "(II)Z"⟩ ∈ vwB := vwB_p 22 rfl rfl
theorem vm_407 : Cond.selects "WindingRasterModel" ⟨"WindingRasterModel", "meet", "(I)V"⟩ ⟨"WindingRasterModel", "meet", "(I)V"⟩ ∈ vwB := vwB_p 23 rfl rfl
theorem vm_408 : Cond.selects "WindingRasterModel" ⟨"WindingRasterModel", "next", "(I)I"⟩ ⟨"WindingRasterModel", "next", "(I)I"⟩ ∈ vwB := vwB_p 24 rfl rfl
theorem vm_409 : Cond.selects "WindingRasterModel" ⟨"WindingRasterModel", "windings", "(II)I"⟩ ⟨"WindingRasterModel", "windings", "(II)I"⟩ ∈ vwB := vwB_p 25 rfl rfl
theorem vm_410 : Cond.selects "WindingRasterModel" ⟨"WindingRasterModel", "isLeft", "(IJJ)Z"⟩ ⟨"WindingRasterModel", "isLeft", "(IJJ)Z"⟩ ∈ vwB := vwB_p 26 rfl rfl
theorem vm_411 : Cond.selects "WindingRasterModel" ⟨"WindingRasterModel", "isOpen", "(II)Z"⟩ ⟨"WindingRasterModel", "isOpen", "(II)Z"⟩ ∈ vwB := vwB_p 27 rfl rfl
theorem vm_412 : Cond.selects "WindingRasterModel" ⟨"WindingRasterModel", "setOpen", "(IIZ)V"⟩ ⟨"WindingRasterModel", "setOpen", "(IIZ)V"⟩ ∈ vwB := vwB_p 28 rfl rfl
theorem vm_413 : Cond.selects "WindingRasterModel" ⟨"WindingRasterModel", "runsTo", "(I)I"⟩ ⟨"WindingRasterModel", "runsTo", "(I)I"⟩ ∈ vwB := vwB_p 29 rfl rfl
theorem vm_414 : Cond.selects "WindingRasterModel" ⟨"WindingRasterModel", "runsOf", "(I)I"⟩ ⟨"WindingRasterModel", "runsOf", "(I)I"⟩ ∈ vwB := vwB_p 30 rfl rfl
theorem vn_0 : Cond.methodLinkNest "WindingRaster" 37 ⟨"WindingRaster$Outline", "<init>", "()V"⟩ "WindingRaster" ∈ vwNw := List.mem_of_getElem? (i := 0) rfl
theorem vn_1 : Cond.fieldLinkNest "WindingRaster" 74 "WindingRaster$Outline" "size" "I" "WindingRaster" ∈ vwNw := List.mem_of_getElem? (i := 1) rfl
theorem vn_2 : Cond.methodLinkNest "WindingRaster" 44 ⟨"WindingRaster$ClipPile", "<init>", "(II)V"⟩ "WindingRaster" ∈ vwNw := List.mem_of_getElem? (i := 2) rfl
theorem vn_3 : Cond.methodLinkNest "WindingRaster$ClipPile" 18 ⟨"WindingRaster$Run", "of", "(III)I"⟩ "WindingRaster" ∈ vwNw := List.mem_of_getElem? (i := 3) rfl
theorem vn_4 : Cond.fieldLinkNest "WindingRaster" 133 "WindingRaster$ClipPile" "items" "[I" "WindingRaster" ∈ vwNw := List.mem_of_getElem? (i := 4) rfl
theorem vn_5 : Cond.fieldLinkNest "WindingRaster" 121 "WindingRaster$ClipPile" "saved" "I" "WindingRaster" ∈ vwNw := List.mem_of_getElem? (i := 5) rfl
theorem vn_6 : Cond.fieldLinkNest "WindingRaster" 130 "WindingRaster$ClipPile" "end" "I" "WindingRaster" ∈ vwNw := List.mem_of_getElem? (i := 6) rfl
theorem vn_7 : Cond.methodLinkNest "WindingRaster" 56 ⟨"WindingRaster$RunList", "<init>", "(I)V"⟩ "WindingRaster" ∈ vwNw := List.mem_of_getElem? (i := 7) rfl
theorem vn_8 : Cond.fieldLinkNest "WindingRaster$ClipPile" 52 "WindingRaster$RunList" "items" "[I" "WindingRaster" ∈ vwNw := List.mem_of_getElem? (i := 8) rfl
theorem vn_9 : Cond.fieldLinkNest "WindingRaster" 102 "WindingRaster$RunList" "items" "[I" "WindingRaster" ∈ vwNw := List.mem_of_getElem? (i := 9) rfl
theorem vn_10 : Cond.fieldLinkNest "WindingRaster$ClipPile" 47 "WindingRaster$RunList" "size" "I" "WindingRaster" ∈ vwNw := List.mem_of_getElem? (i := 10) rfl
theorem vn_11 : Cond.fieldLinkNest "WindingRaster" 105 "WindingRaster$RunList" "size" "I" "WindingRaster" ∈ vwNw := List.mem_of_getElem? (i := 11) rfl
theorem vn_12 : Cond.methodLinkNest "WindingRaster" 67 ⟨"WindingRaster$Outline", "isFull", "()Z"⟩ "WindingRaster" ∈ vwNw := List.mem_of_getElem? (i := 12) rfl
theorem vn_13 : Cond.methodLinkNest "WindingRaster" 71 ⟨"WindingRaster$Outline", "begin", "(II)V"⟩ "WindingRaster" ∈ vwNw := List.mem_of_getElem? (i := 13) rfl
theorem vn_14 : Cond.methodLinkNest "WindingRaster" 77 ⟨"WindingRaster$Outline", "hasLine", "()Z"⟩ "WindingRaster" ∈ vwNw := List.mem_of_getElem? (i := 14) rfl
theorem vn_15 : Cond.methodLinkNest "WindingRaster" 80 ⟨"WindingRaster$Outline", "goOn", "(II)V"⟩ "WindingRaster" ∈ vwNw := List.mem_of_getElem? (i := 15) rfl
theorem vn_16 : Cond.methodLinkNest "WindingRaster" 83 ⟨"WindingRaster$Outline", "forget", "()V"⟩ "WindingRaster" ∈ vwNw := List.mem_of_getElem? (i := 16) rfl
theorem vn_17 : Cond.methodLinkNest "WindingRaster" 90 ⟨"WindingRaster$Outline", "windingAt", "(II)I"⟩ "WindingRaster" ∈ vwNw := List.mem_of_getElem? (i := 17) rfl
theorem vn_18 : Cond.methodLinkNest "WindingRaster" 134 ⟨"WindingRaster$ClipPile", "start", "()I"⟩ "WindingRaster" ∈ vwNw := List.mem_of_getElem? (i := 18) rfl
theorem vn_19 : Cond.methodLinkNest "WindingRaster" 139 ⟨"WindingRaster$Run", "rowOf", "(I)I"⟩ "WindingRaster" ∈ vwNw := List.mem_of_getElem? (i := 19) rfl
theorem vn_20 : Cond.methodLinkNest "WindingRaster" 145 ⟨"WindingRaster$Outline", "windRow", "(I[I)Z"⟩ "WindingRaster" ∈ vwNw := List.mem_of_getElem? (i := 20) rfl
theorem vn_21 : Cond.methodLinkNest "WindingRaster" 152 ⟨"WindingRaster$Run", "endOf", "(I)I"⟩ "WindingRaster" ∈ vwNw := List.mem_of_getElem? (i := 21) rfl
theorem vn_22 : Cond.methodLinkNest "WindingRaster" 155 ⟨"WindingRaster$Run", "fromOf", "(I)I"⟩ "WindingRaster" ∈ vwNw := List.mem_of_getElem? (i := 22) rfl
theorem vn_23 : Cond.methodLinkNest "WindingRaster" 161 ⟨"WindingRaster$Run", "of", "(III)I"⟩ "WindingRaster" ∈ vwNw := List.mem_of_getElem? (i := 23) rfl
theorem vn_24 : Cond.methodLinkNest "WindingRaster" 165 ⟨"WindingRaster$RunList", "add", "(I)V"⟩ "WindingRaster" ∈ vwNw := List.mem_of_getElem? (i := 24) rfl
theorem vn_25 : Cond.methodLinkNest "WindingRaster" 168 ⟨"WindingRaster$Run", "lengthOf", "(I)I"⟩ "WindingRaster" ∈ vwNw := List.mem_of_getElem? (i := 25) rfl
theorem vn_26 : Cond.methodLinkNest "WindingRaster" 110 ⟨"WindingRaster$ClipPile", "replace", "(LWindingRaster$RunList;)Z"⟩ "WindingRaster" ∈ vwNw := List.mem_of_getElem? (i := 26) rfl
theorem vn_27 : Cond.methodLinkNest "WindingRaster" 114 ⟨"WindingRaster$ClipPile", "pixelCount", "()I"⟩ "WindingRaster" ∈ vwNw := List.mem_of_getElem? (i := 27) rfl
theorem vn_28 : Cond.methodLinkNest "WindingRaster$ClipPile" 63 ⟨"WindingRaster$Run", "lengthOf", "(I)I"⟩ "WindingRaster" ∈ vwNw := List.mem_of_getElem? (i := 28) rfl
theorem vn_29 : Cond.methodLinkNest "WindingRaster" 118 ⟨"WindingRaster$ClipPile", "push", "()Z"⟩ "WindingRaster" ∈ vwNw := List.mem_of_getElem? (i := 29) rfl
theorem vn_30 : Cond.methodLinkNest "WindingRaster" 124 ⟨"WindingRaster$ClipPile", "pop", "()Z"⟩ "WindingRaster" ∈ vwNw := List.mem_of_getElem? (i := 30) rfl
theorem vn_31 : Cond.methodLinkNest "WindingRaster" 127 ⟨"WindingRaster$ClipPile", "has", "(II)Z"⟩ "WindingRaster" ∈ vwNw := List.mem_of_getElem? (i := 31) rfl
theorem vn_32 : Cond.methodLinkNest "WindingRaster$ClipPile" 53 ⟨"WindingRaster$Run", "rowOf", "(I)I"⟩ "WindingRaster" ∈ vwNw := List.mem_of_getElem? (i := 32) rfl
theorem vn_33 : Cond.methodLinkNest "WindingRaster$ClipPile" 57 ⟨"WindingRaster$Run", "fromOf", "(I)I"⟩ "WindingRaster" ∈ vwNw := List.mem_of_getElem? (i := 33) rfl
theorem vn_34 : Cond.methodLinkNest "WindingRaster$ClipPile" 60 ⟨"WindingRaster$Run", "endOf", "(I)I"⟩ "WindingRaster" ∈ vwNw := List.mem_of_getElem? (i := 34) rfl
theorem in0_W : ∀ w ∈ wsW, w ∈ vwB := by
  show ∀ w ∈ ([Cond.laysFinal "WindingRaster" "WindingRaster" "columns" "I", Cond.laysFinal "WindingRaster" "WindingRaster" "rows" "I", Cond.laysFinal "WindingRaster" "WindingRaster" "grays" "[I", Cond.laysFinal "WindingRaster" "WindingRaster" "outline" "LWindingRaster$Outline;", Cond.laysFinal "WindingRaster" "WindingRaster" "clips" "LWindingRaster$ClipPile;", Cond.laysFinal "WindingRaster" "WindingRaster" "windings" "[I", Cond.laysFinal "WindingRaster" "WindingRaster" "pieces" "LWindingRaster$RunList;"] : List Cond), w ∈ vwB
  exact List.forall_mem_cons.mpr ⟨vm_76, List.forall_mem_cons.mpr ⟨vm_77, List.forall_mem_cons.mpr ⟨vm_78, List.forall_mem_cons.mpr ⟨vm_79, List.forall_mem_cons.mpr ⟨vm_80, List.forall_mem_cons.mpr ⟨vm_81, List.forall_mem_cons.mpr ⟨vm_82, fun _ h => absurd h List.not_mem_nil⟩⟩⟩⟩⟩⟩⟩
theorem in0_O : ∀ w ∈ wsO, w ∈ vwB := by
  show ∀ w ∈ ([Cond.laysFinal "WindingRaster$Outline" "WindingRaster$Outline" "xs" "[I", Cond.laysFinal "WindingRaster$Outline" "WindingRaster$Outline" "ys" "[I", Cond.laysFinal "WindingRaster$Outline" "WindingRaster$Outline" "next" "[I", Cond.lays "WindingRaster$Outline" "WindingRaster$Outline" "size" "I", Cond.lays "WindingRaster$Outline" "WindingRaster$Outline" "lineStart" "I"] : List Cond), w ∈ vwB
  exact List.forall_mem_cons.mpr ⟨vm_37, List.forall_mem_cons.mpr ⟨vm_38, List.forall_mem_cons.mpr ⟨vm_39, List.forall_mem_cons.mpr ⟨vm_40, List.forall_mem_cons.mpr ⟨vm_41, fun _ h => absurd h List.not_mem_nil⟩⟩⟩⟩⟩
theorem in0_C : ∀ w ∈ wsC, w ∈ vwB := by
  show ∀ w ∈ ([Cond.laysFinal "WindingRaster$ClipPile" "WindingRaster$ClipPile" "items" "[I", Cond.laysFinal "WindingRaster$ClipPile" "WindingRaster$ClipPile" "starts" "[I", Cond.lays "WindingRaster$ClipPile" "WindingRaster$ClipPile" "saved" "I", Cond.lays "WindingRaster$ClipPile" "WindingRaster$ClipPile" "end" "I"] : List Cond), w ∈ vwB
  exact List.forall_mem_cons.mpr ⟨vm_55, List.forall_mem_cons.mpr ⟨vm_56, List.forall_mem_cons.mpr ⟨vm_57, List.forall_mem_cons.mpr ⟨vm_58, fun _ h => absurd h List.not_mem_nil⟩⟩⟩⟩
theorem in0_L : ∀ w ∈ wsL, w ∈ vwB := by
  show ∀ w ∈ ([Cond.laysFinal "WindingRaster$RunList" "WindingRaster$RunList" "items" "[I", Cond.lays "WindingRaster$RunList" "WindingRaster$RunList" "size" "I"] : List Cond), w ∈ vwB
  exact List.forall_mem_cons.mpr ⟨vm_67, List.forall_mem_cons.mpr ⟨vm_68, fun _ h => absurd h List.not_mem_nil⟩⟩
theorem in0_M : ∀ w ∈ wsM, w ∈ vwB := by
  show ∀ w ∈ ([Cond.laysFinal "WindingRasterModel" "WindingRasterModel" "columns" "I", Cond.laysFinal "WindingRasterModel" "WindingRasterModel" "rows" "I", Cond.laysFinal "WindingRasterModel" "WindingRasterModel" "grays" "[B", Cond.laysFinal "WindingRasterModel" "WindingRasterModel" "masks" "[S", Cond.lays "WindingRasterModel" "WindingRasterModel" "saved" "I", Cond.laysFinal "WindingRasterModel" "WindingRasterModel" "xs" "[I", Cond.laysFinal "WindingRasterModel" "WindingRasterModel" "ys" "[I", Cond.laysFinal "WindingRasterModel" "WindingRasterModel" "firsts" "[I", Cond.lays "WindingRasterModel" "WindingRasterModel" "points" "I", Cond.laysFinal "WindingRasterModel" "WindingRasterModel" "met" "[I", Cond.lays "WindingRasterModel" "WindingRasterModel" "meets" "I"] : List Cond), w ∈ vwB
  exact List.forall_mem_cons.mpr ⟨vm_260, List.forall_mem_cons.mpr ⟨vm_261, List.forall_mem_cons.mpr ⟨vm_262, List.forall_mem_cons.mpr ⟨vm_263, List.forall_mem_cons.mpr ⟨vm_264, List.forall_mem_cons.mpr ⟨vm_265, List.forall_mem_cons.mpr ⟨vm_266, List.forall_mem_cons.mpr ⟨vm_267, List.forall_mem_cons.mpr ⟨vm_268, List.forall_mem_cons.mpr ⟨vm_269, List.forall_mem_cons.mpr ⟨vm_270, fun _ h => absurd h List.not_mem_nil⟩⟩⟩⟩⟩⟩⟩⟩⟩⟩⟩
theorem vx_max : Cond.code Lib.Math.max.name Lib.Math.max.code 2 (some .int) ∈ vwB := vwB_t 23 (by decide +kernel) rfl
theorem vx_min : Cond.code Lib.Math.min.name Lib.Math.min.code 2 (some .int) ∈ vwB := vwB_t 20 (by decide +kernel) rfl
theorem vx_obj : Cond.code objectInit ⟨#[0xb1]⟩ 1 none ∈ vwB := vwB_t 17 (by decide +kernel) rfl
def wW_init : List Cond := .code yW_init bW_init 3 (Option.none : Option Jvm.ClassFile.FieldType) :: vwB
def wJM_min : List Cond := .code yJM_min bJM_min 2 (Option.some Jvm.ClassFile.FieldType.int) :: vwB
def wJM_max : List Cond := .code yJM_max bJM_max 2 (Option.some Jvm.ClassFile.FieldType.int) :: vwB
def wJA_fill : List Cond := .code yJA_fill bJA_fill 4 (Option.none : Option Jvm.ClassFile.FieldType) :: vwB
def wO_init : List Cond := .code yO_init bO_init 1 (Option.none : Option Jvm.ClassFile.FieldType) :: vwB
def wC_init : List Cond := .code yC_init bC_init 4 (Option.none : Option Jvm.ClassFile.FieldType) :: vwB
def wR_of : List Cond := .code yR_of bR_of 3 (Option.some Jvm.ClassFile.FieldType.int) :: vwB
def wL_init : List Cond := .code yL_init bL_init 2 (Option.none : Option Jvm.ClassFile.FieldType) :: vwB
def wW_columns : List Cond := .code yW_columns bW_columns 1 (Option.some Jvm.ClassFile.FieldType.int) :: vwB
def wW_rows : List Cond := .code yW_rows bW_rows 1 (Option.some Jvm.ClassFile.FieldType.int) :: vwB
def wW_move : List Cond := .code yW_move bW_move 3 (Option.some Jvm.ClassFile.FieldType.int) :: vwB
def wW_isPlace : List Cond := .code yW_isPlace bW_isPlace 1 (Option.some Jvm.ClassFile.FieldType.boolean) :: vwB
def wO_isFull : List Cond := .code yO_isFull bO_isFull 1 (Option.some Jvm.ClassFile.FieldType.boolean) :: vwB
def wO_begin : List Cond := .code yO_begin bO_begin 3 (Option.none : Option Jvm.ClassFile.FieldType) :: vwB
def wO_addPoint : List Cond := .code yO_addPoint bO_addPoint 3 (Option.none : Option Jvm.ClassFile.FieldType) :: vwB
def wW_line : List Cond := .code yW_line bW_line 3 (Option.some Jvm.ClassFile.FieldType.int) :: vwB
def wO_hasLine : List Cond := .code yO_hasLine bO_hasLine 1 (Option.some Jvm.ClassFile.FieldType.boolean) :: vwB
def wO_goOn : List Cond := .code yO_goOn bO_goOn 3 (Option.none : Option Jvm.ClassFile.FieldType) :: vwB
def wW_clear : List Cond := .code yW_clear bW_clear 2 (Option.some Jvm.ClassFile.FieldType.int) :: vwB
def wO_forget : List Cond := .code yO_forget bO_forget 1 (Option.none : Option Jvm.ClassFile.FieldType) :: vwB
def wW_winding : List Cond := .code yW_winding bW_winding 3 (Option.some Jvm.ClassFile.FieldType.int) :: vwB
def wW_hasPixel : List Cond := .code yW_hasPixel bW_hasPixel 3 (Option.some Jvm.ClassFile.FieldType.boolean) :: vwB
def wO_windingAt : List Cond := .code yO_windingAt bO_windingAt 7 (Option.some Jvm.ClassFile.FieldType.int) :: vwB
def wO_centreOf : List Cond := .code yO_centreOf bO_centreOf 1 (Option.some Jvm.ClassFile.FieldType.int) :: vwB
def wO_stepAt : List Cond := .code yO_stepAt bO_stepAt 5 (Option.some Jvm.ClassFile.FieldType.int) :: vwB
def wO_firstColumn : List Cond := .code yO_firstColumn bO_firstColumn 13 (Option.some Jvm.ClassFile.FieldType.int) :: vwB
def wJM_floorDiv : List Cond := .code yJM_floorDiv bJM_floorDiv 6 (Option.some Jvm.ClassFile.FieldType.long) :: vwB
def wW_fill : List Cond := .code yW_fill bW_fill 3 (Option.some Jvm.ClassFile.FieldType.int) :: vwB
def wW_isRule : List Cond := .code yW_isRule bW_isRule 1 (Option.some Jvm.ClassFile.FieldType.boolean) :: vwB
def wW_isGray : List Cond := .code yW_isGray bW_isGray 1 (Option.some Jvm.ClassFile.FieldType.boolean) :: vwB
def wW_cutClip : List Cond := .code yW_cutClip bW_cutClip 6 (Option.none : Option Jvm.ClassFile.FieldType) :: vwB
def wC_start : List Cond := .code yC_start bC_start 1 (Option.some Jvm.ClassFile.FieldType.int) :: vwB
def wR_rowOf : List Cond := .code yR_rowOf bR_rowOf 1 (Option.some Jvm.ClassFile.FieldType.int) :: vwB
def wO_windRow : List Cond := .code yO_windRow bO_windRow 8 (Option.some Jvm.ClassFile.FieldType.boolean) :: vwB
def wW_cutRun : List Cond := .code yW_cutRun bW_cutRun 8 (Option.none : Option Jvm.ClassFile.FieldType) :: vwB
def wR_endOf : List Cond := .code yR_endOf bR_endOf 1 (Option.some Jvm.ClassFile.FieldType.int) :: vwB
def wR_fromOf : List Cond := .code yR_fromOf bR_fromOf 1 (Option.some Jvm.ClassFile.FieldType.int) :: vwB
def wW_isInside : List Cond := .code yW_isInside bW_isInside 2 (Option.some Jvm.ClassFile.FieldType.boolean) :: vwB
def wL_add : List Cond := .code yL_add bL_add 2 (Option.none : Option Jvm.ClassFile.FieldType) :: vwB
def wW_paint : List Cond := .code yW_paint bW_paint 10 (Option.some Jvm.ClassFile.FieldType.int) :: vwB
def wR_lengthOf : List Cond := .code yR_lengthOf bR_lengthOf 1 (Option.some Jvm.ClassFile.FieldType.int) :: vwB
def wW_clip : List Cond := .code yW_clip bW_clip 2 (Option.some Jvm.ClassFile.FieldType.int) :: vwB
def wC_replace : List Cond := .code yC_replace bC_replace 2 (Option.some Jvm.ClassFile.FieldType.boolean) :: vwB
def wC_pixelCount : List Cond := .code yC_pixelCount bC_pixelCount 3 (Option.some Jvm.ClassFile.FieldType.int) :: vwB
def wW_save : List Cond := .code yW_save bW_save 1 (Option.some Jvm.ClassFile.FieldType.int) :: vwB
def wC_push : List Cond := .code yC_push bC_push 2 (Option.some Jvm.ClassFile.FieldType.boolean) :: vwB
def wW_restore : List Cond := .code yW_restore bW_restore 1 (Option.some Jvm.ClassFile.FieldType.int) :: vwB
def wC_pop : List Cond := .code yC_pop bC_pop 1 (Option.some Jvm.ClassFile.FieldType.boolean) :: vwB
def wW_gray : List Cond := .code yW_gray bW_gray 3 (Option.some Jvm.ClassFile.FieldType.int) :: vwB
def wW_open : List Cond := .code yW_open bW_open 3 (Option.some Jvm.ClassFile.FieldType.int) :: vwB
def wC_has : List Cond := .code yC_has bC_has 5 (Option.some Jvm.ClassFile.FieldType.boolean) :: vwB
def wW_pixels : List Cond := .code yW_pixels bW_pixels 1 (Option.some Jvm.ClassFile.FieldType.int) :: vwB
def wW_runs : List Cond := .code yW_runs bW_runs 1 (Option.some Jvm.ClassFile.FieldType.int) :: vwB
def wW_count : List Cond := .code yW_count bW_count 5 (Option.some Jvm.ClassFile.FieldType.int) :: vwB
def wW_flood : List Cond := .code yW_flood bW_flood 2 (Option.some Jvm.ClassFile.FieldType.int) :: vwB
def wLW_cell : List Cond := .code yLW_cell bLW_cell 2 (Option.some Jvm.ClassFile.FieldType.int) :: vwB
def wM_init : List Cond := .code yM_init bM_init 4 (Option.none : Option Jvm.ClassFile.FieldType) :: vwB
def wM_side : List Cond := .code yM_side bM_side 1 (Option.some Jvm.ClassFile.FieldType.int) :: vwB
def wM_columns : List Cond := .code yM_columns bM_columns 1 (Option.some Jvm.ClassFile.FieldType.int) :: vwB
def wM_rows : List Cond := .code yM_rows bM_rows 1 (Option.some Jvm.ClassFile.FieldType.int) :: vwB
def wM_move : List Cond := .code yM_move bM_move 3 (Option.some Jvm.ClassFile.FieldType.int) :: vwB
def wM_isPlace : List Cond := .code yM_isPlace bM_isPlace 1 (Option.some Jvm.ClassFile.FieldType.boolean) :: vwB
def wM_put : List Cond := .code yM_put bM_put 4 (Option.some Jvm.ClassFile.FieldType.int) :: vwB
def wM_line : List Cond := .code yM_line bM_line 3 (Option.some Jvm.ClassFile.FieldType.int) :: vwB
def wM_clear : List Cond := .code yM_clear bM_clear 2 (Option.some Jvm.ClassFile.FieldType.int) :: vwB
def wM_winding : List Cond := .code yM_winding bM_winding 3 (Option.some Jvm.ClassFile.FieldType.int) :: vwB
def wM_isPixel : List Cond := .code yM_isPixel bM_isPixel 3 (Option.some Jvm.ClassFile.FieldType.boolean) :: vwB
def wM_meet : List Cond := .code yM_meet bM_meet 7 (Option.none : Option Jvm.ClassFile.FieldType) :: vwB
def wM_centre : List Cond := .code yM_centre bM_centre 1 (Option.some Jvm.ClassFile.FieldType.long) :: vwB
def wM_next : List Cond := .code yM_next bM_next 2 (Option.some Jvm.ClassFile.FieldType.int) :: vwB
def wM_windings : List Cond := .code yM_windings bM_windings 6 (Option.some Jvm.ClassFile.FieldType.int) :: vwB
def wM_isLeft : List Cond := .code yM_isLeft bM_isLeft 11 (Option.some Jvm.ClassFile.FieldType.boolean) :: vwB
def wM_fill : List Cond := .code yM_fill bM_fill 6 (Option.some Jvm.ClassFile.FieldType.int) :: vwB
def wM_at : List Cond := .code yM_at bM_at 2 (Option.some Jvm.ClassFile.FieldType.int) :: vwB
def wM_isOpen : List Cond := .code yM_isOpen bM_isOpen 3 (Option.some Jvm.ClassFile.FieldType.boolean) :: vwB
def wM_isInside : List Cond := .code yM_isInside bM_isInside 2 (Option.some Jvm.ClassFile.FieldType.boolean) :: vwB
def wM_clip : List Cond := .code yM_clip bM_clip 4 (Option.some Jvm.ClassFile.FieldType.int) :: vwB
def wM_setOpen : List Cond := .code yM_setOpen bM_setOpen 5 (Option.none : Option Jvm.ClassFile.FieldType) :: vwB
def wM_runsTo : List Cond := .code yM_runsTo bM_runsTo 4 (Option.some Jvm.ClassFile.FieldType.int) :: vwB
def wM_runsOf : List Cond := .code yM_runsOf bM_runsOf 5 (Option.some Jvm.ClassFile.FieldType.int) :: vwB
def wM_pixels : List Cond := .code yM_pixels bM_pixels 4 (Option.some Jvm.ClassFile.FieldType.int) :: vwB
def wM_save : List Cond := .code yM_save bM_save 2 (Option.some Jvm.ClassFile.FieldType.int) :: vwB
def wM_restore : List Cond := .code yM_restore bM_restore 1 (Option.some Jvm.ClassFile.FieldType.int) :: vwB
def wM_gray : List Cond := .code yM_gray bM_gray 3 (Option.some Jvm.ClassFile.FieldType.int) :: vwB
def wM_open : List Cond := .code yM_open bM_open 3 (Option.some Jvm.ClassFile.FieldType.int) :: vwB
def wM_runs : List Cond := .code yM_runs bM_runs 1 (Option.some Jvm.ClassFile.FieldType.int) :: vwB
def wM_count : List Cond := .code yM_count bM_count 5 (Option.some Jvm.ClassFile.FieldType.int) :: vwB
def wM_flood : List Cond := .code yM_flood bM_flood 5 (Option.some Jvm.ClassFile.FieldType.int) :: vwB
end
section
/-! INT LEVEL: every int on the machine's stack is iI z (z : Int), every long lI z; int arrays hold iA F (F : Nat → Int). Rows over the kit's rows, so that conditions come as facts of Int. -/
def iI (z : Int) : Int32 := Int32.ofInt z
def lI (z : Int) : Int64 := Int64.ofInt z
def iA (F : Nat → Int) : Nat → Int32 := fun j => iI (F j)
def uZ (F : Nat → Int) (k : Nat) (z : Int) : Nat → Int := fun j => if j = k then z else F j
abbrev i32 (z : Int) : Prop := -2147483648 ≤ z ∧ z < 2147483648
abbrev i64 (z : Int) : Prop := -9223372036854775808 ≤ z ∧ z < 9223372036854775808
theorem iI_of (x : Int32) : x = iI x.toInt := (Int32.ofInt_toInt x).symm
theorem iI_rng (x : Int32) : i32 x.toInt := ⟨by have := x.le_toInt; omega, by have := x.toInt_lt; omega⟩
theorem iI_add (a b : Int) : iI a + iI b = iI (a + b) := (Int32.ofInt_add a b).symm
theorem iI_sub (a b : Int) : iI a - iI b = iI (a - b) := (Int32.ofInt_sub a b).symm
theorem iI_mul (a b : Int) : iI a * iI b = iI (a * b) := (Int32.ofInt_mul a b).symm
theorem iI_neg (a : Int) : -iI a = iI (-a) := (Int32.ofInt_neg a).symm
theorem lI_add (a b : Int) : lI a + lI b = lI (a + b) := (Int64.ofInt_add a b).symm
theorem lI_sub (a b : Int) : lI a - lI b = lI (a - b) := (Int64.ofInt_sub a b).symm
theorem lI_mul (a b : Int) : lI a * lI b = lI (a * b) := (Int64.ofInt_mul a b).symm
theorem lI_neg (a : Int) : -lI a = lI (-a) := (Int64.ofInt_neg a).symm
theorem iI_toInt {a : Int} (h : i32 a) : (iI a).toInt = a := Int32.toInt_ofInt_of_le (by have := h.1; omega) (by have := h.2; omega)
theorem lI_toInt {a : Int} (h : i64 a) : (lI a).toInt = a := Int64.toInt_ofInt_of_le (by have := h.1; omega) (by have := h.2; omega)
theorem iI_le {a b : Int} (ha : i32 a) (hb : i32 b) : iI a ≤ iI b ↔ a ≤ b := by rw [Int32.le_iff_toInt_le, iI_toInt ha, iI_toInt hb]
theorem iI_lt {a b : Int} (ha : i32 a) (hb : i32 b) : iI a < iI b ↔ a < b := by rw [Int32.lt_iff_toInt_lt, iI_toInt ha, iI_toInt hb]
theorem iI_eq {a b : Int} (ha : i32 a) (hb : i32 b) : iI a = iI b ↔ a = b := by rw [← Int32.toInt_inj, iI_toInt ha, iI_toInt hb]
theorem lI_le {a b : Int} (ha : i64 a) (hb : i64 b) : lI a ≤ lI b ↔ a ≤ b := by rw [Int64.le_iff_toInt_le, lI_toInt ha, lI_toInt hb]
theorem lI_lt {a b : Int} (ha : i64 a) (hb : i64 b) : lI a < lI b ↔ a < b := by rw [Int64.lt_iff_toInt_lt, lI_toInt ha, lI_toInt hb]
theorem lI_eq {a b : Int} (ha : i64 a) (hb : i64 b) : lI a = lI b ↔ a = b := by rw [← Int64.toInt_inj, lI_toInt ha, lI_toInt hb]
theorem iI_inc (a n : Int) {w : Int} (h : a + n = w) : iI a + Int32.ofInt n = iI w := by rw [← h]; exact iI_add a n
theorem iI_zero : iI 0 = 0 := by decide +kernel
theorem i32_0 : i32 0 := by decide
theorem iI_nat (n : Nat) : Int32.ofNat n = iI (n : Int) := by
  apply Int32.toBitVec.inj
  show BitVec.ofNat 32 n = BitVec.ofInt 32 (n : Int)
  simp
theorem iI_clamp {z : Int} {k : Nat} (hz : z = (k : Int)) (hk : k < 2147483648) : (iI z).toNatClampNeg = k := by
  subst hz
  unfold Int32.toNatClampNeg
  rw [iI_toInt (by omega)]
  exact Int.toNat_natCast k
theorem iI_in {z : Int} {k n : Nat} (hz : z = (k : Int)) (hk : k < n) (hn : n < 2147483648) : vp_in (iI z) n := by
  rw [vp_in_iff, iI_toInt (by omega)]
  omega
theorem iI_i2l {a : Int} (h : i32 a) : (iI a).toInt64 = lI a := by
  apply Int64.toInt_inj.mp
  rw [Int32.toInt_toInt64, iI_toInt h, lI_toInt (by omega)]
theorem lI_l2i (a : Int) : (lI a).toInt32 = iI a := Int64.toInt32_ofInt
theorem iA_upd (F : Nat → Int) (k : Nat) (z : Int) : upd (iA F) k (iI z) = iA (uZ F k z) := by
  funext j
  simp only [upd, iA, uZ]
  split <;> rfl
theorem iA_cpy (F G : Nat → Int) (a b n : Nat) : va_cpy (iA F) (iA G) a b n = iA (va_cpy F G a b n) := by
  funext j
  simp only [va_cpy, iA]
  split <;> rfl
theorem iI_max {a b : Int} (ha : i32 a) (hb : i32 b) : (if iI a < iI b then iI b else iI a) = iI (max a b) := by
  by_cases h : a < b
  · rw [if_pos ((iI_lt ha hb).mpr h), show max a b = b by omega]
  · rw [if_neg (fun q => h ((iI_lt ha hb).mp q)), show max a b = a by omega]
theorem iI_min {a b : Int} (ha : i32 a) (hb : i32 b) : (if iI b < iI a then iI b else iI a) = iI (min a b) := by
  by_cases h : b < a
  · rw [if_pos ((iI_lt hb ha).mpr h), show min a b = b by omega]
  · rw [if_neg (fun q => h ((iI_lt hb ha).mp q)), show min a b = a by omega]
theorem iI_shl9 (a : Int) : iI a <<< (iI 9 &&& 31) = iI (a * 512) := by
  apply Int32.toBitVec.inj
  apply BitVec.eq_of_toNat_eq
  rw [pk_shl _ _ 9 (by decide +kernel)]
  show (BitVec.ofInt 32 a).toNat * 2 ^ 9 % 2 ^ 32 = (BitVec.ofInt 32 (a * 512)).toNat
  rw [BitVec.toNat_ofInt, BitVec.toNat_ofInt]
  omega
theorem iI_shl16 (a : Int) : iI a <<< (iI 16 &&& 31) = iI (a * 65536) := by
  apply Int32.toBitVec.inj
  apply BitVec.eq_of_toNat_eq
  rw [pk_shl _ _ 16 (by decide +kernel)]
  show (BitVec.ofInt 32 a).toNat * 2 ^ 16 % 2 ^ 32 = (BitVec.ofInt 32 (a * 65536)).toNat
  rw [BitVec.toNat_ofInt, BitVec.toNat_ofInt]
  omega
theorem iI_shr9 {a : Int} (h : i32 a) : iI a >>> (iI 9 &&& 31) = iI (a / 512) := by
  apply Int32.toInt_inj.mp
  rw [pk_shr _ _ 9 (by decide +kernel), iI_toInt h, iI_toInt (by omega), Int.shiftRight_eq_div_pow]
  rfl
theorem iI_shr18 {a : Int} (h : i32 a) : iI a >>> (iI 18 &&& 31) = iI (a / 262144) := by
  apply Int32.toInt_inj.mp
  rw [pk_shr _ _ 18 (by decide +kernel), iI_toInt h, iI_toInt (by omega), Int.shiftRight_eq_div_pow]
  rfl
theorem iI_and1 (a : Int) : iI a &&& iI 1 = iI (a % 2) := by
  rw [pk_and (iI a) 1 (by decide +kernel)]
  show Int32.ofNat ((BitVec.ofInt 32 a).toNat % 2 ^ 1) = iI (a % 2)
  rw [iI_nat, BitVec.toNat_ofInt]
  congr 1
  omega
theorem iI_and15 (a : Int) : iI a &&& iI 15 = iI (a % 16) := by
  rw [pk_and (iI a) 4 (by decide +kernel)]
  show Int32.ofNat ((BitVec.ofInt 32 a).toNat % 2 ^ 4) = iI (a % 16)
  rw [iI_nat, BitVec.toNat_ofInt]
  congr 1
  omega
theorem iI_and511 (a : Int) : iI a &&& iI 511 = iI (a % 512) := by
  rw [pk_and (iI a) 9 (by decide +kernel)]
  show Int32.ofNat ((BitVec.ofInt 32 a).toNat % 2 ^ 9) = iI (a % 512)
  rw [iI_nat, BitVec.toNat_ofInt]
  congr 1
  omega
theorem iI_or9 {a b : Int} (ha : 0 ≤ a) (hb : 0 ≤ b ∧ b < 512) (h : a * 512 + b < 2147483648) : iI (a * 512) ||| iI b = iI (a * 512 + b) := by
  apply Int32.toBitVec.inj
  apply BitVec.eq_of_toNat_eq
  show (BitVec.ofInt 32 (a * 512) ||| BitVec.ofInt 32 b).toNat = (BitVec.ofInt 32 (a * 512 + b)).toNat
  rw [BitVec.toNat_or, BitVec.toNat_ofInt, BitVec.toNat_ofInt, BitVec.toNat_ofInt]
  obtain ⟨x, rfl⟩ := Int.eq_ofNat_of_zero_le ha
  obtain ⟨y, rfl⟩ := Int.eq_ofNat_of_zero_le hb.1
  have e1 : (((x : Int) * 512) % ((2 ^ 32 : Nat) : Int)).toNat = x <<< 9 := by rw [Nat.shiftLeft_eq]; omega
  have e2 : ((y : Int) % ((2 ^ 32 : Nat) : Int)).toNat = y := by omega
  have e3 : (((x : Int) * 512 + y) % ((2 ^ 32 : Nat) : Int)).toNat = x <<< 9 + y := by rw [Nat.shiftLeft_eq]; omega
  rw [e1, e2, e3, Nat.shiftLeft_add_eq_or_of_lt (by omega)]
theorem lI_shr16 {a : Int} (h : i64 a) : lI a >>> ((iI 16).toInt64 &&& 63) = lI (a / 65536) := by
  apply Int64.toInt_inj.mp
  rw [lI_toInt (by omega)]
  have e : ((iI 16).toInt64 &&& 63) = lI 16 := by decide +kernel
  rw [e]
  show ((lI a).toBitVec.sshiftRight' ((lI 16).toBitVec.smod 64)).toInt = a / 65536
  rw [show (lI 16).toBitVec.smod 64 = 16#64 by decide +kernel, BitVec.sshiftRight_eq', BitVec.toInt_sshiftRight]
  show (lI a).toInt >>> (16#64).toNat = a / 65536
  rw [lI_toInt h, show (16#64).toNat = 16 by decide, Int.shiftRight_eq_div_pow]
  rfl
theorem iI_div2 {n : Nat} (h : n < 2147483648) : iI (n : Int) / iI 2 = iI ((n / 2 : Nat) : Int) := by
  rw [← iI_nat, ← iI_nat, show iI 2 = Int32.ofNat 2 from (iI_nat 2).symm]
  exact pk_div h (by decide) (by decide)
/-! the JDK's floorDiv: the sign of an exclusive or; quotients -/
theorem lI_ne0 {y : Int} (h : i64 y) (hy : ¬ y = 0) : ¬ lI y = 0 := by
  intro q
  have e : (0 : Int64) = lI 0 := by decide +kernel
  rw [e, lI_eq h (by omega)] at q
  exact hy q
theorem lI_tdiv {x y : Int} (h1 : -4611686018427387904 ≤ x ∧ x ≤ 4611686018427387904) (h2 : i64 y) : lI x / lI y = lI (x.tdiv y) := by
  apply Int64.toInt_inj.mp
  have hne : lI x ≠ Int64.minValue := by
    intro q
    have := congrArg Int64.toInt q
    rw [lI_toInt (by omega)] at this
    have e : Int64.minValue.toInt = -9223372036854775808 := by decide +kernel
    omega
  rw [Int64.toInt_div_of_ne_left _ _ hne, lI_toInt (by omega), lI_toInt h2, lI_toInt]
  have hb : (x.tdiv y).natAbs ≤ x.natAbs := by rw [Int.natAbs_tdiv]; exact Nat.div_le_self _ _
  omega
theorem lI_xor {x y : Int} (h1 : i64 x) (h2 : i64 y) : ∃ z : Int, lI x ^^^ lI y = lI z ∧ i64 z ∧ (z < 0 ↔ ¬ (x < 0 ↔ y < 0)) := by
  refine ⟨(lI x ^^^ lI y).toInt, (Int64.ofInt_toInt _).symm, ⟨by have := (lI x ^^^ lI y).le_toInt; omega, by have := (lI x ^^^ lI y).toInt_lt; omega⟩, ?_⟩
  have hs : ∀ w : Int64, w.toInt < 0 ↔ w.toBitVec.msb = true := fun w => by
    show w.toBitVec.toInt < 0 ↔ _
    rw [BitVec.msb_eq_toInt, decide_eq_true_iff]
  have hx : x < 0 ↔ (lI x).toBitVec.msb = true := by rw [← hs, lI_toInt h1]
  have hy : y < 0 ↔ (lI y).toBitVec.msb = true := by rw [← hs, lI_toInt h2]
  rw [hs, hx, hy]
  have e : (lI x ^^^ lI y).toBitVec.msb = ((lI x).toBitVec.msb ^^ (lI y).toBitVec.msb) := by
    rw [Int64.toBitVec_xor, BitVec.msb_xor]
  rw [e]
  cases (lI x).toBitVec.msb <;> cases (lI y).toBitVec.msb <;> simp
theorem fd_td {x y : Int} (hy : ¬ y = 0) : (x.tdiv y * y = x → x.fdiv y = x.tdiv y) ∧ ((x < 0 ↔ y < 0) → x.fdiv y = x.tdiv y) ∧ (¬ (x < 0 ↔ y < 0) → ¬ x.tdiv y * y = x → x.fdiv y = x.tdiv y - 1) := by
  have h := Int.fdiv_eq_tdiv (a := x) (b := y)
  have s1 : 0 < y → y.sign = 1 := fun q => Int.sign_eq_one_of_pos q
  have s2 : y < 0 → y.sign = -1 := fun q => Int.sign_eq_neg_one_of_neg q
  refine ⟨fun e => ?_, fun e => ?_, fun e e2 => ?_⟩
  · have hd : y ∣ x := ⟨x.tdiv y, by rw [Int.mul_comm]; exact e.symm⟩
    rw [h, if_pos hd]; omega
  · rw [h]
    by_cases hd : y ∣ x
    · rw [if_pos hd]; omega
    · rw [if_neg hd]
      have h0 : ¬ x = 0 := fun q => hd (by rw [q]; exact Int.dvd_zero y)
      split <;> split <;> omega
  · have hd : ¬ y ∣ x := fun q => e2 (Int.tdiv_mul_cancel q)
    have h0 : ¬ x = 0 := fun q => hd (by rw [q]; exact Int.dvd_zero y)
    rw [h, if_neg hd]
    split <;> split <;> omega
section II
variable {p : Program} {l : Launch} {e : Env} {R : Room} {s : State} {m : MethodId} {args : Array Value} {below : List Frame} {meth : Method} {c : Code} {H : Heap} {locs : List Loc} {cells slots : Nat} {Q : State → Prop}
variable {cc : ByteArray} {pc : Nat} {ls : Array Slot} {rest : List Value} {D : va_G} {cl : List vw_C} {A : Nat → Prop} {a : Nat} {tys : List (ClassId × FieldType)} {ws : va_W} {H0 : Heap}
theorem ii_top {x y : Int} (h : x = y) (k : W p l e R s m args below meth c H locs cells slots Q (F0 m pc ls (.int (iI y) :: rest))) : W p l e R s m args below meth c H locs cells slots Q (F0 m pc ls (.int (iI x) :: rest)) := by rw [h]; exact k
theorem ll_top {x y : Int} (h : x = y) (k : W p l e R s m args below meth c H locs cells slots Q (F0 m pc ls (.long (lI y) :: rest))) : W p l e R s m args below meth c H locs cells slots Q (F0 m pc ls (.long (lI x) :: rest)) := by rw [h]; exact k
theorem ii_iconst (hx : p.tables.exec = Jvm.exec) (hb : c.code = cc) {n : Int} (hdg : decode cc pc = .ok (.iconst n, 1)) (k : W p l e R s m args below meth c H locs cells slots Q (F0 m (pc + 1) ls (.int (iI n) :: rest))) : W p l e R s m args below meth c H locs cells slots Q (F0 m pc ls rest) := lv_iconst hx hb hdg rfl k
theorem ii_bipush (hx : p.tables.exec = Jvm.exec) (hb : c.code = cc) {n : Int} (hdg : decode cc pc = .ok (.bipush n, 2)) (hv : (Int8.ofInt n).toInt32 = iI n) (k : W p l e R s m args below meth c H locs cells slots Q (F0 m (pc + 2) ls (.int (iI n) :: rest))) : W p l e R s m args below meth c H locs cells slots Q (F0 m pc ls rest) := lv_bipush hx hb hdg hv k
theorem ii_sipush (hx : p.tables.exec = Jvm.exec) (hb : c.code = cc) {n : Int} (hdg : decode cc pc = .ok (.sipush n, 3)) (hv : (Int16.ofInt n).toInt32 = iI n) (k : W p l e R s m args below meth c H locs cells slots Q (F0 m (pc + 3) ls (.int (iI n) :: rest))) : W p l e R s m args below meth c H locs cells slots Q (F0 m pc ls rest) := lv_sipush hx hb hdg hv k
theorem ii_ldc (hx : p.tables.exec = Jvm.exec) (hb : c.code = cc) {own : String} {index : Nat} {v : Int32} {n : Int} (hown : s.vm.findClass own = some m.cls) (hconst : (Jvm.Cond.constant own index v).before args s = true) (hdg : decode cc pc = .ok (.ldc index, 2)) (hv : v = iI n) (k : W p l e R s m args below meth c H locs cells slots Q (F0 m (pc + 2) ls (.int (iI n) :: rest))) : W p l e R s m args below meth c H locs cells slots Q (F0 m pc ls rest) := lv_ldc hx hb hown hconst hdg (by rw [hv]; exact k)
theorem ii_ldc2 (hx : p.tables.exec = Jvm.exec) (hb : c.code = cc) {own : String} {index : Nat} {v : Int64} {n : Int} (hown : s.vm.findClass own = some m.cls) (hconst : (Jvm.Cond.constantLong own index v).before args s = true) (hdg : decode cc pc = .ok (.ldc2_w index, 3)) (hv : v = lI n) (k : W p l e R s m args below meth c H locs cells slots Q (F0 m (pc + 3) ls (.long (lI n) :: rest))) : W p l e R s m args below meth c H locs cells slots Q (F0 m pc ls rest) := lv_ldc2 hx hb hown hconst hdg (by rw [hv]; exact k)
theorem ii_lconst (hx : p.tables.exec = Jvm.exec) (hb : c.code = cc) {n : Fin 2} {z : Int} (hdg : decode cc pc = .ok (.lconst n, 1)) (hv : Int64.ofNat (n : Nat) = lI z) (k : W p l e R s m args below meth c H locs cells slots Q (F0 m (pc + 1) ls (.long (lI z) :: rest))) : W p l e R s m args below meth c H locs cells slots Q (F0 m pc ls rest) := lv_lconst hx hb hdg hv k
theorem ii_iadd (hx : p.tables.exec = Jvm.exec) (hb : c.code = cc) {x y : Int} (hdg : decode cc pc = .ok (.iadd, 1)) (k : W p l e R s m args below meth c H locs cells slots Q (F0 m (pc + 1) ls (.int (iI (x + y)) :: rest))) : W p l e R s m args below meth c H locs cells slots Q (F0 m pc ls (.int (iI y) :: .int (iI x) :: rest)) := lv_iadd hx hb hdg (by rw [iI_add]; exact k)
theorem ii_isub (hx : p.tables.exec = Jvm.exec) (hb : c.code = cc) {x y : Int} (hdg : decode cc pc = .ok (.isub, 1)) (k : W p l e R s m args below meth c H locs cells slots Q (F0 m (pc + 1) ls (.int (iI (x - y)) :: rest))) : W p l e R s m args below meth c H locs cells slots Q (F0 m pc ls (.int (iI y) :: .int (iI x) :: rest)) := lv_isub hx hb hdg (by rw [iI_sub]; exact k)
theorem ii_imul (hx : p.tables.exec = Jvm.exec) (hb : c.code = cc) {x y : Int} (hdg : decode cc pc = .ok (.imul, 1)) (k : W p l e R s m args below meth c H locs cells slots Q (F0 m (pc + 1) ls (.int (iI (x * y)) :: rest))) : W p l e R s m args below meth c H locs cells slots Q (F0 m pc ls (.int (iI y) :: .int (iI x) :: rest)) := lv_imul hx hb hdg (by rw [iI_mul]; exact k)
theorem ii_ineg (hx : p.tables.exec = Jvm.exec) (hb : c.code = cc) {x : Int} (hdg : decode cc pc = .ok (.ineg, 1)) (k : W p l e R s m args below meth c H locs cells slots Q (F0 m (pc + 1) ls (.int (iI (-x)) :: rest))) : W p l e R s m args below meth c H locs cells slots Q (F0 m pc ls (.int (iI x) :: rest)) := lv_ineg hx hb hdg (by rw [iI_neg]; exact k)
theorem ii_ishl {z : Int} (hx : p.tables.exec = Jvm.exec) (hb : c.code = cc) {x y : Int} (hdg : decode cc pc = .ok (.ishl, 1)) (hz : iI x <<< (iI y &&& 31) = iI z) (k : W p l e R s m args below meth c H locs cells slots Q (F0 m (pc + 1) ls (.int (iI z) :: rest))) : W p l e R s m args below meth c H locs cells slots Q (F0 m pc ls (.int (iI y) :: .int (iI x) :: rest)) := lv_ishl hx hb hdg (by rw [hz]; exact k)
theorem ii_ishr {z : Int} (hx : p.tables.exec = Jvm.exec) (hb : c.code = cc) {x y : Int} (hdg : decode cc pc = .ok (.ishr, 1)) (hz : iI x >>> (iI y &&& 31) = iI z) (k : W p l e R s m args below meth c H locs cells slots Q (F0 m (pc + 1) ls (.int (iI z) :: rest))) : W p l e R s m args below meth c H locs cells slots Q (F0 m pc ls (.int (iI y) :: .int (iI x) :: rest)) := lv_ishr hx hb hdg (by rw [hz]; exact k)
theorem ii_iand {z : Int} (hx : p.tables.exec = Jvm.exec) (hb : c.code = cc) {x y : Int} (hdg : decode cc pc = .ok (.iand, 1)) (hz : iI x &&& iI y = iI z) (k : W p l e R s m args below meth c H locs cells slots Q (F0 m (pc + 1) ls (.int (iI z) :: rest))) : W p l e R s m args below meth c H locs cells slots Q (F0 m pc ls (.int (iI y) :: .int (iI x) :: rest)) := lv_iand hx hb hdg (by rw [hz]; exact k)
theorem ii_ior {z : Int} (hx : p.tables.exec = Jvm.exec) (hb : c.code = cc) {x y : Int} (hdg : decode cc pc = .ok (.ior, 1)) (hz : iI x ||| iI y = iI z) (k : W p l e R s m args below meth c H locs cells slots Q (F0 m (pc + 1) ls (.int (iI z) :: rest))) : W p l e R s m args below meth c H locs cells slots Q (F0 m pc ls (.int (iI y) :: .int (iI x) :: rest)) := lv_ior hx hb hdg (by rw [hz]; exact k)
theorem ii_idiv {z : Int} (hx : p.tables.exec = Jvm.exec) (hb : c.code = cc) {x y : Int} (hdg : decode cc pc = .ok (.idiv, 1)) (hy : ¬ iI y = 0) (hz : iI x / iI y = iI z) (k : W p l e R s m args below meth c H locs cells slots Q (F0 m (pc + 1) ls (.int (iI z) :: rest))) : W p l e R s m args below meth c H locs cells slots Q (F0 m pc ls (.int (iI y) :: .int (iI x) :: rest)) := lv_idiv hx hb hdg hy (by rw [hz]; exact k)
theorem ii_i2l (hx : p.tables.exec = Jvm.exec) (hb : c.code = cc) {x : Int} (hdg : decode cc pc = .ok (.i2l, 1)) (h : i32 x) (k : W p l e R s m args below meth c H locs cells slots Q (F0 m (pc + 1) ls (.long (lI x) :: rest))) : W p l e R s m args below meth c H locs cells slots Q (F0 m pc ls (.int (iI x) :: rest)) := lv_i2l hx hb hdg (iI_i2l h) k
theorem ii_l2i (hx : p.tables.exec = Jvm.exec) (hb : c.code = cc) {x : Int} (hdg : decode cc pc = .ok (.l2i, 1)) (k : W p l e R s m args below meth c H locs cells slots Q (F0 m (pc + 1) ls (.int (iI x) :: rest))) : W p l e R s m args below meth c H locs cells slots Q (F0 m pc ls (.long (lI x) :: rest)) := lv_l2i hx hb hdg (lI_l2i x) k
theorem ii_ladd (hx : p.tables.exec = Jvm.exec) (hb : c.code = cc) {x y : Int} (hdg : decode cc pc = .ok (.ladd, 1)) (k : W p l e R s m args below meth c H locs cells slots Q (F0 m (pc + 1) ls (.long (lI (x + y)) :: rest))) : W p l e R s m args below meth c H locs cells slots Q (F0 m pc ls (.long (lI y) :: .long (lI x) :: rest)) := lv_ladd hx hb hdg (by rw [lI_add]; exact k)
theorem ii_lsub (hx : p.tables.exec = Jvm.exec) (hb : c.code = cc) {x y : Int} (hdg : decode cc pc = .ok (.lsub, 1)) (k : W p l e R s m args below meth c H locs cells slots Q (F0 m (pc + 1) ls (.long (lI (x - y)) :: rest))) : W p l e R s m args below meth c H locs cells slots Q (F0 m pc ls (.long (lI y) :: .long (lI x) :: rest)) := lv_lsub hx hb hdg (by rw [lI_sub]; exact k)
theorem ii_lmul (hx : p.tables.exec = Jvm.exec) (hb : c.code = cc) {x y : Int} (hdg : decode cc pc = .ok (.lmul, 1)) (k : W p l e R s m args below meth c H locs cells slots Q (F0 m (pc + 1) ls (.long (lI (x * y)) :: rest))) : W p l e R s m args below meth c H locs cells slots Q (F0 m pc ls (.long (lI y) :: .long (lI x) :: rest)) := lv_lmul hx hb hdg (by rw [lI_mul]; exact k)
theorem ii_lneg (hx : p.tables.exec = Jvm.exec) (hb : c.code = cc) {x : Int} (hdg : decode cc pc = .ok (.lneg, 1)) (k : W p l e R s m args below meth c H locs cells slots Q (F0 m (pc + 1) ls (.long (lI (-x)) :: rest))) : W p l e R s m args below meth c H locs cells slots Q (F0 m pc ls (.long (lI x) :: rest)) := lv_lneg hx hb hdg (by rw [lI_neg]; exact k)
theorem ii_ldiv {z : Int} (hx : p.tables.exec = Jvm.exec) (hb : c.code = cc) {x y : Int} (hdg : decode cc pc = .ok (.ldiv, 1)) (hy : ¬ lI y = 0) (hz : lI x / lI y = lI z) (k : W p l e R s m args below meth c H locs cells slots Q (F0 m (pc + 1) ls (.long (lI z) :: rest))) : W p l e R s m args below meth c H locs cells slots Q (F0 m pc ls (.long (lI y) :: .long (lI x) :: rest)) := lv_ldiv hx hb hdg hy (by rw [hz]; exact k)
theorem ii_lshr {z : Int} (hx : p.tables.exec = Jvm.exec) (hb : c.code = cc) {x y : Int} (hdg : decode cc pc = .ok (.lshr, 1)) (hz : lI x >>> ((iI y).toInt64 &&& 63) = lI z) (k : W p l e R s m args below meth c H locs cells slots Q (F0 m (pc + 1) ls (.long (lI z) :: rest))) : W p l e R s m args below meth c H locs cells slots Q (F0 m pc ls (.int (iI y) :: .long (lI x) :: rest)) := lv_lshr hx hb hdg hz k
theorem ii_lcmp (hx : p.tables.exec = Jvm.exec) (hb : c.code = cc) {x y : Int} (hdg : decode cc pc = .ok (.lcmp, 1)) (h1 : i64 x) (h2 : i64 y) (k : ∀ z : Int, (z = 1 ∧ y < x) ∨ (z = 0 ∧ x = y) ∨ (z = -1 ∧ x < y) → W p l e R s m args below meth c H locs cells slots Q (F0 m (pc + 1) ls (.int (iI z) :: rest))) : W p l e R s m args below meth c H locs cells slots Q (F0 m pc ls (.long (lI y) :: .long (lI x) :: rest)) := by
  refine W.lcmp hx hb hdg ?_
  unfold lg_cmp
  by_cases g1 : y < x
  · rw [if_pos ((lI_lt h2 h1).mpr g1)]
    exact k 1 (Or.inl ⟨rfl, g1⟩)
  · rw [if_neg (fun q => g1 ((lI_lt h2 h1).mp q))]
    by_cases g2 : x = y
    · rw [if_pos ((lI_eq h1 h2).mpr g2)]
      exact k 0 (Or.inr (Or.inl ⟨rfl, g2⟩))
    · rw [if_neg (fun q => g2 ((lI_eq h1 h2).mp q))]
      exact k (-1) (Or.inr (Or.inr ⟨rfl, by omega⟩))
theorem ii_if_eq (hx : p.tables.exec = Jvm.exec) (hb : c.code = cc) {x : Int} {off : Int} {tgt : Nat} (hdg : decode cc pc = .ok (.ifCond .eq off, 3)) (ht : (pc : Int) + off = (tgt : Int)) (h1 : i32 x) (kt : x = 0 → W p l e R s m args below meth c H locs cells slots Q (F0 m tgt ls rest)) (kf : ¬ x = 0 → W p l e R s m args below meth c H locs cells slots Q (F0 m (pc + 3) ls rest)) : W p l e R s m args below meth c H locs cells slots Q (F0 m pc ls (.int (iI x) :: rest)) :=
  lv_if_eq hx hb hdg ht (fun q => kt (by rw [← iI_zero] at q; exact (iI_eq h1 i32_0).mp q)) (fun q => kf (fun w => q (by rw [w]; exact iI_zero)))
theorem ii_icmp_eq (hx : p.tables.exec = Jvm.exec) (hb : c.code = cc) {x y : Int} {off : Int} {tgt : Nat} (hdg : decode cc pc = .ok (.if_icmp .eq off, 3)) (ht : (pc : Int) + off = (tgt : Int)) (h1 : i32 x) (h2 : i32 y) (kt : x = y → W p l e R s m args below meth c H locs cells slots Q (F0 m tgt ls rest)) (kf : ¬ x = y → W p l e R s m args below meth c H locs cells slots Q (F0 m (pc + 3) ls rest)) : W p l e R s m args below meth c H locs cells slots Q (F0 m pc ls (.int (iI y) :: .int (iI x) :: rest)) :=
  lv_icmp_eq hx hb hdg ht (fun q => kt (by exact (iI_eq h1 h2).mp q)) (fun q => kf (fun w => q (by rw [w])))
theorem ii_if_ne (hx : p.tables.exec = Jvm.exec) (hb : c.code = cc) {x : Int} {off : Int} {tgt : Nat} (hdg : decode cc pc = .ok (.ifCond .ne off, 3)) (ht : (pc : Int) + off = (tgt : Int)) (h1 : i32 x) (kt : ¬ x = 0 → W p l e R s m args below meth c H locs cells slots Q (F0 m tgt ls rest)) (kf : x = 0 → W p l e R s m args below meth c H locs cells slots Q (F0 m (pc + 3) ls rest)) : W p l e R s m args below meth c H locs cells slots Q (F0 m pc ls (.int (iI x) :: rest)) :=
  lv_if_ne hx hb hdg ht (fun q => kt (fun w => q (by rw [w]; exact iI_zero))) (fun q => kf (by rw [← iI_zero] at q; exact (iI_eq h1 i32_0).mp q))
theorem ii_icmp_ne (hx : p.tables.exec = Jvm.exec) (hb : c.code = cc) {x y : Int} {off : Int} {tgt : Nat} (hdg : decode cc pc = .ok (.if_icmp .ne off, 3)) (ht : (pc : Int) + off = (tgt : Int)) (h1 : i32 x) (h2 : i32 y) (kt : ¬ x = y → W p l e R s m args below meth c H locs cells slots Q (F0 m tgt ls rest)) (kf : x = y → W p l e R s m args below meth c H locs cells slots Q (F0 m (pc + 3) ls rest)) : W p l e R s m args below meth c H locs cells slots Q (F0 m pc ls (.int (iI y) :: .int (iI x) :: rest)) :=
  lv_icmp_ne hx hb hdg ht (fun q => kt (fun w => q (by rw [w]))) (fun q => kf (by exact (iI_eq h1 h2).mp q))
theorem ii_if_lt (hx : p.tables.exec = Jvm.exec) (hb : c.code = cc) {x : Int} {off : Int} {tgt : Nat} (hdg : decode cc pc = .ok (.ifCond .lt off, 3)) (ht : (pc : Int) + off = (tgt : Int)) (h1 : i32 x) (kt : x < 0 → W p l e R s m args below meth c H locs cells slots Q (F0 m tgt ls rest)) (kf : 0 ≤ x → W p l e R s m args below meth c H locs cells slots Q (F0 m (pc + 3) ls rest)) : W p l e R s m args below meth c H locs cells slots Q (F0 m pc ls (.int (iI x) :: rest)) :=
  lv_if_lt hx hb hdg ht (fun q => kt (by rw [← iI_zero] at q; exact (iI_lt h1 i32_0).mp q)) (fun q => kf (Int.not_lt.mp (fun w => q (by rw [← iI_zero]; exact (iI_lt h1 i32_0).mpr w))))
theorem ii_icmp_lt (hx : p.tables.exec = Jvm.exec) (hb : c.code = cc) {x y : Int} {off : Int} {tgt : Nat} (hdg : decode cc pc = .ok (.if_icmp .lt off, 3)) (ht : (pc : Int) + off = (tgt : Int)) (h1 : i32 x) (h2 : i32 y) (kt : x < y → W p l e R s m args below meth c H locs cells slots Q (F0 m tgt ls rest)) (kf : y ≤ x → W p l e R s m args below meth c H locs cells slots Q (F0 m (pc + 3) ls rest)) : W p l e R s m args below meth c H locs cells slots Q (F0 m pc ls (.int (iI y) :: .int (iI x) :: rest)) :=
  lv_icmp_lt hx hb hdg ht (fun q => kt (by exact (iI_lt h1 h2).mp q)) (fun q => kf (Int.not_lt.mp (fun w => q (by exact (iI_lt h1 h2).mpr w))))
theorem ii_if_ge (hx : p.tables.exec = Jvm.exec) (hb : c.code = cc) {x : Int} {off : Int} {tgt : Nat} (hdg : decode cc pc = .ok (.ifCond .ge off, 3)) (ht : (pc : Int) + off = (tgt : Int)) (h1 : i32 x) (kt : 0 ≤ x → W p l e R s m args below meth c H locs cells slots Q (F0 m tgt ls rest)) (kf : x < 0 → W p l e R s m args below meth c H locs cells slots Q (F0 m (pc + 3) ls rest)) : W p l e R s m args below meth c H locs cells slots Q (F0 m pc ls (.int (iI x) :: rest)) :=
  lv_if_ge hx hb hdg ht (fun q => kt (by rw [← iI_zero] at q; exact (iI_le i32_0 h1).mp q)) (fun q => kf (Int.not_le.mp (fun w => q (by rw [← iI_zero]; exact (iI_le i32_0 h1).mpr w))))
theorem ii_icmp_ge (hx : p.tables.exec = Jvm.exec) (hb : c.code = cc) {x y : Int} {off : Int} {tgt : Nat} (hdg : decode cc pc = .ok (.if_icmp .ge off, 3)) (ht : (pc : Int) + off = (tgt : Int)) (h1 : i32 x) (h2 : i32 y) (kt : y ≤ x → W p l e R s m args below meth c H locs cells slots Q (F0 m tgt ls rest)) (kf : x < y → W p l e R s m args below meth c H locs cells slots Q (F0 m (pc + 3) ls rest)) : W p l e R s m args below meth c H locs cells slots Q (F0 m pc ls (.int (iI y) :: .int (iI x) :: rest)) :=
  lv_icmp_ge hx hb hdg ht (fun q => kt (by exact (iI_le h2 h1).mp q)) (fun q => kf (Int.not_le.mp (fun w => q (by exact (iI_le h2 h1).mpr w))))
theorem ii_if_gt (hx : p.tables.exec = Jvm.exec) (hb : c.code = cc) {x : Int} {off : Int} {tgt : Nat} (hdg : decode cc pc = .ok (.ifCond .gt off, 3)) (ht : (pc : Int) + off = (tgt : Int)) (h1 : i32 x) (kt : 0 < x → W p l e R s m args below meth c H locs cells slots Q (F0 m tgt ls rest)) (kf : x ≤ 0 → W p l e R s m args below meth c H locs cells slots Q (F0 m (pc + 3) ls rest)) : W p l e R s m args below meth c H locs cells slots Q (F0 m pc ls (.int (iI x) :: rest)) :=
  lv_if_gt hx hb hdg ht (fun q => kt (by rw [← iI_zero] at q; exact (iI_lt i32_0 h1).mp q)) (fun q => kf (Int.not_lt.mp (fun w => q (by rw [← iI_zero]; exact (iI_lt i32_0 h1).mpr w))))
theorem ii_icmp_gt (hx : p.tables.exec = Jvm.exec) (hb : c.code = cc) {x y : Int} {off : Int} {tgt : Nat} (hdg : decode cc pc = .ok (.if_icmp .gt off, 3)) (ht : (pc : Int) + off = (tgt : Int)) (h1 : i32 x) (h2 : i32 y) (kt : y < x → W p l e R s m args below meth c H locs cells slots Q (F0 m tgt ls rest)) (kf : x ≤ y → W p l e R s m args below meth c H locs cells slots Q (F0 m (pc + 3) ls rest)) : W p l e R s m args below meth c H locs cells slots Q (F0 m pc ls (.int (iI y) :: .int (iI x) :: rest)) :=
  lv_icmp_gt hx hb hdg ht (fun q => kt (by exact (iI_lt h2 h1).mp q)) (fun q => kf (Int.not_lt.mp (fun w => q (by exact (iI_lt h2 h1).mpr w))))
theorem ii_if_le (hx : p.tables.exec = Jvm.exec) (hb : c.code = cc) {x : Int} {off : Int} {tgt : Nat} (hdg : decode cc pc = .ok (.ifCond .le off, 3)) (ht : (pc : Int) + off = (tgt : Int)) (h1 : i32 x) (kt : x ≤ 0 → W p l e R s m args below meth c H locs cells slots Q (F0 m tgt ls rest)) (kf : 0 < x → W p l e R s m args below meth c H locs cells slots Q (F0 m (pc + 3) ls rest)) : W p l e R s m args below meth c H locs cells slots Q (F0 m pc ls (.int (iI x) :: rest)) :=
  lv_if_le hx hb hdg ht (fun q => kt (by rw [← iI_zero] at q; exact (iI_le h1 i32_0).mp q)) (fun q => kf (Int.not_le.mp (fun w => q (by rw [← iI_zero]; exact (iI_le h1 i32_0).mpr w))))
theorem ii_icmp_le (hx : p.tables.exec = Jvm.exec) (hb : c.code = cc) {x y : Int} {off : Int} {tgt : Nat} (hdg : decode cc pc = .ok (.if_icmp .le off, 3)) (ht : (pc : Int) + off = (tgt : Int)) (h1 : i32 x) (h2 : i32 y) (kt : x ≤ y → W p l e R s m args below meth c H locs cells slots Q (F0 m tgt ls rest)) (kf : y < x → W p l e R s m args below meth c H locs cells slots Q (F0 m (pc + 3) ls rest)) : W p l e R s m args below meth c H locs cells slots Q (F0 m pc ls (.int (iI y) :: .int (iI x) :: rest)) :=
  lv_icmp_le hx hb hdg ht (fun q => kt (by exact (iI_le h1 h2).mp q)) (fun q => kf (Int.not_le.mp (fun w => q (by exact (iI_le h1 h2).mpr w))))
theorem ii_iald (hx : p.tables.exec = Jvm.exec) (hb : c.code = cc) (hK : va_K D cl tys s) (hP : va_P D cl ws H) (q0 t0 : Nat) {cA : ClassId} {n : Nat} {F : Nat → Int} (ha : ws[q0]? = some (a, .inl (cA, n, .inl (iA F)))) (ht : tys[t0]? = some (cA, .int)) {z : Int} (k : Nat) (hz : z = (k : Int)) (hk : k < n) (hn : n < 2147483648) (hdg : decode cc pc = .ok (.iaload, 1))
    (kk : W p l e R s m args below meth c H locs cells slots Q (F0 m (pc + 1) ls (.int (iI (F k)) :: rest))) : W p l e R s m args below meth c H locs cells slots Q (F0 m pc ls (.int (iI z) :: .ref a :: rest)) := by
  refine va_iald hx hb hK hP q0 t0 ha ht (iI_in hz hk hn) hdg ?_
  rw [iI_clamp hz (by omega)]
  exact kk
theorem ii_iast (hx : p.tables.exec = Jvm.exec) (hb : c.code = cc) (hK : va_K D cl tys s) (hP : va_P D cl ws H) (hD : va_D A ws) (hS : va_S A H0 H locs) (q0 t0 : Nat) {cA : ClassId} {n : Nat} {F : Nat → Int} (ha : ws[q0]? = some (a, .inl (cA, n, .inl (iA F)))) (ht : tys[t0]? = some (cA, .int)) {z x : Int} (k : Nat) (hz : z = (k : Int)) (hk : k < n) (hn : n < 2147483648) (hdg : decode cc pc = .ok (.iastore, 1))
    (kk : ∀ (H1 : Heap) (locs1 : List Loc), va_P D cl (ws.set q0 (a, .inl (cA, n, .inl (iA (uZ F k x))))) H1 → va_D A (ws.set q0 (a, .inl (cA, n, .inl (iA (uZ F k x))))) → va_S A H0 H1 locs1 → W p l e R s m args below meth c H1 locs1 cells slots Q (F0 m (pc + 1) ls rest)) : W p l e R s m args below meth c H locs cells slots Q (F0 m pc ls (.int (iI x) :: .int (iI z) :: .ref a :: rest)) := by
  refine va_iast hx hb hK hP hD hS q0 t0 ha ht (iI_in hz hk hn) hdg (fun H1 locs1 hP hD hS => ?_)
  rw [iI_clamp hz (by omega), iA_upd] at hP hD
  exact kk H1 locs1 hP hD hS
theorem ii_alen (hx : p.tables.exec = Jvm.exec) (hb : c.code = cc) (hK : va_K D cl tys s) (hP : va_P D cl ws H) (q0 t0 : Nat) {cA : ClassId} {y : vp_A} (ha : ws[q0]? = some (a, .inl (cA, y))) {ty : FieldType} (ht : tys[t0]? = some (cA, ty)) (hdg : decode cc pc = .ok (.arraylength, 1))
    (kk : W p l e R s m args below meth c H locs cells slots Q (F0 m (pc + 1) ls (.int (iI (y.1 : Int)) :: rest))) : W p l e R s m args below meth c H locs cells slots Q (F0 m pc ls (.ref a :: rest)) :=
  va_alen hx hb hK hP q0 t0 ha ht (iI_nat y.1) hdg kk
theorem ii_newa (hx : p.tables.exec = Jvm.exec) (hb : c.code = cc) (harr : (Cond.arrayClass .int).before args s = true) (hK : va_K D cl tys s) (hP : va_P D cl ws H) (hD : va_D A ws) (hS : va_S A H0 H locs) (hA : ∀ q, H0.size ≤ q → A q) (t0 : Nat) {cA : ClassId} (ht : tys[t0]? = some (cA, .int))
    {z : Int} (n : Nat) (hz : z = (n : Int)) (hn : n ≤ 134217728) (hcells : cells + 1 ≤ R.cells) (hslots : slots + n ≤ R.slots) (hdg : decode cc pc = .ok (.newarray .int, 2))
    (kk : ∀ (q : Nat) (H1 : Heap), va_P D cl (ws ++ [(q, .inl (cA, n, .inl (iA (fun _ => 0))))]) H1 → va_D A (ws ++ [(q, .inl (cA, n, .inl (iA (fun _ => 0))))]) → va_S A H0 H1 locs →
      W p l e R s m args below meth c H1 locs (cells + 1) (slots + n) Q (F0 m (pc + 2) ls (.ref q :: rest))) : W p l e R s m args below meth c H locs cells slots Q (F0 m pc ls (.int (iI z) :: rest)) := by
  refine va_newa (atype := .int) (ty := .int) (N' := n) (a0 := (n, .inl (iA (fun _ => 0)))) hx hb harr rfl hK hP hD hS hA (fun cA => rfl) ?_ (iI_clamp hz (by omega)) ?_ hcells hslots hdg (fun q cB H1 hK1 hP1 hD1 hS1 => ?_)
  · intro q
    rw [← iI_zero, iI_lt (by omega) (by omega)] at q
    omega
  · show n * 4 ≤ 536870912
    omega
  · have e : cB = cA := by
      have h1 := va_nm_int (hK1.2 tys.length (cB, .int) (by rw [List.getElem?_append_right (Nat.le_refl _), Nat.sub_self]; rfl)).2
      have h2 := va_nm_int (hK.2 t0 (cA, .int) ht).2
      exact Option.some.inj (h1.symm.trans h2)
    subst e
    exact kk q H1 hP1 hD1 hS1
theorem ii_mmax (hx : p.tables.exec = Jvm.exec) (hb : c.code = cc) (hml : c.maxLocals = ls.size) {own : String} {index : Nat} (hown : s.vm.findClass own = some m.cls) (hlink : (Cond.methodLink own index Lib.Math.max.name).before args s = true) (hstat : (Cond.static Lib.Math.max.name).before args s = true) (hini : (Cond.initialized "java/lang/Math").before args s = true) (hcode : (Cond.code Lib.Math.max.name Lib.Math.max.code 2 (some .int)).before args s = true)
    (hframes : 1 ≤ R.frames) (hlocals : (rest.map fun v => v.category).sum + 13 ≤ R.locals) (hc : cells ≤ R.cells) (hs : slots ≤ R.slots) {x y : Int} (h1 : i32 x) (h2 : i32 y) (hdg : decode cc pc = .ok (.invokestatic index, 3))
    (kk : W p l e R s m args below meth c H locs cells slots Q (F0 m (pc + 3) ls (.int (iI (max x y)) :: rest))) : W p l e R s m args below meth c H locs cells slots Q (F0 m pc ls (.int (iI y) :: .int (iI x) :: rest)) :=
  va_mmax hx hb hml hown hlink hstat hini hcode hframes hlocals hc hs hdg (by rw [iI_max h1 h2]; exact kk)
theorem ii_mmin (hx : p.tables.exec = Jvm.exec) (hb : c.code = cc) (hml : c.maxLocals = ls.size) {own : String} {index : Nat} (hown : s.vm.findClass own = some m.cls) (hlink : (Cond.methodLink own index Lib.Math.min.name).before args s = true) (hstat : (Cond.static Lib.Math.min.name).before args s = true) (hini : (Cond.initialized "java/lang/Math").before args s = true) (hcode : (Cond.code Lib.Math.min.name Lib.Math.min.code 2 (some .int)).before args s = true)
    (hframes : 1 ≤ R.frames) (hlocals : (rest.map fun v => v.category).sum + 13 ≤ R.locals) (hc : cells ≤ R.cells) (hs : slots ≤ R.slots) {x y : Int} (h1 : i32 x) (h2 : i32 y) (hdg : decode cc pc = .ok (.invokestatic index, 3))
    (kk : W p l e R s m args below meth c H locs cells slots Q (F0 m (pc + 3) ls (.int (iI (min x y)) :: rest))) : W p l e R s m args below meth c H locs cells slots Q (F0 m pc ls (.int (iI y) :: .int (iI x) :: rest)) :=
  va_mmin hx hb hml hown hlink hstat hini hcode hframes hlocals hc hs hdg (by rw [iI_min h1 h2]; exact kk)
theorem ii_copy (hx : p.tables.exec = Jvm.exec) (hb : c.code = cc) (hml : c.maxLocals = ls.size) {own : String} {index : Nat} (hown : s.vm.findClass own = some m.cls) (hlink : (Cond.methodLink own index arraycopyName).before args s = true) (hnat : (Cond.native arraycopyName).before args s = true) (hstat : (Cond.static arraycopyName).before args s = true) (hini : (Cond.initialized "java/lang/System").before args s = true)
    (hK : va_K D cl tys s) (hP : va_P D cl ws H) (hD : va_D A ws) (hS : va_S A H0 H locs) (q0 q1 t0 : Nat) {a0 : Nat} {cA : ClassId} {n0 n1 : Nat} {F G : Nat → Int} (ha0 : ws[q0]? = some (a0, .inl (cA, n0, .inl (iA F)))) (ha1 : ws[q1]? = some (a, .inl (cA, n1, .inl (iA G)))) (ht : tys[t0]? = some (cA, .int))
    {zs zd zn : Int} (sp dp n : Nat) (h1 : zs = (sp : Int)) (h2 : zd = (dp : Int)) (h3 : zn = (n : Int)) (h4 : sp + n ≤ n0) (h5 : dp + n ≤ n1) (g0 : n0 < 2147483648) (g1 : n1 < 2147483648)
    (hframes : 1 ≤ R.frames) (hlocals : (rest.map fun v => v.category).sum + (nativeFrameWords "java/lang/System" "arraycopy" 5 + 11) ≤ R.locals) (hdg : decode cc pc = .ok (.invokestatic index, 3))
    (kk : ∀ (H1 : Heap) (locs1 : List Loc), va_P D cl (ws.set q1 (a, .inl (cA, n1, .inl (iA (va_cpy F G sp dp n))))) H1 → va_D A (ws.set q1 (a, .inl (cA, n1, .inl (iA (va_cpy F G sp dp n))))) → va_S A H0 H1 locs1 → W p l e R s m args below meth c H1 locs1 cells slots Q (F0 m (pc + 3) ls rest)) : W p l e R s m args below meth c H locs cells slots Q (F0 m pc ls (.int (iI zn) :: .int (iI zd) :: .ref a :: .int (iI zs) :: .ref a0 :: rest)) := by
  have nn : ∀ {z : Int} {k : Nat}, z = (k : Int) → k < 2147483648 → ¬ iI z < 0 := by
    intro z k h1 h2 q
    rw [← iI_zero, iI_lt (by omega) (by omega)] at q
    omega
  have e1 := iI_clamp h1 (by omega)
  have e2 := iI_clamp h2 (by omega)
  have e3 := iI_clamp h3 (by omega)
  refine va_copyi hx hb hml hown hlink hnat hstat hini hK hP hD hS q0 q1 t0 t0 ha0 ha1 ht ht rfl (nn h1 (by omega)) (nn h2 (by omega)) (nn h3 (by omega)) (by rw [e1, e3]; exact h4) (by rw [e2, e3]; exact h5) (fun _ _ => rfl) hframes hlocals hdg (fun H1 locs1 hP hD hS => ?_)
  rw [e1, e2, e3, iA_cpy] at hP hD
  exact kk H1 locs1 hP hD hS
theorem ii_lxor (hx : p.tables.exec = Jvm.exec) (hb : c.code = cc) {x y : Int} (hdg : decode cc pc = .ok (.lxor, 1)) (h1 : i64 x) (h2 : i64 y) (k : ∀ z : Int, i64 z → (z < 0 ↔ ¬ (x < 0 ↔ y < 0)) → W p l e R s m args below meth c H locs cells slots Q (F0 m (pc + 1) ls (.long (lI z) :: rest))) : W p l e R s m args below meth c H locs cells slots Q (F0 m pc ls (.long (lI y) :: .long (lI x) :: rest)) := by
  obtain ⟨z, e1, e2, e3⟩ := lI_xor h1 h2
  exact lv_lxor hx hb hdg (by rw [e1]; exact k z e2 e3)
end II
/-! CONTRACTS: pR (a method that only reads its world) and pW (one that writes), their ends, and the rows of calls over them -/
def isNest : Cond → Bool
  | .fieldLinkNest _ _ _ _ _ _ => true
  | .methodLinkNest _ _ _ _ => true
  | _ => false
def NW (nw : List Cond) (U : State) : Prop := ∀ w ∈ nw, va_Nw w U
theorem NW.warm {nw : List Cond} (hn : nw.all isNest = true) {s U : State} (hW : s.WarmedH U.vm) (h : NW nw s) : NW nw U := by
  intro w hw
  have h1 := h w hw
  have h2 := List.all_eq_true.mp hn w hw
  cases w <;> first | exact (Bool.false_ne_true h2).elim | exact va_Nw.warmF hW h1 | exact va_Nw.warmM hW h1
theorem NW.same {nw : List Cond} (hn : nw.all isNest = true) {u U : State} (hv : u.vm = U.vm) (h : NW nw u) : NW nw U := by
  intro w hw
  have h1 := h w hw
  have h2 := List.all_eq_true.mp hn w hw
  cases w <;> first | exact (Bool.false_ne_true h2).elim | exact va_Nw.same rfl hv h1
def KW (D : va_G) (cl : List vw_C) (tys : List (ClassId × FieldType)) (nw : List Cond) (U : State) : Prop := va_K D cl tys U ∧ nw.all isNest = true ∧ NW nw U
theorem KW.warm {D : va_G} {cl : List vw_C} {tys : List (ClassId × FieldType)} {nw : List Cond} {s U : State} (hW : s.WarmedH U.vm) (h : KW D cl tys nw s) : KW D cl tys nw U := ⟨va_K.moved hW.alike h.1, h.2.1, h.2.2.warm h.2.1 hW⟩
theorem KW.call {D : va_G} {cl : List vw_C} {tys : List (ClassId × FieldType)} {nw : List Cond} {U : State} (g : JFrame) (mk : MethodId) (a : Array Value) (h : KW D cl tys nw U) : KW D cl tys nw (U.calling g mk a) := ⟨va_K.moved (u := U) (U := U.calling g mk a) (Vm.Alike.refl U.vm) h.1, h.2.1, NW.same (u := U) (U := U.calling g mk a) h.2.1 rfl h.2.2⟩
def pR (av : List Value) (D : va_G) (cl : List vw_C) (tys : List (ClassId × FieldType)) (nw : List Cond) (ws : va_W) : Array Value → State → Prop := va_Pc av (fun U => va_P D cl ws U.heap ∧ KW D cl tys nw U)
def pW (av : List Value) (D : va_G) (cl : List vw_C) (tys : List (ClassId × FieldType)) (nw : List Cond) (ws : va_W) (sz : Nat) : Array Value → State → Prop := va_Pc av (fun U => U.heap.size = sz ∧ va_P D cl ws U.heap ∧ KW D cl tys nw U ∧ va_D (fun _ => True) ws)
def qI (post : Int → Prop) : Array Value → State → Outcome → State → Prop := vp_Si (fun r => ∃ z : Int, r = iI z ∧ post z)
def qL (post : Int → Prop) : Array Value → State → Outcome → State → Prop := vp_Sl (fun r => ∃ z : Int, r = lI z ∧ post z)
def qW {S : Type} (post : Int → S → Prop) (D : va_G) (cl : List vw_C) (wc : va_W) (sz : Nat) (w1 : S → va_W) : Array Value → State → Outcome → State → Prop := va_Qi (fun (r : Int32) (u : S) => ∃ z : Int, r = iI z ∧ post z u) (fun (u : S) (t : State) => va_P D cl (w1 u) t.heap ∧ va_D (va_A wc sz) (w1 u)) (va_A wc sz)
def qV {S : Type} (post : S → Prop) (D : va_G) (cl : List vw_C) (wc : va_W) (sz : Nat) (w1 : S → va_W) : Array Value → State → Outcome → State → Prop := va_Qv post (fun (u : S) (t : State) => va_P D cl (w1 u) t.heap ∧ va_D (va_A wc sz) (w1 u)) (va_A wc sz)
theorem nar_b {z : Int} (h : z = 0 ∨ z = 1) : narrow .boolean (.int (iI z)) = .int (iI z) := by rcases h with rfl | rfl <;> decide +kernel
section CC
variable {p : Program} {l : Launch} {e : Env} {R : Room} {s : State} {m : MethodId} {args : Array Value} {below : List Frame} {meth : Method} {c : Code} {H : Heap} {locs : List Loc} {cells slots : Nat} {Q : State → Prop}
variable {cc : ByteArray} {pc : Nat} {ls : Array Slot} {rest st0 : List Value} {D : va_G} {cl : List vw_C} {A : Nat → Prop} {a : Array Value} {tys : List (ClassId × FieldType)} {ws wc wr : va_W} {H0 : Heap} {nw : List Cond} {av : List Value} {mc ms sz : Nat} {b : Nat} {C : String}
theorem pR.pre (hP : va_P D cl wc H) (hK : KW D cl tys nw s) : PreS s H (pR av D cl tys nw wc) av := ⟨fun _ _ g mk q => ⟨q.1, q.2.1, q.2.2.call g mk _⟩, fun U hU hW => ⟨rfl, by rw [hU]; exact hP, hK.warm hW⟩⟩
theorem pR.preV (hr : ∃ cell : Cell, H[b]? = some cell ∧ cell.vm.isStatics = false ∧ s.vm.findClass C = some cell.cls) (hP : va_P D cl wc H) (hK : KW D cl tys nw s) : PreV s H C b (pR (.ref b :: av) D cl tys nw wc) av := ⟨fun _ _ g mk q => ⟨q.1, q.2.1, q.2.2.call g mk _⟩, hr, fun U hU hW => ⟨rfl, by rw [hU]; exact hP, hK.warm hW⟩⟩
theorem pW.pre (hP : va_P D cl wc H) (hD : va_D A wc) (hK : KW D cl tys nw s) : PreS s H (pW av D cl tys nw wc H.size) av := ⟨fun _ _ g mk q => ⟨q.1, q.2.1, q.2.2.1, q.2.2.2.1.call g mk _, q.2.2.2.2⟩, fun U hU hW => ⟨rfl, by rw [hU], by rw [hU]; exact hP, hK.warm hW, hD.weaken (fun _ _ _ _ => trivial)⟩⟩
theorem pW.preV (hr : ∃ cell : Cell, H[b]? = some cell ∧ cell.vm.isStatics = false ∧ s.vm.findClass C = some cell.cls) (hP : va_P D cl wc H) (hD : va_D A wc) (hK : KW D cl tys nw s) : PreV s H C b (pW (.ref b :: av) D cl tys nw wc H.size) av := ⟨fun _ _ g mk q => ⟨q.1, q.2.1, q.2.2.1, q.2.2.2.1.call g mk _, q.2.2.2.2⟩, hr, fun U hU hW => ⟨rfl, by rw [hU], by rw [hU]; exact hP, hK.warm hW, hD.weaken (fun _ _ _ _ => trivial)⟩⟩
/-- the ends of a method that reads -/
theorem rd_iret {post : Int → Prop} {z : Int} (hx : p.tables.exec = Jvm.exec) (hb : c.code = cc) (hr : meth.sig.returnType = some .int) (hlocks : meth.locks = false) (hz : post z) (hdg : decode cc pc = .ok (.ireturn, 1)) : W p l e R s m args below meth c s.heap [] cells slots (MQ below (qI post) args s cells slots (fun _ => False)) (F0 m pc ls [.int (iI z)]) :=
  W.iret (v := iI z) hx hb hr (fun t ht _ => ⟨iI z, rfl, ⟨z, rfl, hz⟩, ht⟩) (fun _ h => absurd h List.not_mem_nil) hdg hlocks
theorem rd_zret {post : Int → Prop} {z : Int} (hx : p.tables.exec = Jvm.exec) (hb : c.code = cc) (hr : meth.sig.returnType = some .boolean) (hlocks : meth.locks = false) (hn : narrow .boolean (.int (iI z)) = .int (iI z)) (hz : post z) (hdg : decode cc pc = .ok (.ireturn, 1)) : W p l e R s m args below meth c s.heap [] cells slots (MQ below (qI post) args s cells slots (fun _ => False)) (F0 m pc ls [.int (iI z)]) :=
  W.zret (v := iI z) hx hb hr hn (fun t ht _ => ⟨iI z, rfl, ⟨z, rfl, hz⟩, ht⟩) (fun _ h => absurd h List.not_mem_nil) hdg hlocks
theorem rd_lret {post : Int → Prop} {z : Int} (hx : p.tables.exec = Jvm.exec) (hb : c.code = cc) (hr : meth.sig.returnType = some .long) (hlocks : meth.locks = false) (hz : post z) (hdg : decode cc pc = .ok (.lreturn, 1)) : W p l e R s m args below meth c s.heap [] cells slots (MQ below (qL post) args s cells slots (fun _ => False)) (F0 m pc ls [.long (lI z)]) :=
  W.lret (v := lI z) hx hb hr (fun t ht _ => ⟨lI z, rfl, ⟨z, rfl, hz⟩, ht⟩) (fun _ h => absurd h List.not_mem_nil) hdg hlocks
/-- the ends of a method that writes -/
theorem wr_iret {S : Type} {post : Int → S → Prop} {w1 : S → va_W} {z : Int} (u : S) (hx : p.tables.exec = Jvm.exec) (hb : c.code = cc) (hr : meth.sig.returnType = some .int) (hlocks : meth.locks = false) (hAe : va_A wc s.heap.size = A) (hP : va_P D cl (w1 u) H) (hD : va_D A (w1 u)) (hS : va_S A s.heap H locs) (hz : post z u) (hdg : decode cc pc = .ok (.ireturn, 1)) : W p l e R s m args below meth c H locs cells slots (MQ below (qW post D cl wc s.heap.size w1) args s cells slots (va_A wc s.heap.size)) (F0 m pc ls [.int (iI z)]) := by
  subst hAe
  exact W.iret (v := iI z) hx hb hr (fun t ht _ => ⟨⟨iI z, u, rfl, ⟨z, rfl, hz⟩, by rw [ht]; exact hP, hD⟩, hS.F ht⟩) hS.2.2 hdg hlocks
theorem wr_zret {S : Type} {post : Int → S → Prop} {w1 : S → va_W} {z : Int} (u : S) (hx : p.tables.exec = Jvm.exec) (hb : c.code = cc) (hr : meth.sig.returnType = some .boolean) (hlocks : meth.locks = false) (hn : narrow .boolean (.int (iI z)) = .int (iI z)) (hAe : va_A wc s.heap.size = A) (hP : va_P D cl (w1 u) H) (hD : va_D A (w1 u)) (hS : va_S A s.heap H locs) (hz : post z u) (hdg : decode cc pc = .ok (.ireturn, 1)) : W p l e R s m args below meth c H locs cells slots (MQ below (qW post D cl wc s.heap.size w1) args s cells slots (va_A wc s.heap.size)) (F0 m pc ls [.int (iI z)]) := by
  subst hAe
  exact W.zret (v := iI z) hx hb hr hn (fun t ht _ => ⟨⟨iI z, u, rfl, ⟨z, rfl, hz⟩, by rw [ht]; exact hP, hD⟩, hS.F ht⟩) hS.2.2 hdg hlocks
theorem wr_vret {S : Type} {post : S → Prop} {w1 : S → va_W} (u : S) (hx : p.tables.exec = Jvm.exec) (hb : c.code = cc) (hr : meth.sig.returnType = none) (hlocks : meth.locks = false) (hAe : va_A wc s.heap.size = A) (hP : va_P D cl (w1 u) H) (hD : va_D A (w1 u)) (hS : va_S A s.heap H locs) (hz : post u) (hdg : decode cc pc = .ok (.return_, 1)) : W p l e R s m args below meth c H locs cells slots (MQ below (qV post D cl wc s.heap.size w1) args s cells slots (va_A wc s.heap.size)) (F0 m pc ls []) := by
  subst hAe
  exact W.vret hx hb hr (fun t ht _ => ⟨⟨u, rfl, hz, by rw [ht]; exact hP, hD⟩, hS.F ht⟩) hS.2.2 hdg hlocks
/-- calls of methods that read -/
theorem cs_i {post : Int → Prop} (hr : va_Run p l e R s m args below meth c H locs cells slots 0 0 (F0 m pc ls st0) rest (qI post a) (fun _ => False))
    (kk : ∀ z : Int, post z → W p l e R s m args below meth c H locs cells slots Q (F0 m (pc + 3) ls (.int (iI z) :: rest))) : W p l e R s m args below meth c H locs cells slots Q (F0 m pc ls st0) := by
  intro T hT X
  obtain ⟨v, st₀, t, T', L, h0, X', hL, e1, e2, ⟨r, hv, ⟨z, hz, hp⟩, hh⟩, st⟩ := hr T hT X
  cases hv
  subst hz
  obtain ⟨t2, a1, b1⟩ := kk z hp T' (by rw [e1, hh, h0]) (Stand.forget X' (fun q h => (hL q h).elim))
  exact ⟨t2, st t2 a1, b1⟩
theorem cs_l {post : Int → Prop} (hr : va_Run p l e R s m args below meth c H locs cells slots 0 0 (F0 m pc ls st0) rest (qL post a) (fun _ => False))
    (kk : ∀ z : Int, post z → W p l e R s m args below meth c H locs cells slots Q (F0 m (pc + 3) ls (.long (lI z) :: rest))) : W p l e R s m args below meth c H locs cells slots Q (F0 m pc ls st0) := by
  intro T hT X
  obtain ⟨v, st₀, t, T', L, h0, X', hL, e1, e2, ⟨r, hv, ⟨z, hz, hp⟩, hh⟩, st⟩ := hr T hT X
  cases hv
  subst hz
  obtain ⟨t2, a1, b1⟩ := kk z hp T' (by rw [e1, hh, h0]) (Stand.forget X' (fun q h => (hL q h).elim))
  exact ⟨t2, st t2 a1, b1⟩
/-- calls of methods that write: the callee's cells wc stand at isC, the rest wr at isR -/
theorem cw_i {S : Type} {post : Int → S → Prop} {w1 : S → va_W} (hP : va_P D cl ws H) (hD : va_D A ws) (hS : va_S A H0 H locs) (hA : ∀ q, H0.size ≤ q → A q) (isC isR : List Nat) (hC : isC.map (fun i => ws[i]?) = wc.map some) (hR : isR.map (fun i => ws[i]?) = wr.map some) (hn : va_nd isR = true) (hdis : ∀ i ∈ isR, i ∉ isC)
    (hr : va_Run p l e R s m args below meth c H locs cells slots mc ms (F0 m pc ls st0) rest (qW post D cl wc H.size w1 a) (va_A wc H.size))
    (kk : ∀ (z : Int) (u : S) (H1 : Heap) (locs1 : List Loc), post z u → va_P D cl (wr ++ w1 u) H1 → va_D A (wr ++ w1 u) → va_S A H0 H1 locs1 → W p l e R s m args below meth c H1 locs1 (cells + mc) (slots + ms) Q (F0 m (pc + 3) ls (.int (iI z) :: rest))) : W p l e R s m args below meth c H locs cells slots Q (F0 m pc ls st0) := by
  have hF := va_free (wc := wc) hD hS hA isC hC
  refine va_calli hr hS (fun q _ h => hF q h) hF (fun r u t H1 locs1 ht hvm hw hB hz1 hk1 hS1 => ?_)
  obtain ⟨z, rfl, hz⟩ := hw
  obtain ⟨hP1, hD1⟩ := hB
  rw [ht] at hP1
  obtain ⟨hP2, hD2⟩ := va_join (wr := wr) (w1 := w1 u) hP hD isC isR hC hR hn hdis hk1 hF hP1 hD1
  exact kk z u H1 locs1 hz hP2 hD2 hS1
theorem cw_v {S : Type} {post : S → Prop} {w1 : S → va_W} (hP : va_P D cl ws H) (hD : va_D A ws) (hS : va_S A H0 H locs) (hA : ∀ q, H0.size ≤ q → A q) (isC isR : List Nat) (hC : isC.map (fun i => ws[i]?) = wc.map some) (hR : isR.map (fun i => ws[i]?) = wr.map some) (hn : va_nd isR = true) (hdis : ∀ i ∈ isR, i ∉ isC)
    (hr : va_Run p l e R s m args below meth c H locs cells slots mc ms (F0 m pc ls st0) rest (qV post D cl wc H.size w1 a) (va_A wc H.size))
    (kk : ∀ (u : S) (H1 : Heap) (locs1 : List Loc), post u → va_P D cl (wr ++ w1 u) H1 → va_D A (wr ++ w1 u) → va_S A H0 H1 locs1 → W p l e R s m args below meth c H1 locs1 (cells + mc) (slots + ms) Q (F0 m (pc + 3) ls rest)) : W p l e R s m args below meth c H locs cells slots Q (F0 m pc ls st0) := by
  have hF := va_free (wc := wc) hD hS hA isC hC
  refine va_callv hr hS (fun q _ h => hF q h) hF (fun u t H1 locs1 ht hvm hw hB hz1 hk1 hS1 => ?_)
  obtain ⟨hP1, hD1⟩ := hB
  rw [ht] at hP1
  obtain ⟨hP2, hD2⟩ := va_join (wr := wr) (w1 := w1 u) hP hD isC isR hC hR hn hdis hk1 hF hP1 hD1
  exact kk u H1 locs1 hw hP2 hD2 hS1
end CC
/-- Met.ofW for a method of the JDK that isn't overridden -/
theorem ofWJ {l : Launch} {y : MethodName} {ws ws' : List Cond} {rm : Room} {Pc : Array Value → State → Prop} {Qc : Array Value → State → Outcome → State → Prop} {mc ms : Nat} {free : Addr → Prop} {cc : ByteArray} {maxL : Nat} {ret : Option FieldType}
    (hy : plainFor y = true) (hw : ws = Cond.code y cc maxL ret :: ws')
    (body : ∀ p e s m args below meth c s₁, BodyLoose p l y (headSpec ws rm) cc maxL ret e s m args below meth c s₁ → c.maxLocals = maxL → Pc args s →
      W p l e (headSpec ws rm).room s m args below meth c s.heap [] 0 0 (MQ below Qc args s mc ms free) (entryFrame m args maxL)) : Met l y ws rm Pc Qc mc ms free := by
  refine MetFree.of_bodySF (code := cc) (maxLocals := maxL) (ret := ret) hy ?_ ?_
  · intro args s m h hn
    obtain ⟨meth, c, h1, h2, h3, h4, h5, h6, -, -⟩ := Cond.code_spec hn (atoms_spec (ws := ws) h _ (by rw [hw]; exact List.mem_cons_self))
    exact ⟨meth, c, h1, h2, h3, h4, h5, h6⟩
  · intro p e s m args below meth c s₁ B hml hP _
    have hh0 : s₁.heap = s.heap := by rw [B.state]; rfl
    obtain ⟨t, a1, o, b1, b2, b3⟩ := body p e s m args below meth c s₁ B hml hP s₁ hh0 (Stand.of_body B)
    exact ⟨t, o, a1, b1, b2, ⟨b3.1, b3.2⟩⟩
end
section
/-! THE WORDS FOR THE STATE: sums, an edge's step and column, runs as triples (row, first column, column behind the last) -/
def sm (f : Nat → Int) : Nat → Int
  | 0 => 0
  | n + 1 => sm f n + f n
def stZ (b d y : Int) : Int := if b ≤ y ∧ y < d then 1 else if d ≤ y ∧ y < b then -1 else 0
def coZ (a b c d y : Int) : Int := (a - (-(c - a) * (y - b)).fdiv (d - b) + 32767) / 65536
/-- what an edge gives to the winding number at a column -/
def ctZ (a b c d y k : Int) : Int := if stZ b d y ≠ 0 ∧ coZ a b c d y ≤ k then stZ b d y else 0
/-- the winding number at the row's centre y and the column k, by the first n points -/
def wiZ (fX fY fN : Nat → Int) (n : Nat) (y k : Int) : Int := sm (fun i => ctZ (fX i) (fY i) (fX (fN i).toNat) (fY (fN i).toNat) y k) n
abbrev Run3 : Type := Nat × Nat × Nat
def enc (x : Run3) : Nat := x.1 * 262144 + x.2.1 * 512 + x.2.2
def runOk (cs rs : Nat) (x : Run3) : Prop := x.1 < rs ∧ x.2.1 < x.2.2 ∧ x.2.2 ≤ cs
/-- a row of ints holds a list of runs from a place on -/
def segL (f : Nat → Int) : Nat → List Run3 → Prop
  | _, [] => True
  | i, x :: T => f i = ((enc x : Nat) : Int) ∧ segL f (i + 1) T
def lenS : List Run3 → Nat
  | [] => 0
  | x :: T => (x.2.2 - x.2.1) + lenS T
def memL (L : List Run3) (r k : Nat) : Prop := ∃ x ∈ L, x.1 = r ∧ x.2.1 ≤ k ∧ k < x.2.2
theorem enc_row {x : Run3} {cs rs : Nat} (h : runOk cs rs x) (hc : cs ≤ 256) : enc x / 262144 = x.1 := by
  obtain ⟨h1, h2, h3⟩ := h
  unfold enc
  omega
theorem enc_from {x : Run3} {cs rs : Nat} (h : runOk cs rs x) (hc : cs ≤ 256) : enc x / 512 % 512 = x.2.1 := by
  obtain ⟨h1, h2, h3⟩ := h
  unfold enc
  omega
theorem enc_end {x : Run3} {cs rs : Nat} (h : runOk cs rs x) (hc : cs ≤ 256) : enc x % 512 = x.2.2 := by
  obtain ⟨h1, h2, h3⟩ := h
  unfold enc
  omega
theorem enc_lt {x : Run3} {cs rs : Nat} (h : runOk cs rs x) (hc : cs ≤ 256) (hr : rs ≤ 256) : enc x < 134217728 := by
  obtain ⟨h1, h2, h3⟩ := h
  unfold enc
  omega
theorem stZ_cases (b d y : Int) : (stZ b d y = 1 ∧ b ≤ y ∧ y < d) ∨ (stZ b d y = -1 ∧ d ≤ y ∧ y < b) ∨ (stZ b d y = 0 ∧ ¬ (b ≤ y ∧ y < d) ∧ ¬ (d ≤ y ∧ y < b)) := by
  unfold stZ
  by_cases h1 : b ≤ y ∧ y < d
  · rw [if_pos h1]; exact Or.inl ⟨rfl, h1⟩
  · rw [if_neg h1]
    by_cases h2 : d ≤ y ∧ y < b
    · rw [if_pos h2]; exact Or.inr (Or.inl ⟨rfl, h2⟩)
    · rw [if_neg h2]; exact Or.inr (Or.inr ⟨rfl, h1, h2⟩)
/-! CUTTING RUNS: cutG f r n c o scans n columns from c on; o is the start of the run that stands begun -/
def cutG (f : Nat → Bool) (r : Nat) : Nat → Nat → Option Nat → List Run3
  | 0, _, none => []
  | 0, c, some a => [(r, a, c)]
  | n + 1, c, none => if f c = true then cutG f r n (c + 1) (some c) else cutG f r n (c + 1) none
  | n + 1, c, some a => if f c = true then cutG f r n (c + 1) (some a) else (r, a, c) :: cutG f r n (c + 1) none
theorem cutG_S0 (f : Nat → Bool) (r n c : Nat) : cutG f r (n + 1) c none = if f c = true then cutG f r n (c + 1) (some c) else cutG f r n (c + 1) none := rfl
theorem cutG_S1 (f : Nat → Bool) (r n c a : Nat) : cutG f r (n + 1) c (some a) = if f c = true then cutG f r n (c + 1) (some a) else (r, a, c) :: cutG f r n (c + 1) none := rfl
def cutA (g : Nat → Nat → Bool) : List Run3 → List Run3
  | [] => []
  | x :: T => cutG (g x.1) x.1 (x.2.2 - x.2.1) x.2.1 none ++ cutA g T
theorem cutA_app (g : Nat → Nat → Bool) (S T : List Run3) : cutA g (S ++ T) = cutA g S ++ cutA g T := by
  induction S with
  | nil => rfl
  | cons x S ih => simp only [List.cons_append, cutA, ih, List.append_assoc]
theorem cutG_congr {f g : Nat → Bool} (r : Nat) : ∀ (n c : Nat) (o : Option Nat), (∀ k, c ≤ k → k < c + n → f k = g k) → cutG f r n c o = cutG g r n c o := by
  intro n
  induction n with
  | zero => intro c o _; cases o <;> rfl
  | succ n ih =>
    intro c o h
    have h0 := h c (Nat.le_refl _) (by omega)
    have h1 : ∀ o, cutG f r n (c + 1) o = cutG g r n (c + 1) o := fun o => ih (c + 1) o (fun k h2 h3 => h k (by omega) (by omega))
    cases o with
    | none => simp only [cutG, h0, h1]
    | some a => simp only [cutG, h0, h1]
theorem cutG_split {h : Nat → Bool} (r n : Nat) : ∀ (m a : Nat) (o : Option Nat), h (a + m) = false → cutG h r (m + (n + 1)) a o = cutG h r m a o ++ cutG h r n (a + m + 1) none := by
  intro m
  induction m with
  | zero =>
    intro a o hf
    rw [Nat.add_zero] at hf
    rw [Nat.zero_add, Nat.add_zero]
    cases o with
    | none => simp only [cutG, hf, List.nil_append]; rfl
    | some b => simp only [cutG, hf, List.cons_append, List.nil_append]; rfl
  | succ m ih =>
    intro a o hf
    have e : m + 1 + (n + 1) = (m + (n + 1)) + 1 := by omega
    rw [e]
    have hf2 : h (a + 1 + m) = false := by rw [show a + 1 + m = a + (m + 1) by omega]; exact hf
    have e2 : a + (m + 1) + 1 = a + 1 + m + 1 := by omega
    rw [e2]
    cases o with
    | none =>
      rw [cutG_S0 h r (m + (n + 1)) a, cutG_S0 h r m a]
      by_cases hc : h a = true
      · rw [if_pos hc, if_pos hc]
        exact ih (a + 1) (some a) hf2
      · rw [if_neg hc, if_neg hc]
        exact ih (a + 1) none hf2
    | some b =>
      rw [cutG_S1 h r (m + (n + 1)) a b, cutG_S1 h r m a b]
      by_cases hc : h a = true
      · rw [if_pos hc, if_pos hc]
        exact ih (a + 1) (some b) hf2
      · rw [if_neg hc, if_neg hc, ih (a + 1) none hf2, List.cons_append]
/-- cutting the runs of f by g gives the runs of both -/
theorem cutA_cutG (f : Nat → Bool) (g : Nat → Nat → Bool) (r : Nat) : ∀ (n c : Nat), (cutA g (cutG f r n c none) = cutG (fun k => f k && g r k) r n c none) ∧ (∀ a, a ≤ c → (∀ k, a ≤ k → k < c → f k = true) → cutA g (cutG f r n c (some a)) = cutG (fun k => f k && g r k) r (c - a + n) a none) := by
  intro n
  induction n with
  | zero =>
    intro c
    refine ⟨rfl, fun a ha hf => ?_⟩
    simp only [cutG, cutA, List.append_nil, Nat.add_zero]
    refine cutG_congr r (c - a) a none (fun k h1 h2 => ?_)
    rw [hf k h1 (by omega), Bool.true_and]
  | succ n ih =>
    intro c
    obtain ⟨ih1, ih2⟩ := ih (c + 1)
    constructor
    · simp only [cutG]
      by_cases hc : f c = true
      · rw [if_pos hc, ih2 c (by omega) (fun k h1 h2 => by rw [show k = c by omega]; exact hc), show c + 1 - c + n = n + 1 by omega]
        simp only [cutG]
      · rw [if_neg hc, ih1]
        have hc2 : f c = false := Bool.eq_false_iff.mpr hc
        rw [if_neg (by rw [hc2, Bool.false_and]; exact Bool.false_ne_true)]
    · intro a ha hf
      rw [cutG_S1 f r n c a]
      by_cases hc : f c = true
      · rw [if_pos hc, ih2 a (by omega) (fun k h1 h2 => by
          rcases Nat.lt_or_ge k c with q | q
          · exact hf k h1 q
          · rw [show k = c by omega]; exact hc), show c + 1 - a + n = c - a + (n + 1) by omega]
      · rw [if_neg hc]
        have hc2 : f c = false := Bool.eq_false_iff.mpr hc
        rw [cutG_split (h := fun k => f k && g r k) r n (c - a) a none (by show (f (a + (c - a)) && g r (a + (c - a))) = false; rw [show a + (c - a) = c by omega, hc2, Bool.false_and]), show a + (c - a) + 1 = c + 1 by omega]
        simp only [cutA]
        rw [ih1]
        congr 1
        refine cutG_congr r (c - a) a none (fun k h1 h2 => ?_)
        rw [hf k h1 (by omega), Bool.true_and]
theorem memL_nil (r k : Nat) : ¬ memL [] r k := fun ⟨_, h, _⟩ => absurd h List.not_mem_nil
theorem memL_cons (x : Run3) (T : List Run3) (r k : Nat) : memL (x :: T) r k ↔ (x.1 = r ∧ x.2.1 ≤ k ∧ k < x.2.2) ∨ memL T r k := by
  constructor
  · rintro ⟨y, hy, h⟩
    rcases List.mem_cons.mp hy with q | q
    · left; rw [← q]; exact h
    · right; exact ⟨y, q, h⟩
  · rintro (h | ⟨y, hy, h⟩)
    · exact ⟨x, List.mem_cons_self, h⟩
    · exact ⟨y, List.mem_cons_of_mem _ hy, h⟩
theorem memL_app (S T : List Run3) (r k : Nat) : memL (S ++ T) r k ↔ memL S r k ∨ memL T r k := by
  constructor
  · rintro ⟨y, hy, h⟩
    rcases List.mem_append.mp hy with q | q
    · exact Or.inl ⟨y, q, h⟩
    · exact Or.inr ⟨y, q, h⟩
  · rintro (⟨y, hy, h⟩ | ⟨y, hy, h⟩)
    · exact ⟨y, List.mem_append_left _ hy, h⟩
    · exact ⟨y, List.mem_append_right _ hy, h⟩
/-- the pixels of the runs of f -/
theorem memL_cutG (f : Nat → Bool) (r : Nat) : ∀ (n c : Nat), (∀ r' k, memL (cutG f r n c none) r' k ↔ r' = r ∧ c ≤ k ∧ k < c + n ∧ f k = true) ∧ (∀ a, a ≤ c → ∀ r' k, memL (cutG f r n c (some a)) r' k ↔ r' = r ∧ ((a ≤ k ∧ k < c) ∨ (c ≤ k ∧ k < c + n ∧ f k = true))) := by
  intro n
  induction n with
  | zero =>
    intro c
    refine ⟨fun r' k => ?_, fun a ha r' k => ?_⟩
    · simp only [cutG]
      exact ⟨fun h => absurd h (memL_nil _ _), fun h => by omega⟩
    · simp only [cutG]
      rw [memL_cons]
      constructor
      · rintro (⟨h1, h2, h3⟩ | h)
        · exact ⟨h1.symm, Or.inl ⟨h2, h3⟩⟩
        · exact absurd h (memL_nil _ _)
      · rintro ⟨h1, h2 | h2⟩
        · exact Or.inl ⟨h1.symm, h2⟩
        · omega
  | succ n ih =>
    intro c
    obtain ⟨ih1, ih2⟩ := ih (c + 1)
    refine ⟨fun r' k => ?_, fun a ha r' k => ?_⟩
    · simp only [cutG]
      by_cases hc : f c = true
      · rw [if_pos hc, ih2 c (by omega)]
        constructor
        · rintro ⟨h1, h2 | ⟨h2, h3, h4⟩⟩
          · exact ⟨h1, by omega, by omega, by rw [show k = c by omega]; exact hc⟩
          · exact ⟨h1, by omega, by omega, h4⟩
        · rintro ⟨h1, h2, h3, h4⟩
          refine ⟨h1, ?_⟩
          rcases Nat.lt_or_ge c k with q | q
          · exact Or.inr ⟨q, by omega, h4⟩
          · exact Or.inl ⟨h2, by omega⟩
      · rw [if_neg hc, ih1]
        constructor
        · rintro ⟨h1, h2, h3, h4⟩
          exact ⟨h1, by omega, by omega, h4⟩
        · rintro ⟨h1, h2, h3, h4⟩
          refine ⟨h1, ?_, by omega, h4⟩
          rcases Nat.lt_or_ge c k with q | q
          · exact q
          · exact absurd (by rw [show c = k by omega]; exact h4) hc
    · simp only [cutG]
      by_cases hc : f c = true
      · rw [if_pos hc, ih2 a (by omega)]
        constructor
        · rintro ⟨h1, h2 | ⟨h2, h3, h4⟩⟩
          · refine ⟨h1, ?_⟩
            rcases Nat.lt_or_ge k c with q | q
            · exact Or.inl ⟨h2.1, q⟩
            · exact Or.inr ⟨q, by omega, by rw [show k = c by omega]; exact hc⟩
          · exact ⟨h1, Or.inr ⟨by omega, by omega, h4⟩⟩
        · rintro ⟨h1, h2 | ⟨h2, h3, h4⟩⟩
          · exact ⟨h1, Or.inl ⟨h2.1, by omega⟩⟩
          · refine ⟨h1, ?_⟩
            rcases Nat.lt_or_ge c k with q | q
            · exact Or.inr ⟨q, by omega, h4⟩
            · exact Or.inl ⟨by omega, by omega⟩
      · rw [if_neg hc, memL_cons, ih1]
        constructor
        · rintro (⟨h1, h2, h3⟩ | ⟨h1, h2, h3, h4⟩)
          · exact ⟨h1.symm, Or.inl ⟨h2, h3⟩⟩
          · exact ⟨h1, Or.inr ⟨by omega, by omega, h4⟩⟩
        · rintro ⟨h1, h2 | ⟨h2, h3, h4⟩⟩
          · exact Or.inl ⟨h1.symm, h2⟩
          · refine Or.inr ⟨h1, ?_, by omega, h4⟩
            rcases Nat.lt_or_ge c k with q | q
            · exact q
            · exact absurd (by rw [show c = k by omega]; exact h4) hc
/-- every run of f lies in its row, isn't empty, ends in the columns -/
theorem cutG_ok (f : Nat → Bool) (r cs rs : Nat) (hr : r < rs) : ∀ (n c : Nat) (o : Option Nat), c + n ≤ cs → (∀ a, o = some a → a < c) → ∀ x ∈ cutG f r n c o, runOk cs rs x := by
  intro n
  induction n with
  | zero =>
    intro c o hc ho x hx
    cases o with
    | none => simp [cutG] at hx
    | some a =>
      simp only [cutG, List.mem_singleton] at hx
      subst hx
      exact ⟨hr, ho a rfl, by omega⟩
  | succ n ih =>
    intro c o hc ho x hx
    cases o with
    | none =>
      simp only [cutG] at hx
      split at hx
      · exact ih (c + 1) (some c) (by omega) (fun a h => by cases h; omega) x hx
      · exact ih (c + 1) none (by omega) (fun a h => by cases h) x hx
    | some a =>
      have h0 := ho a rfl
      simp only [cutG] at hx
      split at hx
      · exact ih (c + 1) (some a) (by omega) (fun b h => by cases h; omega) x hx
      · rcases List.mem_cons.mp hx with q | q
        · subst q
          exact ⟨hr, h0, by show c ≤ cs; omega⟩
        · exact ih (c + 1) none (by omega) (fun a h => by cases h) x q
/-- how many runs n columns can have -/
theorem cutG_len (f : Nat → Bool) (r : Nat) : ∀ (n c : Nat), 2 * (cutG f r n c none).length ≤ n + 1 ∧ ∀ a, 2 * (cutG f r n c (some a)).length ≤ n + 2 := by
  intro n
  induction n with
  | zero => intro c; simp [cutG]
  | succ n ih =>
    intro c
    obtain ⟨h1, h2⟩ := ih (c + 1)
    refine ⟨?_, fun a => ?_⟩
    · simp only [cutG]
      split
      · have := h2 c; omega
      · omega
    · simp only [cutG]
      split
      · have := h2 a; omega
      · rw [List.length_cons]; omega
theorem lenS_app (S T : List Run3) : lenS (S ++ T) = lenS S + lenS T := by
  induction S with
  | nil => simp [lenS]
  | cons x S ih => simp only [List.cons_append, lenS, ih]; omega
/-- how many of n columns from c on are in f -/
def cnG (f : Nat → Bool) : Nat → Nat → Nat
  | 0, _ => 0
  | n + 1, c => (if f c = true then 1 else 0) + cnG f n (c + 1)
theorem lenS_cutG (f : Nat → Bool) (r : Nat) : ∀ (n c : Nat), lenS (cutG f r n c none) = cnG f n c ∧ ∀ a, a ≤ c → lenS (cutG f r n c (some a)) = (c - a) + cnG f n c := by
  intro n
  induction n with
  | zero =>
    intro c
    refine ⟨rfl, fun a ha => ?_⟩
    simp only [cutG, lenS, cnG]
  | succ n ih =>
    intro c
    obtain ⟨h1, h2⟩ := ih (c + 1)
    refine ⟨?_, fun a ha => ?_⟩
    · simp only [cutG, cnG]
      split
      · rw [h2 c (by omega)]; omega
      · rw [h1]; omega
    · simp only [cutG, cnG]
      split
      · rw [h2 a (by omega)]; omega
      · simp only [lenS]
        rw [h1]; omega
/-- how many runs begin in n columns from c on; o: whether one stands begun -/
def bgG (f : Nat → Bool) : Nat → Nat → Bool → Nat
  | 0, _, _ => 0
  | n + 1, c, o => (if f c = true ∧ o = false then 1 else 0) + bgG f n (c + 1) (f c)
theorem len_cutG (f : Nat → Bool) (r : Nat) : ∀ (n c : Nat), (cutG f r n c none).length = bgG f n c false ∧ ∀ a, (cutG f r n c (some a)).length = 1 + bgG f n c true := by
  intro n
  induction n with
  | zero => intro c; exact ⟨rfl, fun a => rfl⟩
  | succ n ih =>
    intro c
    obtain ⟨h1, h2⟩ := ih (c + 1)
    refine ⟨?_, fun a => ?_⟩
    · simp only [cutG, bgG]
      by_cases hc : f c = true
      · rw [if_pos hc, if_pos ⟨hc, trivial⟩, h2 c, hc]
      · rw [if_neg hc, if_neg (fun q => hc q.1), h1, Bool.eq_false_iff.mpr hc]; omega
    · simp only [cutG, bgG]
      by_cases hc : f c = true
      · rw [if_pos hc, if_neg (fun q => by simp at q), h2 a, hc]; omega
      · rw [if_neg hc, if_neg (fun q => hc q.1), List.length_cons, h1, Bool.eq_false_iff.mpr hc]; omega
/-! AN EDGE'S COLUMN: exact, and near -/
theorem fd_le {n h t : Int} (hh : 0 < h) : t ≤ n.fdiv h ↔ t * h ≤ n := by
  rw [Int.fdiv_eq_ediv_of_nonneg _ (Int.le_of_lt hh)]
  exact Int.le_ediv_iff_mul_le hh
theorem fd_leN {n h t : Int} (hh : h < 0) : t ≤ n.fdiv h ↔ n ≤ t * h := by
  rw [← Int.neg_fdiv_neg, fd_le (by omega), Int.mul_neg]
  omega
/-- the first column is at most k just when the edge's exact place isn't right of the centre -/
theorem coZ_pos {a b c d y k : Int} (h : 0 < d - b) : coZ a b c d y ≤ k ↔ (c - a) * (y - b) ≤ (65536 * k + 32768 - a) * (d - b) := by
  have e1 : coZ a b c d y ≤ k ↔ a - (65536 * k + 32768) ≤ (-(c - a) * (y - b)).fdiv (d - b) := by
    unfold coZ
    omega
  have e2 : (a - (65536 * k + 32768)) * (d - b) = -((65536 * k + 32768 - a) * (d - b)) := by
    rw [← Int.neg_mul]
    congr 1
    omega
  have e3 : -(c - a) * (y - b) = -((c - a) * (y - b)) := Int.neg_mul _ _
  rw [e1, fd_le h, e2, e3]
  omega
theorem coZ_neg {a b c d y k : Int} (h : d - b < 0) : coZ a b c d y ≤ k ↔ (65536 * k + 32768 - a) * (d - b) ≤ (c - a) * (y - b) := by
  have e1 : coZ a b c d y ≤ k ↔ a - (65536 * k + 32768) ≤ (-(c - a) * (y - b)).fdiv (d - b) := by
    unfold coZ
    omega
  have e2 : (a - (65536 * k + 32768)) * (d - b) = -((65536 * k + 32768 - a) * (d - b)) := by
    rw [← Int.neg_mul]
    congr 1
    omega
  have e3 : -(c - a) * (y - b) = -((c - a) * (y - b)) := Int.neg_mul _ _
  rw [e1, fd_leN h, e2, e3]
  omega
theorem mul_between {u v w : Int} (hv : 0 ≤ v) (hvw : v ≤ w) (hu : -1073741824 ≤ u ∧ u ≤ 1073741824) : -1073741824 * w ≤ u * v ∧ u * v ≤ 1073741824 * w := by
  have h1 : u * v ≤ 1073741824 * v := Int.mul_le_mul_of_nonneg_right hu.2 hv
  have h2 : -1073741824 * v ≤ u * v := Int.mul_le_mul_of_nonneg_right hu.1 hv
  omega
theorem coZ_rng {a b c d y : Int} (ha : -536870912 ≤ a ∧ a ≤ 536870912) (hc : -536870912 ≤ c ∧ c ≤ 536870912) (hx : (b ≤ y ∧ y < d) ∨ (d ≤ y ∧ y < b)) : -30000 ≤ coZ a b c d y ∧ coZ a b c d y ≤ 30000 := by
  rcases hx with hx | hx
  · have hp : 0 < d - b := by omega
    have hm := mul_between (u := c - a) (v := y - b) (w := d - b) (by omega) (by omega) (by omega)
    constructor
    · apply Int.not_lt.mp
      intro q
      have q2 : coZ a b c d y ≤ -30001 := by omega
      rw [coZ_pos hp] at q2
      have q3 : (65536 * -30001 + 32768 - a) * (d - b) ≤ -1073741825 * (d - b) := Int.mul_le_mul_of_nonneg_right (by omega) (by omega)
      omega
    · rw [coZ_pos hp]
      have q3 : 1073741824 * (d - b) ≤ (65536 * 30000 + 32768 - a) * (d - b) := Int.mul_le_mul_of_nonneg_right (by omega) (by omega)
      omega
  · have hp : d - b < 0 := by omega
    have hm := mul_between (u := c - a) (v := b - y) (w := b - d) (by omega) (by omega) (by omega)
    have e0 : (c - a) * (b - y) = -((c - a) * (y - b)) := by
      rw [← Int.mul_neg]
      congr 1
      omega
    have e1 : ∀ t : Int, t * (d - b) = -(t * (b - d)) := fun t => by
      rw [← Int.mul_neg]
      congr 1
      omega
    constructor
    · apply Int.not_lt.mp
      intro q
      have q2 : coZ a b c d y ≤ -30001 := by omega
      rw [coZ_neg hp, e1] at q2
      have q3 : (65536 * -30001 + 32768 - a) * (b - d) ≤ -1073741825 * (b - d) := Int.mul_le_mul_of_nonneg_right (by omega) (by omega)
      omega
    · rw [coZ_neg hp, e1]
      have q3 : 1073741824 * (b - d) ≤ (65536 * 30000 + 32768 - a) * (b - d) := Int.mul_le_mul_of_nonneg_right (by omega) (by omega)
      omega
theorem prod_rng {u v : Int} (hu : -1073741824 ≤ u ∧ u ≤ 1073741824) (hv : -1073741824 ≤ v ∧ v ≤ 1073741824) : -1152921504606846976 ≤ u * v ∧ u * v ≤ 1152921504606846976 := by
  rcases Int.le_total 0 v with h | h
  · have := mul_between (u := u) (v := v) (w := 1073741824) h hv.2 hu
    omega
  · have := mul_between (u := u) (v := -v) (w := 1073741824) (by omega) (by omega) hu
    rw [Int.mul_neg] at this
    omega
theorem wiZ_succ (fX fY fN : Nat → Int) (n : Nat) (y k : Int) : wiZ fX fY fN (n + 1) y k = wiZ fX fY fN n y k + ctZ (fX n) (fY n) (fX (fN n).toNat) (fY (fN n).toNat) y k := rfl
theorem ctZ_no {a b c d y k : Int} (h : stZ b d y = 0) : ctZ a b c d y k = 0 := by
  unfold ctZ
  rw [if_neg (fun q => q.1 h)]
theorem ctZ_out {a b c d y k : Int} (h : k < coZ a b c d y) : ctZ a b c d y k = 0 := by
  unfold ctZ
  rw [if_neg (fun q => by omega)]
theorem ctZ_in {a b c d y k : Int} (h1 : ¬ stZ b d y = 0) (h : coZ a b c d y ≤ k) : ctZ a b c d y k = stZ b d y := by
  unfold ctZ
  rw [if_pos ⟨h1, h⟩]
theorem ctZ_cases (a b c d y k : Int) : (stZ b d y = 0 ∧ ctZ a b c d y k = 0) ∨ (k < coZ a b c d y ∧ ctZ a b c d y k = 0) ∨ (¬ stZ b d y = 0 ∧ coZ a b c d y ≤ k ∧ ctZ a b c d y k = stZ b d y) := by
  by_cases h1 : stZ b d y = 0
  · exact Or.inl ⟨h1, ctZ_no h1⟩
  · by_cases h2 : coZ a b c d y ≤ k
    · exact Or.inr (Or.inr ⟨h1, h2, ctZ_in h1 h2⟩)
    · exact Or.inr (Or.inl ⟨by omega, ctZ_out (by omega)⟩)
theorem sm_zero {f : Nat → Int} : ∀ {n : Nat}, (∀ j, j < n → f j = 0) → sm f n = 0 := by
  intro n
  induction n with
  | zero => intro _; rfl
  | succ n ih =>
    intro h
    show sm f n + f n = 0
    rw [ih (fun j hj => h j (by omega)), h n (by omega)]
    rfl
theorem sm_congr {f g : Nat → Int} : ∀ {n : Nat}, (∀ j, j < n → f j = g j) → sm f n = sm g n := by
  intro n
  induction n with
  | zero => intro _; rfl
  | succ n ih =>
    intro h
    show sm f n + f n = sm g n + g n
    rw [ih (fun j hj => h j (by omega)), h n (by omega)]
theorem sm_uZ (f : Nat → Int) (q : Nat) (d : Int) : ∀ n : Nat, sm (uZ f q (f q + d)) n = sm f n + (if q < n then d else 0) := by
  intro n
  induction n with
  | zero => rw [if_neg (by omega)]; rfl
  | succ n ih =>
    show sm (uZ f q (f q + d)) n + uZ f q (f q + d) n = sm f n + f n + (if q < n + 1 then d else 0)
    rw [ih]
    unfold uZ
    by_cases h : n = q
    · rw [if_pos h, if_neg (by omega), if_pos (by omega), h]; omega
    · rw [if_neg h]
      by_cases h2 : q < n
      · rw [if_pos h2, if_pos (by omega)]; omega
      · rw [if_neg h2, if_neg (by omega)]; omega
/-! PAINTING AND CUTTING, step by step -/
def insB (rl w : Int) : Bool := if rl = 0 then decide (¬ w = 0) else decide (¬ w % 2 = 0)
theorem insB_iff (rl w : Int) : insB rl w = true ↔ ((rl = 0 ∧ ¬ w = 0) ∨ (¬ rl = 0 ∧ ¬ w % 2 = 0)) := by
  unfold insB
  by_cases h : rl = 0
  · rw [if_pos h, decide_eq_true_iff]; omega
  · rw [if_neg h, decide_eq_true_iff]; omega
theorem insB_0 (rl : Int) : insB rl 0 = false := by
  apply Bool.eq_false_iff.mpr
  intro h
  rw [insB_iff] at h
  omega
def paL (cs : Nat) (gv : Int) : List Run3 → (Nat → Int) → Nat → Int
  | [], G => G
  | x :: T, G => paL cs gv T (fun p => if x.1 * cs + x.2.1 ≤ p ∧ p < x.1 * cs + x.2.2 then gv else G p)
theorem paL_congr (cs : Nat) (gv : Int) : ∀ (T : List Run3) (G H : Nat → Int), (∀ p, G p = H p) → ∀ p, paL cs gv T G p = paL cs gv T H p := by
  intro T
  induction T with
  | nil => intro G H h p; exact h p
  | cons x T ih =>
    intro G H h p
    refine ih _ _ (fun q => ?_) p
    rw [h q]
theorem idx_le {cs r rs : Nat} (h : r < rs) : r * cs + cs ≤ cs * rs := by
  have h1 : cs * (r + 1) ≤ cs * rs := Nat.mul_le_mul_left cs h
  rw [Nat.mul_add, Nat.mul_one, Nat.mul_comm cs r] at h1
  exact h1
theorem cutG_e0 (f : Nat → Bool) (r k : Nat) : cutG f r 0 k none = [] := rfl
theorem cutG_e1 (f : Nat → Bool) (r k a : Nat) : cutG f r 0 k (some a) = [(r, a, k)] := rfl
theorem cutG_nt {f : Nat → Bool} {r k e : Nat} (h : k < e) (hf : f k = true) : cutG f r (e - k) k none = cutG f r (e - (k + 1)) (k + 1) (some k) := by
  rw [show e - k = (e - (k + 1)) + 1 by omega]
  simp only [cutG, hf, if_true]
theorem cutG_nf {f : Nat → Bool} {r k e : Nat} (h : k < e) (hf : f k = false) : cutG f r (e - k) k none = cutG f r (e - (k + 1)) (k + 1) none := by
  rw [show e - k = (e - (k + 1)) + 1 by omega]
  simp only [cutG, hf]
  rfl
theorem cutG_st {f : Nat → Bool} {r k e a : Nat} (h : k < e) (hf : f k = true) : cutG f r (e - k) k (some a) = cutG f r (e - (k + 1)) (k + 1) (some a) := by
  rw [show e - k = (e - (k + 1)) + 1 by omega]
  simp only [cutG, hf, if_true]
theorem cutG_sf {f : Nat → Bool} {r k e a : Nat} (h : k < e) (hf : f k = false) : cutG f r (e - k) k (some a) = (r, a, k) :: cutG f r (e - (k + 1)) (k + 1) none := by
  rw [show e - k = (e - (k + 1)) + 1 by omega]
  simp only [cutG, hf]
  rfl
theorem cutG_nil {f : Nat → Bool} (r : Nat) : ∀ (n c : Nat), (∀ k, c ≤ k → k < c + n → f k = false) → cutG f r n c none = [] := by
  intro n
  induction n with
  | zero => intro c _; rfl
  | succ n ih =>
    intro c h
    simp only [cutG, h c (Nat.le_refl _) (by omega)]
    exact ih (c + 1) (fun k h1 h2 => h k (by omega) (by omega))
theorem segL_app (f : Nat → Int) : ∀ (S T : List Run3) (i : Nat), segL f i (S ++ T) ↔ segL f i S ∧ segL f (i + S.length) T := by
  intro S
  induction S with
  | nil => intro T i; exact ⟨fun h => ⟨trivial, h⟩, fun h => h.2⟩
  | cons x S ih =>
    intro T i
    rw [List.cons_append, List.length_cons]
    show f i = _ ∧ segL f (i + 1) (S ++ T) ↔ (f i = _ ∧ segL f (i + 1) S) ∧ segL f (i + (S.length + 1)) T
    rw [ih T (i + 1), show i + 1 + S.length = i + (S.length + 1) by omega]
    exact ⟨fun h => ⟨⟨h.1, h.2.1⟩, h.2.2⟩, fun h => ⟨h.1.1, h.1.2, h.2⟩⟩
theorem segL_congr {f g : Nat → Int} : ∀ (T : List Run3) (i : Nat), (∀ k, i ≤ k → k < i + T.length → g k = f k) → segL f i T → segL g i T := by
  intro T
  induction T with
  | nil => intro i _ _; trivial
  | cons x T ih =>
    intro i h hs
    rw [List.length_cons] at h
    exact ⟨(h i (Nat.le_refl _) (by omega)).trans hs.1, ih (i + 1) (fun k h1 h2 => h k (by omega) (by omega)) hs.2⟩
theorem segL_move {f g : Nat → Int} : ∀ (T : List Run3) (i j : Nat), (∀ k, k < T.length → g (j + k) = f (i + k)) → segL f i T → segL g j T := by
  intro T
  induction T with
  | nil => intro i j _ _; trivial
  | cons x T ih =>
    intro i j h hs
    rw [List.length_cons] at h
    refine ⟨(h 0 (by omega)).trans hs.1, ih (i + 1) (j + 1) (fun k hk => ?_) hs.2⟩
    have := h (k + 1) (by omega)
    rw [show j + 1 + k = j + (k + 1) by omega, show i + 1 + k = i + (k + 1) by omega]
    exact this
theorem segL_snoc {f : Nat → Int} {P : List Run3} {n : Nat} (x : Run3) (h : segL f 0 P) (hn : P.length = n) : segL (uZ f n ((enc x : Nat) : Int)) 0 (P ++ [x]) := by
  rw [segL_app]
  refine ⟨segL_congr P 0 (fun k _ hk => ?_) h, ?_, trivial⟩
  · unfold uZ
    rw [if_neg (by omega)]
  · unfold uZ
    rw [if_pos (by omega)]
theorem len_lt {P T X : List Run3} {x : Run3} (h : P ++ x :: T = X) : P.length + 1 ≤ X.length := by
  rw [← h, List.length_append, List.length_cons]
  omega
/-- whether a pixel's centre is inside the outline, under a rule -/
def gW (fX fY fN : Nat → Int) (np : Nat) (rl : Int) (r k : Nat) : Bool := insB rl (wiZ fX fY fN np ((r * 65536 + 32768 : Nat) : Int) (k : Int))
theorem wiZ_rng (fX fY fN : Nat → Int) (y k : Int) : ∀ n : Nat, -(n : Int) ≤ wiZ fX fY fN n y k ∧ wiZ fX fY fN n y k ≤ (n : Int) := by
  intro n
  induction n with
  | zero => exact ⟨by show (-((0 : Nat) : Int)) ≤ 0; omega, by show (0 : Int) ≤ ((0 : Nat) : Int); omega⟩
  | succ n ih =>
    have h := wiZ_succ fX fY fN n y k
    have h2 := ctZ_cases (fX n) (fY n) (fX (fN n).toNat) (fY (fN n).toNat) y k
    have h3 := stZ_cases (fY n) (fY (fN n).toNat) y
    omega
/-- how a cut stands at column k: fr is -1, or where a run has begun -/
def cutI (g : Nat → Bool) (r e k : Nat) (fr : Int) (Pc X : List Run3) : Prop := (fr = -1 ∧ Pc ++ cutG g r (e - k) k none = X) ∨ (∃ a : Nat, fr = (a : Int) ∧ a < k ∧ Pc ++ cutG g r (e - k) k (some a) = X)
/-- what the row of windings holds: nothing yet, or the row ro's numbers; cr = 0 when no edge meets the row -/
def rowI (cs : Nat) (fX fY fN : Nat → Int) (np : Nat) (fV : Nat → Int) (cr ro : Int) : Prop := ro = -1 ∨ (∃ r0 : Nat, ro = (r0 : Int) ∧ r0 < 256 ∧ (∀ k, k < cs → fV k = wiZ fX fY fN np ((r0 * 65536 + 32768 : Nat) : Int) (k : Int)) ∧ (cr = 0 → ∀ k : Int, wiZ fX fY fN np ((r0 * 65536 + 32768 : Nat) : Int) k = 0))
/-! THE RUNS OF A SET OF PIXELS: canP F cs n r lays the runs of n rows from r on -/
def canP (F : Nat → Nat → Bool) (cs : Nat) : Nat → Nat → List Run3
  | 0, _ => []
  | n + 1, r => cutG (F r) r cs 0 none ++ canP F cs n (r + 1)
theorem cutG_all (r : Nat) : ∀ (n c : Nat), (∀ a, cutG (fun _ => true) r n c (some a) = [(r, a, c + n)]) ∧ (0 < n → cutG (fun _ => true) r n c none = [(r, c, c + n)]) := by
  intro n
  induction n with
  | zero => intro c; exact ⟨fun a => rfl, fun h => absurd h (Nat.lt_irrefl 0)⟩
  | succ n ih =>
    intro c
    refine ⟨fun a => ?_, fun _ => ?_⟩
    · simp only [cutG, if_true]
      rw [(ih (c + 1)).1 a, show c + 1 + n = c + (n + 1) by omega]
    · simp only [cutG, if_true]
      rw [(ih (c + 1)).1 c, show c + 1 + n = c + (n + 1) by omega]
theorem canP_all {f : Nat → Int} {cs : Nat} (hc : 0 < cs) : ∀ (n r : Nat), (∀ k : Nat, r ≤ k → k < r + n → f k = ((enc (k, 0, cs) : Nat) : Int)) → segL f r (canP (fun _ _ => true) cs n r) ∧ (canP (fun _ _ => true) cs n r).length = n := by
  intro n
  induction n with
  | zero => intro r _; exact ⟨trivial, rfl⟩
  | succ n ih =>
    intro r h
    obtain ⟨h1, h2⟩ := ih (r + 1) (fun k hk1 hk2 => h k (by omega) (by omega))
    have e := (cutG_all r cs 0).2 hc
    rw [Nat.zero_add] at e
    simp only [canP, e]
    refine ⟨⟨h r (Nat.le_refl _) (by omega), h1⟩, ?_⟩
    rw [List.cons_append, List.nil_append, List.length_cons, h2]
theorem cutA_canP (F g : Nat → Nat → Bool) (cs : Nat) : ∀ (n r : Nat), cutA g (canP F cs n r) = canP (fun r k => F r k && g r k) cs n r := by
  intro n
  induction n with
  | zero => intro r; rfl
  | succ n ih =>
    intro r
    simp only [canP]
    rw [cutA_app, ih, (cutA_cutG (F r) g r cs 0).1]
theorem canP_congr {F G : Nat → Nat → Bool} (cs : Nat) : ∀ (n r : Nat), (∀ r' k, r ≤ r' → r' < r + n → k < cs → F r' k = G r' k) → canP F cs n r = canP G cs n r := by
  intro n
  induction n with
  | zero => intro r _; rfl
  | succ n ih =>
    intro r h
    simp only [canP]
    rw [ih (r + 1) (fun r' k h1 h2 h3 => h r' k (by omega) (by omega) h3), cutG_congr r cs 0 none (fun k h1 h2 => h r k (Nat.le_refl _) (by omega) (by omega))]
theorem canP_mem (F : Nat → Nat → Bool) (cs : Nat) : ∀ (n r r' k : Nat), memL (canP F cs n r) r' k ↔ r ≤ r' ∧ r' < r + n ∧ k < cs ∧ F r' k = true := by
  intro n
  induction n with
  | zero => intro r r' k; exact ⟨fun h => absurd h (memL_nil _ _), fun h => by omega⟩
  | succ n ih =>
    intro r r' k
    simp only [canP]
    rw [memL_app, ih, (memL_cutG (F r) r cs 0).1]
    constructor
    · rintro (⟨h1, h2, h3, h4⟩ | ⟨h1, h2, h3, h4⟩)
      · subst h1; exact ⟨Nat.le_refl _, by omega, by omega, h4⟩
      · exact ⟨by omega, by omega, h3, h4⟩
    · rintro ⟨h1, h2, h3, h4⟩
      by_cases h : r' = r
      · subst h; exact Or.inl ⟨rfl, by omega, by omega, h4⟩
      · exact Or.inr ⟨by omega, by omega, h3, h4⟩
theorem canP_ok (F : Nat → Nat → Bool) (cs rs : Nat) : ∀ (n r : Nat), r + n ≤ rs → ∀ x ∈ canP F cs n r, runOk cs rs x := by
  intro n
  induction n with
  | zero => intro r _ x hx; simp [canP] at hx
  | succ n ih =>
    intro r h x hx
    simp only [canP] at hx
    rcases List.mem_append.mp hx with q | q
    · exact cutG_ok (F r) r cs rs (by omega) cs 0 none (by omega) (fun a w => by cases w) x q
    · exact ih (r + 1) (by omega) x q
theorem canP_len (F : Nat → Nat → Bool) (cs : Nat) : ∀ (n r : Nat), (canP F cs n r).length ≤ (cs + 1) / 2 * n := by
  intro n
  induction n with
  | zero => intro r; exact Nat.zero_le _
  | succ n ih =>
    intro r
    simp only [canP]
    rw [List.length_append, Nat.mul_add, Nat.mul_one]
    have h1 := ih (r + 1)
    have h2 := (cutG_len (F r) r cs 0).1
    omega
theorem canP_lenS (F : Nat → Nat → Bool) (cs : Nat) : ∀ (n r : Nat), lenS (canP F cs n r) = (List.range' r n).foldr (fun q a => cnG (F q) cs 0 + a) 0 := by
  intro n
  induction n with
  | zero => intro r; rfl
  | succ n ih =>
    intro r
    simp only [canP, List.range'_succ, List.foldr_cons]
    rw [lenS_app, ih, (lenS_cutG (F r) r cs 0).1]
/-- painting the runs of a list: the pixels of the list get the gray -/
theorem paL_at (cs rs : Nat) (gv : Int) : ∀ (T : List Run3) (G : Nat → Int), (∀ x ∈ T, runOk cs rs x) → ∀ r k, k < cs → (memL T r k → paL cs gv T G (r * cs + k) = gv) ∧ (¬ memL T r k → paL cs gv T G (r * cs + k) = G (r * cs + k)) := by
  intro T
  induction T with
  | nil => intro G _ r k _; exact ⟨fun h => absurd h (memL_nil _ _), fun _ => rfl⟩
  | cons x T ih =>
    intro G hok r k hk
    have hx := hok x List.mem_cons_self
    obtain ⟨i1, i2⟩ := ih (fun p => if x.1 * cs + x.2.1 ≤ p ∧ p < x.1 * cs + x.2.2 then gv else G p) (fun y hy => hok y (List.mem_cons_of_mem _ hy)) r k hk
    obtain ⟨o1, o2, o3⟩ := hx
    have key : (x.1 * cs + x.2.1 ≤ r * cs + k ∧ r * cs + k < x.1 * cs + x.2.2) ↔ (x.1 = r ∧ x.2.1 ≤ k ∧ k < x.2.2) := by
      constructor
      · rintro ⟨h1, h2⟩
        have e : x.1 = r := by
          rcases Nat.lt_trichotomy x.1 r with q | q | q
          · have := Nat.mul_le_mul_right cs (show x.1 + 1 ≤ r from q)
            rw [Nat.add_mul, Nat.one_mul] at this
            omega
          · exact q
          · have := Nat.mul_le_mul_right cs (show r + 1 ≤ x.1 from q)
            rw [Nat.add_mul, Nat.one_mul] at this
            omega
        subst e
        exact ⟨rfl, by omega, by omega⟩
      · rintro ⟨rfl, h1, h2⟩
        exact ⟨by omega, by omega⟩
    rw [memL_cons]
    constructor
    · intro h
      by_cases hT : memL T r k
      · exact i1 hT
      · show paL cs gv T _ (r * cs + k) = gv
        rw [i2 hT, if_pos (key.mpr (h.resolve_right hT))]
    · intro h
      show paL cs gv T _ (r * cs + k) = G (r * cs + k)
      rw [i2 (fun q => h (Or.inr q)), if_neg (fun q => h (Or.inl (key.mp q)))]
end
section
theorem dR_of_0 : decode bR_of 0 = .ok (.iload_n 0, 1) := by decide +kernel
theorem dR_of_1 : decode bR_of 1 = .ok (.bipush (9), 2) := by decide +kernel
theorem dR_of_3 : decode bR_of 3 = .ok (.ishl, 1) := by decide +kernel
theorem dR_of_4 : decode bR_of 4 = .ok (.iload_n 1, 1) := by decide +kernel
theorem dR_of_5 : decode bR_of 5 = .ok (.ior, 1) := by decide +kernel
theorem dR_of_6 : decode bR_of 6 = .ok (.bipush (9), 2) := by decide +kernel
theorem dR_of_8 : decode bR_of 8 = .ok (.ishl, 1) := by decide +kernel
theorem dR_of_9 : decode bR_of 9 = .ok (.iload_n 2, 1) := by decide +kernel
theorem dR_of_10 : decode bR_of 10 = .ok (.ior, 1) := by decide +kernel
theorem dR_of_11 : decode bR_of 11 = .ok (.ireturn, 1) := by decide +kernel
theorem dR_rowOf_0 : decode bR_rowOf 0 = .ok (.iload_n 0, 1) := by decide +kernel
theorem dR_rowOf_1 : decode bR_rowOf 1 = .ok (.bipush (18), 2) := by decide +kernel
theorem dR_rowOf_3 : decode bR_rowOf 3 = .ok (.ishr, 1) := by decide +kernel
theorem dR_rowOf_4 : decode bR_rowOf 4 = .ok (.ireturn, 1) := by decide +kernel
theorem dR_fromOf_0 : decode bR_fromOf 0 = .ok (.iload_n 0, 1) := by decide +kernel
theorem dR_fromOf_1 : decode bR_fromOf 1 = .ok (.bipush (9), 2) := by decide +kernel
theorem dR_fromOf_3 : decode bR_fromOf 3 = .ok (.ishr, 1) := by decide +kernel
theorem dR_fromOf_4 : decode bR_fromOf 4 = .ok (.sipush (511), 3) := by decide +kernel
theorem dR_fromOf_7 : decode bR_fromOf 7 = .ok (.iand, 1) := by decide +kernel
theorem dR_fromOf_8 : decode bR_fromOf 8 = .ok (.ireturn, 1) := by decide +kernel
theorem dR_endOf_0 : decode bR_endOf 0 = .ok (.iload_n 0, 1) := by decide +kernel
theorem dR_endOf_1 : decode bR_endOf 1 = .ok (.sipush (511), 3) := by decide +kernel
theorem dR_endOf_4 : decode bR_endOf 4 = .ok (.iand, 1) := by decide +kernel
theorem dR_endOf_5 : decode bR_endOf 5 = .ok (.ireturn, 1) := by decide +kernel
theorem dR_lengthOf_0 : decode bR_lengthOf 0 = .ok (.iload_n 0, 1) := by decide +kernel
theorem dR_lengthOf_1 : decode bR_lengthOf 1 = .ok (.invokestatic 9, 3) := by decide +kernel
theorem dR_lengthOf_4 : decode bR_lengthOf 4 = .ok (.iload_n 0, 1) := by decide +kernel
theorem dR_lengthOf_5 : decode bR_lengthOf 5 = .ok (.invokestatic 13, 3) := by decide +kernel
theorem dR_lengthOf_8 : decode bR_lengthOf 8 = .ok (.isub, 1) := by decide +kernel
theorem dR_lengthOf_9 : decode bR_lengthOf 9 = .ok (.ireturn, 1) := by decide +kernel
theorem dW_isPlace_0 : decode bW_isPlace 0 = .ok (.iload_n 0, 1) := by decide +kernel
theorem dW_isPlace_1 : decode bW_isPlace 1 = .ok (.ldc 137, 2) := by decide +kernel
theorem dW_isPlace_3 : decode bW_isPlace 3 = .ok (.if_icmp .lt (13), 3) := by decide +kernel
theorem dW_isPlace_6 : decode bW_isPlace 6 = .ok (.iload_n 0, 1) := by decide +kernel
theorem dW_isPlace_7 : decode bW_isPlace 7 = .ok (.ldc 138, 2) := by decide +kernel
theorem dW_isPlace_9 : decode bW_isPlace 9 = .ok (.if_icmp .gt (7), 3) := by decide +kernel
theorem dW_isPlace_12 : decode bW_isPlace 12 = .ok (.iconst 1, 1) := by decide +kernel
theorem dW_isPlace_13 : decode bW_isPlace 13 = .ok (.goto (4), 3) := by decide +kernel
theorem dW_isPlace_16 : decode bW_isPlace 16 = .ok (.iconst 0, 1) := by decide +kernel
theorem dW_isPlace_17 : decode bW_isPlace 17 = .ok (.ireturn, 1) := by decide +kernel
theorem dW_isRule_0 : decode bW_isRule 0 = .ok (.iload_n 0, 1) := by decide +kernel
theorem dW_isRule_1 : decode bW_isRule 1 = .ok (.ifCond .eq (8), 3) := by decide +kernel
theorem dW_isRule_4 : decode bW_isRule 4 = .ok (.iload_n 0, 1) := by decide +kernel
theorem dW_isRule_5 : decode bW_isRule 5 = .ok (.iconst 1, 1) := by decide +kernel
theorem dW_isRule_6 : decode bW_isRule 6 = .ok (.if_icmp .ne (7), 3) := by decide +kernel
theorem dW_isRule_9 : decode bW_isRule 9 = .ok (.iconst 1, 1) := by decide +kernel
theorem dW_isRule_10 : decode bW_isRule 10 = .ok (.goto (4), 3) := by decide +kernel
theorem dW_isRule_13 : decode bW_isRule 13 = .ok (.iconst 0, 1) := by decide +kernel
theorem dW_isRule_14 : decode bW_isRule 14 = .ok (.ireturn, 1) := by decide +kernel
theorem dW_isGray_0 : decode bW_isGray 0 = .ok (.iload_n 0, 1) := by decide +kernel
theorem dW_isGray_1 : decode bW_isGray 1 = .ok (.ifCond .lt (14), 3) := by decide +kernel
theorem dW_isGray_4 : decode bW_isGray 4 = .ok (.iload_n 0, 1) := by decide +kernel
theorem dW_isGray_5 : decode bW_isGray 5 = .ok (.sipush (255), 3) := by decide +kernel
theorem dW_isGray_8 : decode bW_isGray 8 = .ok (.if_icmp .gt (7), 3) := by decide +kernel
theorem dW_isGray_11 : decode bW_isGray 11 = .ok (.iconst 1, 1) := by decide +kernel
theorem dW_isGray_12 : decode bW_isGray 12 = .ok (.goto (4), 3) := by decide +kernel
theorem dW_isGray_15 : decode bW_isGray 15 = .ok (.iconst 0, 1) := by decide +kernel
theorem dW_isGray_16 : decode bW_isGray 16 = .ok (.ireturn, 1) := by decide +kernel
theorem dW_isInside_0 : decode bW_isInside 0 = .ok (.iload_n 1, 1) := by decide +kernel
theorem dW_isInside_1 : decode bW_isInside 1 = .ok (.ifCond .ne (15), 3) := by decide +kernel
theorem dW_isInside_4 : decode bW_isInside 4 = .ok (.iload_n 0, 1) := by decide +kernel
theorem dW_isInside_5 : decode bW_isInside 5 = .ok (.ifCond .eq (7), 3) := by decide +kernel
theorem dW_isInside_8 : decode bW_isInside 8 = .ok (.iconst 1, 1) := by decide +kernel
theorem dW_isInside_9 : decode bW_isInside 9 = .ok (.goto (18), 3) := by decide +kernel
theorem dW_isInside_12 : decode bW_isInside 12 = .ok (.iconst 0, 1) := by decide +kernel
theorem dW_isInside_13 : decode bW_isInside 13 = .ok (.goto (14), 3) := by decide +kernel
theorem dW_isInside_16 : decode bW_isInside 16 = .ok (.iload_n 0, 1) := by decide +kernel
theorem dW_isInside_17 : decode bW_isInside 17 = .ok (.iconst 1, 1) := by decide +kernel
theorem dW_isInside_18 : decode bW_isInside 18 = .ok (.iand, 1) := by decide +kernel
theorem dW_isInside_19 : decode bW_isInside 19 = .ok (.ifCond .eq (7), 3) := by decide +kernel
theorem dW_isInside_22 : decode bW_isInside 22 = .ok (.iconst 1, 1) := by decide +kernel
theorem dW_isInside_23 : decode bW_isInside 23 = .ok (.goto (4), 3) := by decide +kernel
theorem dW_isInside_26 : decode bW_isInside 26 = .ok (.iconst 0, 1) := by decide +kernel
theorem dW_isInside_27 : decode bW_isInside 27 = .ok (.ireturn, 1) := by decide +kernel
theorem dO_isFull_0 : decode bO_isFull 0 = .ok (.aload_n 0, 1) := by decide +kernel
theorem dO_isFull_1 : decode bO_isFull 1 = .ok (.getfield 21, 3) := by decide +kernel
theorem dO_isFull_4 : decode bO_isFull 4 = .ok (.sipush (4096), 3) := by decide +kernel
theorem dO_isFull_7 : decode bO_isFull 7 = .ok (.if_icmp .lt (7), 3) := by decide +kernel
theorem dO_isFull_10 : decode bO_isFull 10 = .ok (.iconst 1, 1) := by decide +kernel
theorem dO_isFull_11 : decode bO_isFull 11 = .ok (.goto (4), 3) := by decide +kernel
theorem dO_isFull_14 : decode bO_isFull 14 = .ok (.iconst 0, 1) := by decide +kernel
theorem dO_isFull_15 : decode bO_isFull 15 = .ok (.ireturn, 1) := by decide +kernel
theorem dO_hasLine_0 : decode bO_hasLine 0 = .ok (.aload_n 0, 1) := by decide +kernel
theorem dO_hasLine_1 : decode bO_hasLine 1 = .ok (.getfield 21, 3) := by decide +kernel
theorem dO_hasLine_4 : decode bO_hasLine 4 = .ok (.ifCond .le (7), 3) := by decide +kernel
theorem dO_hasLine_7 : decode bO_hasLine 7 = .ok (.iconst 1, 1) := by decide +kernel
theorem dO_hasLine_8 : decode bO_hasLine 8 = .ok (.goto (4), 3) := by decide +kernel
theorem dO_hasLine_11 : decode bO_hasLine 11 = .ok (.iconst 0, 1) := by decide +kernel
theorem dO_hasLine_12 : decode bO_hasLine 12 = .ok (.ireturn, 1) := by decide +kernel
theorem dO_addPoint_0 : decode bO_addPoint 0 = .ok (.aload_n 0, 1) := by decide +kernel
theorem dO_addPoint_1 : decode bO_addPoint 1 = .ok (.invokevirtual 36, 3) := by decide +kernel
theorem dO_addPoint_4 : decode bO_addPoint 4 = .ok (.ifCond .ne (46), 3) := by decide +kernel
theorem dO_addPoint_7 : decode bO_addPoint 7 = .ok (.aload_n 0, 1) := by decide +kernel
theorem dO_addPoint_8 : decode bO_addPoint 8 = .ok (.getfield 9, 3) := by decide +kernel
theorem dO_addPoint_11 : decode bO_addPoint 11 = .ok (.aload_n 0, 1) := by decide +kernel
theorem dO_addPoint_12 : decode bO_addPoint 12 = .ok (.getfield 21, 3) := by decide +kernel
theorem dO_addPoint_15 : decode bO_addPoint 15 = .ok (.iload_n 1, 1) := by decide +kernel
theorem dO_addPoint_16 : decode bO_addPoint 16 = .ok (.iastore, 1) := by decide +kernel
theorem dO_addPoint_17 : decode bO_addPoint 17 = .ok (.aload_n 0, 1) := by decide +kernel
theorem dO_addPoint_18 : decode bO_addPoint 18 = .ok (.getfield 15, 3) := by decide +kernel
theorem dO_addPoint_21 : decode bO_addPoint 21 = .ok (.aload_n 0, 1) := by decide +kernel
theorem dO_addPoint_22 : decode bO_addPoint 22 = .ok (.getfield 21, 3) := by decide +kernel
theorem dO_addPoint_25 : decode bO_addPoint 25 = .ok (.iload_n 2, 1) := by decide +kernel
theorem dO_addPoint_26 : decode bO_addPoint 26 = .ok (.iastore, 1) := by decide +kernel
theorem dO_addPoint_27 : decode bO_addPoint 27 = .ok (.aload_n 0, 1) := by decide +kernel
theorem dO_addPoint_28 : decode bO_addPoint 28 = .ok (.getfield 18, 3) := by decide +kernel
theorem dO_addPoint_31 : decode bO_addPoint 31 = .ok (.aload_n 0, 1) := by decide +kernel
theorem dO_addPoint_32 : decode bO_addPoint 32 = .ok (.getfield 21, 3) := by decide +kernel
theorem dO_addPoint_35 : decode bO_addPoint 35 = .ok (.aload_n 0, 1) := by decide +kernel
theorem dO_addPoint_36 : decode bO_addPoint 36 = .ok (.getfield 25, 3) := by decide +kernel
theorem dO_addPoint_39 : decode bO_addPoint 39 = .ok (.iastore, 1) := by decide +kernel
theorem dO_addPoint_40 : decode bO_addPoint 40 = .ok (.aload_n 0, 1) := by decide +kernel
theorem dO_addPoint_41 : decode bO_addPoint 41 = .ok (.dup, 1) := by decide +kernel
theorem dO_addPoint_42 : decode bO_addPoint 42 = .ok (.getfield 21, 3) := by decide +kernel
theorem dO_addPoint_45 : decode bO_addPoint 45 = .ok (.iconst 1, 1) := by decide +kernel
theorem dO_addPoint_46 : decode bO_addPoint 46 = .ok (.iadd, 1) := by decide +kernel
theorem dO_addPoint_47 : decode bO_addPoint 47 = .ok (.putfield 21, 3) := by decide +kernel
theorem dO_addPoint_50 : decode bO_addPoint 50 = .ok (.return_, 1) := by decide +kernel
theorem dO_begin_0 : decode bO_begin 0 = .ok (.aload_n 0, 1) := by decide +kernel
theorem dO_begin_1 : decode bO_begin 1 = .ok (.aload_n 0, 1) := by decide +kernel
theorem dO_begin_2 : decode bO_begin 2 = .ok (.getfield 21, 3) := by decide +kernel
theorem dO_begin_5 : decode bO_begin 5 = .ok (.putfield 25, 3) := by decide +kernel
theorem dO_begin_8 : decode bO_begin 8 = .ok (.aload_n 0, 1) := by decide +kernel
theorem dO_begin_9 : decode bO_begin 9 = .ok (.iload_n 1, 1) := by decide +kernel
theorem dO_begin_10 : decode bO_begin 10 = .ok (.iload_n 2, 1) := by decide +kernel
theorem dO_begin_11 : decode bO_begin 11 = .ok (.invokevirtual 28, 3) := by decide +kernel
theorem dO_begin_14 : decode bO_begin 14 = .ok (.return_, 1) := by decide +kernel
theorem dO_goOn_0 : decode bO_goOn 0 = .ok (.aload_n 0, 1) := by decide +kernel
theorem dO_goOn_1 : decode bO_goOn 1 = .ok (.invokevirtual 32, 3) := by decide +kernel
theorem dO_goOn_4 : decode bO_goOn 4 = .ok (.ifCond .eq (31), 3) := by decide +kernel
theorem dO_goOn_7 : decode bO_goOn 7 = .ok (.aload_n 0, 1) := by decide +kernel
theorem dO_goOn_8 : decode bO_goOn 8 = .ok (.invokevirtual 36, 3) := by decide +kernel
theorem dO_goOn_11 : decode bO_goOn 11 = .ok (.ifCond .ne (24), 3) := by decide +kernel
theorem dO_goOn_14 : decode bO_goOn 14 = .ok (.aload_n 0, 1) := by decide +kernel
theorem dO_goOn_15 : decode bO_goOn 15 = .ok (.getfield 18, 3) := by decide +kernel
theorem dO_goOn_18 : decode bO_goOn 18 = .ok (.aload_n 0, 1) := by decide +kernel
theorem dO_goOn_19 : decode bO_goOn 19 = .ok (.getfield 21, 3) := by decide +kernel
theorem dO_goOn_22 : decode bO_goOn 22 = .ok (.iconst 1, 1) := by decide +kernel
theorem dO_goOn_23 : decode bO_goOn 23 = .ok (.isub, 1) := by decide +kernel
theorem dO_goOn_24 : decode bO_goOn 24 = .ok (.aload_n 0, 1) := by decide +kernel
theorem dO_goOn_25 : decode bO_goOn 25 = .ok (.getfield 21, 3) := by decide +kernel
theorem dO_goOn_28 : decode bO_goOn 28 = .ok (.iastore, 1) := by decide +kernel
theorem dO_goOn_29 : decode bO_goOn 29 = .ok (.aload_n 0, 1) := by decide +kernel
theorem dO_goOn_30 : decode bO_goOn 30 = .ok (.iload_n 1, 1) := by decide +kernel
theorem dO_goOn_31 : decode bO_goOn 31 = .ok (.iload_n 2, 1) := by decide +kernel
theorem dO_goOn_32 : decode bO_goOn 32 = .ok (.invokevirtual 28, 3) := by decide +kernel
theorem dO_goOn_35 : decode bO_goOn 35 = .ok (.return_, 1) := by decide +kernel
theorem dO_forget_0 : decode bO_forget 0 = .ok (.aload_n 0, 1) := by decide +kernel
theorem dO_forget_1 : decode bO_forget 1 = .ok (.iconst 0, 1) := by decide +kernel
theorem dO_forget_2 : decode bO_forget 2 = .ok (.putfield 21, 3) := by decide +kernel
theorem dO_forget_5 : decode bO_forget 5 = .ok (.aload_n 0, 1) := by decide +kernel
theorem dO_forget_6 : decode bO_forget 6 = .ok (.iconst 0, 1) := by decide +kernel
theorem dO_forget_7 : decode bO_forget 7 = .ok (.putfield 25, 3) := by decide +kernel
theorem dO_forget_10 : decode bO_forget 10 = .ok (.return_, 1) := by decide +kernel
theorem dO_centreOf_0 : decode bO_centreOf 0 = .ok (.iload_n 0, 1) := by decide +kernel
theorem dO_centreOf_1 : decode bO_centreOf 1 = .ok (.bipush (16), 2) := by decide +kernel
theorem dO_centreOf_3 : decode bO_centreOf 3 = .ok (.ishl, 1) := by decide +kernel
theorem dO_centreOf_4 : decode bO_centreOf 4 = .ok (.ldc 61, 2) := by decide +kernel
theorem dO_centreOf_6 : decode bO_centreOf 6 = .ok (.iadd, 1) := by decide +kernel
theorem dO_centreOf_7 : decode bO_centreOf 7 = .ok (.ireturn, 1) := by decide +kernel
theorem dO_stepAt_0 : decode bO_stepAt 0 = .ok (.aload_n 0, 1) := by decide +kernel
theorem dO_stepAt_1 : decode bO_stepAt 1 = .ok (.getfield 15, 3) := by decide +kernel
theorem dO_stepAt_4 : decode bO_stepAt 4 = .ok (.iload_n 1, 1) := by decide +kernel
theorem dO_stepAt_5 : decode bO_stepAt 5 = .ok (.iaload, 1) := by decide +kernel
theorem dO_stepAt_6 : decode bO_stepAt 6 = .ok (.istore_n 3, 1) := by decide +kernel
theorem dO_stepAt_7 : decode bO_stepAt 7 = .ok (.aload_n 0, 1) := by decide +kernel
theorem dO_stepAt_8 : decode bO_stepAt 8 = .ok (.getfield 15, 3) := by decide +kernel
theorem dO_stepAt_11 : decode bO_stepAt 11 = .ok (.aload_n 0, 1) := by decide +kernel
theorem dO_stepAt_12 : decode bO_stepAt 12 = .ok (.getfield 18, 3) := by decide +kernel
theorem dO_stepAt_15 : decode bO_stepAt 15 = .ok (.iload_n 1, 1) := by decide +kernel
theorem dO_stepAt_16 : decode bO_stepAt 16 = .ok (.iaload, 1) := by decide +kernel
theorem dO_stepAt_17 : decode bO_stepAt 17 = .ok (.iaload, 1) := by decide +kernel
theorem dO_stepAt_18 : decode bO_stepAt 18 = .ok (.istore 4, 2) := by decide +kernel
theorem dO_stepAt_20 : decode bO_stepAt 20 = .ok (.iload_n 3, 1) := by decide +kernel
theorem dO_stepAt_21 : decode bO_stepAt 21 = .ok (.iload_n 2, 1) := by decide +kernel
theorem dO_stepAt_22 : decode bO_stepAt 22 = .ok (.if_icmp .gt (11), 3) := by decide +kernel
theorem dO_stepAt_25 : decode bO_stepAt 25 = .ok (.iload_n 2, 1) := by decide +kernel
theorem dO_stepAt_26 : decode bO_stepAt 26 = .ok (.iload 4, 2) := by decide +kernel
theorem dO_stepAt_28 : decode bO_stepAt 28 = .ok (.if_icmp .ge (5), 3) := by decide +kernel
theorem dO_stepAt_31 : decode bO_stepAt 31 = .ok (.iconst 1, 1) := by decide +kernel
theorem dO_stepAt_32 : decode bO_stepAt 32 = .ok (.ireturn, 1) := by decide +kernel
theorem dO_stepAt_33 : decode bO_stepAt 33 = .ok (.iload 4, 2) := by decide +kernel
theorem dO_stepAt_35 : decode bO_stepAt 35 = .ok (.iload_n 2, 1) := by decide +kernel
theorem dO_stepAt_36 : decode bO_stepAt 36 = .ok (.if_icmp .gt (12), 3) := by decide +kernel
theorem dO_stepAt_39 : decode bO_stepAt 39 = .ok (.iload_n 2, 1) := by decide +kernel
theorem dO_stepAt_40 : decode bO_stepAt 40 = .ok (.iload_n 3, 1) := by decide +kernel
theorem dO_stepAt_41 : decode bO_stepAt 41 = .ok (.if_icmp .ge (7), 3) := by decide +kernel
theorem dO_stepAt_44 : decode bO_stepAt 44 = .ok (.iconst (-1), 1) := by decide +kernel
theorem dO_stepAt_45 : decode bO_stepAt 45 = .ok (.goto (4), 3) := by decide +kernel
theorem dO_stepAt_48 : decode bO_stepAt 48 = .ok (.iconst 0, 1) := by decide +kernel
theorem dO_stepAt_49 : decode bO_stepAt 49 = .ok (.ireturn, 1) := by decide +kernel
theorem dJM_floorDiv_0 : decode bJM_floorDiv 0 = .ok (.lload_n 0, 1) := by decide +kernel
theorem dJM_floorDiv_1 : decode bJM_floorDiv 1 = .ok (.lload_n 2, 1) := by decide +kernel
theorem dJM_floorDiv_2 : decode bJM_floorDiv 2 = .ok (.ldiv, 1) := by decide +kernel
theorem dJM_floorDiv_3 : decode bJM_floorDiv 3 = .ok (.lstore 4, 2) := by decide +kernel
theorem dJM_floorDiv_5 : decode bJM_floorDiv 5 = .ok (.lload_n 0, 1) := by decide +kernel
theorem dJM_floorDiv_6 : decode bJM_floorDiv 6 = .ok (.lload_n 2, 1) := by decide +kernel
theorem dJM_floorDiv_7 : decode bJM_floorDiv 7 = .ok (.lxor, 1) := by decide +kernel
theorem dJM_floorDiv_8 : decode bJM_floorDiv 8 = .ok (.lconst 0, 1) := by decide +kernel
theorem dJM_floorDiv_9 : decode bJM_floorDiv 9 = .ok (.lcmp, 1) := by decide +kernel
theorem dJM_floorDiv_10 : decode bJM_floorDiv 10 = .ok (.ifCond .ge (17), 3) := by decide +kernel
theorem dJM_floorDiv_13 : decode bJM_floorDiv 13 = .ok (.lload 4, 2) := by decide +kernel
theorem dJM_floorDiv_15 : decode bJM_floorDiv 15 = .ok (.lload_n 2, 1) := by decide +kernel
theorem dJM_floorDiv_16 : decode bJM_floorDiv 16 = .ok (.lmul, 1) := by decide +kernel
theorem dJM_floorDiv_17 : decode bJM_floorDiv 17 = .ok (.lload_n 0, 1) := by decide +kernel
theorem dJM_floorDiv_18 : decode bJM_floorDiv 18 = .ok (.lcmp, 1) := by decide +kernel
theorem dJM_floorDiv_19 : decode bJM_floorDiv 19 = .ok (.ifCond .eq (8), 3) := by decide +kernel
theorem dJM_floorDiv_22 : decode bJM_floorDiv 22 = .ok (.lload 4, 2) := by decide +kernel
theorem dJM_floorDiv_24 : decode bJM_floorDiv 24 = .ok (.lconst 1, 1) := by decide +kernel
theorem dJM_floorDiv_25 : decode bJM_floorDiv 25 = .ok (.lsub, 1) := by decide +kernel
theorem dJM_floorDiv_26 : decode bJM_floorDiv 26 = .ok (.lreturn, 1) := by decide +kernel
theorem dJM_floorDiv_27 : decode bJM_floorDiv 27 = .ok (.lload 4, 2) := by decide +kernel
theorem dJM_floorDiv_29 : decode bJM_floorDiv 29 = .ok (.lreturn, 1) := by decide +kernel
theorem dJA_fill_0 : decode bJA_fill 0 = .ok (.iconst 0, 1) := by decide +kernel
theorem dJA_fill_1 : decode bJA_fill 1 = .ok (.istore_n 2, 1) := by decide +kernel
theorem dJA_fill_2 : decode bJA_fill 2 = .ok (.aload_n 0, 1) := by decide +kernel
theorem dJA_fill_3 : decode bJA_fill 3 = .ok (.arraylength, 1) := by decide +kernel
theorem dJA_fill_4 : decode bJA_fill 4 = .ok (.istore_n 3, 1) := by decide +kernel
theorem dJA_fill_5 : decode bJA_fill 5 = .ok (.iload_n 2, 1) := by decide +kernel
theorem dJA_fill_6 : decode bJA_fill 6 = .ok (.iload_n 3, 1) := by decide +kernel
theorem dJA_fill_7 : decode bJA_fill 7 = .ok (.if_icmp .ge (13), 3) := by decide +kernel
theorem dJA_fill_10 : decode bJA_fill 10 = .ok (.aload_n 0, 1) := by decide +kernel
theorem dJA_fill_11 : decode bJA_fill 11 = .ok (.iload_n 2, 1) := by decide +kernel
theorem dJA_fill_12 : decode bJA_fill 12 = .ok (.iload_n 1, 1) := by decide +kernel
theorem dJA_fill_13 : decode bJA_fill 13 = .ok (.iastore, 1) := by decide +kernel
theorem dJA_fill_14 : decode bJA_fill 14 = .ok (.iinc 2 (1), 3) := by decide +kernel
theorem dJA_fill_17 : decode bJA_fill 17 = .ok (.goto (-12), 3) := by decide +kernel
theorem dJA_fill_20 : decode bJA_fill 20 = .ok (.return_, 1) := by decide +kernel
theorem dO_firstColumn_0 : decode bO_firstColumn 0 = .ok (.aload_n 0, 1) := by decide +kernel
theorem dO_firstColumn_1 : decode bO_firstColumn 1 = .ok (.getfield 9, 3) := by decide +kernel
theorem dO_firstColumn_4 : decode bO_firstColumn 4 = .ok (.iload_n 1, 1) := by decide +kernel
theorem dO_firstColumn_5 : decode bO_firstColumn 5 = .ok (.iaload, 1) := by decide +kernel
theorem dO_firstColumn_6 : decode bO_firstColumn 6 = .ok (.i2l, 1) := by decide +kernel
theorem dO_firstColumn_7 : decode bO_firstColumn 7 = .ok (.lstore_n 3, 1) := by decide +kernel
theorem dO_firstColumn_8 : decode bO_firstColumn 8 = .ok (.aload_n 0, 1) := by decide +kernel
theorem dO_firstColumn_9 : decode bO_firstColumn 9 = .ok (.getfield 15, 3) := by decide +kernel
theorem dO_firstColumn_12 : decode bO_firstColumn 12 = .ok (.iload_n 1, 1) := by decide +kernel
theorem dO_firstColumn_13 : decode bO_firstColumn 13 = .ok (.iaload, 1) := by decide +kernel
theorem dO_firstColumn_14 : decode bO_firstColumn 14 = .ok (.i2l, 1) := by decide +kernel
theorem dO_firstColumn_15 : decode bO_firstColumn 15 = .ok (.lstore 5, 2) := by decide +kernel
theorem dO_firstColumn_17 : decode bO_firstColumn 17 = .ok (.aload_n 0, 1) := by decide +kernel
theorem dO_firstColumn_18 : decode bO_firstColumn 18 = .ok (.getfield 9, 3) := by decide +kernel
theorem dO_firstColumn_21 : decode bO_firstColumn 21 = .ok (.aload_n 0, 1) := by decide +kernel
theorem dO_firstColumn_22 : decode bO_firstColumn 22 = .ok (.getfield 18, 3) := by decide +kernel
theorem dO_firstColumn_25 : decode bO_firstColumn 25 = .ok (.iload_n 1, 1) := by decide +kernel
theorem dO_firstColumn_26 : decode bO_firstColumn 26 = .ok (.iaload, 1) := by decide +kernel
theorem dO_firstColumn_27 : decode bO_firstColumn 27 = .ok (.iaload, 1) := by decide +kernel
theorem dO_firstColumn_28 : decode bO_firstColumn 28 = .ok (.i2l, 1) := by decide +kernel
theorem dO_firstColumn_29 : decode bO_firstColumn 29 = .ok (.lload_n 3, 1) := by decide +kernel
theorem dO_firstColumn_30 : decode bO_firstColumn 30 = .ok (.lsub, 1) := by decide +kernel
theorem dO_firstColumn_31 : decode bO_firstColumn 31 = .ok (.lstore 7, 2) := by decide +kernel
theorem dO_firstColumn_33 : decode bO_firstColumn 33 = .ok (.aload_n 0, 1) := by decide +kernel
theorem dO_firstColumn_34 : decode bO_firstColumn 34 = .ok (.getfield 15, 3) := by decide +kernel
theorem dO_firstColumn_37 : decode bO_firstColumn 37 = .ok (.aload_n 0, 1) := by decide +kernel
theorem dO_firstColumn_38 : decode bO_firstColumn 38 = .ok (.getfield 18, 3) := by decide +kernel
theorem dO_firstColumn_41 : decode bO_firstColumn 41 = .ok (.iload_n 1, 1) := by decide +kernel
theorem dO_firstColumn_42 : decode bO_firstColumn 42 = .ok (.iaload, 1) := by decide +kernel
theorem dO_firstColumn_43 : decode bO_firstColumn 43 = .ok (.iaload, 1) := by decide +kernel
theorem dO_firstColumn_44 : decode bO_firstColumn 44 = .ok (.i2l, 1) := by decide +kernel
theorem dO_firstColumn_45 : decode bO_firstColumn 45 = .ok (.lload 5, 2) := by decide +kernel
theorem dO_firstColumn_47 : decode bO_firstColumn 47 = .ok (.lsub, 1) := by decide +kernel
theorem dO_firstColumn_48 : decode bO_firstColumn 48 = .ok (.lstore 9, 2) := by decide +kernel
theorem dO_firstColumn_50 : decode bO_firstColumn 50 = .ok (.lload 9, 2) := by decide +kernel
theorem dO_firstColumn_52 : decode bO_firstColumn 52 = .ok (.lconst 0, 1) := by decide +kernel
theorem dO_firstColumn_53 : decode bO_firstColumn 53 = .ok (.lcmp, 1) := by decide +kernel
theorem dO_firstColumn_54 : decode bO_firstColumn 54 = .ok (.ifCond .ne (7), 3) := by decide +kernel
theorem dO_firstColumn_57 : decode bO_firstColumn 57 = .ok (.sipush (256), 3) := by decide +kernel
theorem dO_firstColumn_60 : decode bO_firstColumn 60 = .ok (.ireturn, 1) := by decide +kernel
theorem dO_firstColumn_61 : decode bO_firstColumn 61 = .ok (.lload_n 3, 1) := by decide +kernel
theorem dO_firstColumn_62 : decode bO_firstColumn 62 = .ok (.lload 7, 2) := by decide +kernel
theorem dO_firstColumn_64 : decode bO_firstColumn 64 = .ok (.lneg, 1) := by decide +kernel
theorem dO_firstColumn_65 : decode bO_firstColumn 65 = .ok (.iload_n 2, 1) := by decide +kernel
theorem dO_firstColumn_66 : decode bO_firstColumn 66 = .ok (.i2l, 1) := by decide +kernel
theorem dO_firstColumn_67 : decode bO_firstColumn 67 = .ok (.lload 5, 2) := by decide +kernel
theorem dO_firstColumn_69 : decode bO_firstColumn 69 = .ok (.lsub, 1) := by decide +kernel
theorem dO_firstColumn_70 : decode bO_firstColumn 70 = .ok (.lmul, 1) := by decide +kernel
theorem dO_firstColumn_71 : decode bO_firstColumn 71 = .ok (.lload 9, 2) := by decide +kernel
theorem dO_firstColumn_73 : decode bO_firstColumn 73 = .ok (.invokestatic 62, 3) := by decide +kernel
theorem dO_firstColumn_76 : decode bO_firstColumn 76 = .ok (.lsub, 1) := by decide +kernel
theorem dO_firstColumn_77 : decode bO_firstColumn 77 = .ok (.lstore 11, 2) := by decide +kernel
theorem dO_firstColumn_79 : decode bO_firstColumn 79 = .ok (.lload 11, 2) := by decide +kernel
theorem dO_firstColumn_81 : decode bO_firstColumn 81 = .ok (.ldc2_w 66, 3) := by decide +kernel
theorem dO_firstColumn_84 : decode bO_firstColumn 84 = .ok (.ladd, 1) := by decide +kernel
theorem dO_firstColumn_85 : decode bO_firstColumn 85 = .ok (.lconst 1, 1) := by decide +kernel
theorem dO_firstColumn_86 : decode bO_firstColumn 86 = .ok (.lsub, 1) := by decide +kernel
theorem dO_firstColumn_87 : decode bO_firstColumn 87 = .ok (.bipush (16), 2) := by decide +kernel
theorem dO_firstColumn_89 : decode bO_firstColumn 89 = .ok (.lshr, 1) := by decide +kernel
theorem dO_firstColumn_90 : decode bO_firstColumn 90 = .ok (.l2i, 1) := by decide +kernel
theorem dO_firstColumn_91 : decode bO_firstColumn 91 = .ok (.ireturn, 1) := by decide +kernel
theorem dO_windingAt_0 : decode bO_windingAt 0 = .ok (.iload_n 2, 1) := by decide +kernel
theorem dO_windingAt_1 : decode bO_windingAt 1 = .ok (.invokestatic 39, 3) := by decide +kernel
theorem dO_windingAt_4 : decode bO_windingAt 4 = .ok (.istore_n 3, 1) := by decide +kernel
theorem dO_windingAt_5 : decode bO_windingAt 5 = .ok (.iconst 0, 1) := by decide +kernel
theorem dO_windingAt_6 : decode bO_windingAt 6 = .ok (.istore 4, 2) := by decide +kernel
theorem dO_windingAt_8 : decode bO_windingAt 8 = .ok (.iconst 0, 1) := by decide +kernel
theorem dO_windingAt_9 : decode bO_windingAt 9 = .ok (.istore 5, 2) := by decide +kernel
theorem dO_windingAt_11 : decode bO_windingAt 11 = .ok (.iload 5, 2) := by decide +kernel
theorem dO_windingAt_13 : decode bO_windingAt 13 = .ok (.aload_n 0, 1) := by decide +kernel
theorem dO_windingAt_14 : decode bO_windingAt 14 = .ok (.getfield 21, 3) := by decide +kernel
theorem dO_windingAt_17 : decode bO_windingAt 17 = .ok (.if_icmp .ge (41), 3) := by decide +kernel
theorem dO_windingAt_20 : decode bO_windingAt 20 = .ok (.aload_n 0, 1) := by decide +kernel
theorem dO_windingAt_21 : decode bO_windingAt 21 = .ok (.iload 5, 2) := by decide +kernel
theorem dO_windingAt_23 : decode bO_windingAt 23 = .ok (.iload_n 3, 1) := by decide +kernel
theorem dO_windingAt_24 : decode bO_windingAt 24 = .ok (.invokevirtual 43, 3) := by decide +kernel
theorem dO_windingAt_27 : decode bO_windingAt 27 = .ok (.istore 6, 2) := by decide +kernel
theorem dO_windingAt_29 : decode bO_windingAt 29 = .ok (.iload 6, 2) := by decide +kernel
theorem dO_windingAt_31 : decode bO_windingAt 31 = .ok (.ifCond .eq (21), 3) := by decide +kernel
theorem dO_windingAt_34 : decode bO_windingAt 34 = .ok (.aload_n 0, 1) := by decide +kernel
theorem dO_windingAt_35 : decode bO_windingAt 35 = .ok (.iload 5, 2) := by decide +kernel
theorem dO_windingAt_37 : decode bO_windingAt 37 = .ok (.iload_n 3, 1) := by decide +kernel
theorem dO_windingAt_38 : decode bO_windingAt 38 = .ok (.invokevirtual 47, 3) := by decide +kernel
theorem dO_windingAt_41 : decode bO_windingAt 41 = .ok (.iload_n 1, 1) := by decide +kernel
theorem dO_windingAt_42 : decode bO_windingAt 42 = .ok (.if_icmp .gt (10), 3) := by decide +kernel
theorem dO_windingAt_45 : decode bO_windingAt 45 = .ok (.iload 4, 2) := by decide +kernel
theorem dO_windingAt_47 : decode bO_windingAt 47 = .ok (.iload 6, 2) := by decide +kernel
theorem dO_windingAt_49 : decode bO_windingAt 49 = .ok (.iadd, 1) := by decide +kernel
theorem dO_windingAt_50 : decode bO_windingAt 50 = .ok (.istore 4, 2) := by decide +kernel
theorem dO_windingAt_52 : decode bO_windingAt 52 = .ok (.iinc 5 (1), 3) := by decide +kernel
theorem dO_windingAt_55 : decode bO_windingAt 55 = .ok (.goto (-44), 3) := by decide +kernel
theorem dO_windingAt_58 : decode bO_windingAt 58 = .ok (.iload 4, 2) := by decide +kernel
theorem dO_windingAt_60 : decode bO_windingAt 60 = .ok (.ireturn, 1) := by decide +kernel
theorem dO_windRow_0 : decode bO_windRow 0 = .ok (.iload_n 1, 1) := by decide +kernel
theorem dO_windRow_1 : decode bO_windRow 1 = .ok (.invokestatic 39, 3) := by decide +kernel
theorem dO_windRow_4 : decode bO_windRow 4 = .ok (.istore_n 3, 1) := by decide +kernel
theorem dO_windRow_5 : decode bO_windRow 5 = .ok (.iconst 0, 1) := by decide +kernel
theorem dO_windRow_6 : decode bO_windRow 6 = .ok (.istore 4, 2) := by decide +kernel
theorem dO_windRow_8 : decode bO_windRow 8 = .ok (.aload_n 2, 1) := by decide +kernel
theorem dO_windRow_9 : decode bO_windRow 9 = .ok (.iconst 0, 1) := by decide +kernel
theorem dO_windRow_10 : decode bO_windRow 10 = .ok (.invokestatic 50, 3) := by decide +kernel
theorem dO_windRow_13 : decode bO_windRow 13 = .ok (.iconst 0, 1) := by decide +kernel
theorem dO_windRow_14 : decode bO_windRow 14 = .ok (.istore 5, 2) := by decide +kernel
theorem dO_windRow_16 : decode bO_windRow 16 = .ok (.iload 5, 2) := by decide +kernel
theorem dO_windRow_18 : decode bO_windRow 18 = .ok (.aload_n 0, 1) := by decide +kernel
theorem dO_windRow_19 : decode bO_windRow 19 = .ok (.getfield 21, 3) := by decide +kernel
theorem dO_windRow_22 : decode bO_windRow 22 = .ok (.if_icmp .ge (55), 3) := by decide +kernel
theorem dO_windRow_25 : decode bO_windRow 25 = .ok (.aload_n 0, 1) := by decide +kernel
theorem dO_windRow_26 : decode bO_windRow 26 = .ok (.iload 5, 2) := by decide +kernel
theorem dO_windRow_28 : decode bO_windRow 28 = .ok (.iload_n 3, 1) := by decide +kernel
theorem dO_windRow_29 : decode bO_windRow 29 = .ok (.invokevirtual 43, 3) := by decide +kernel
theorem dO_windRow_32 : decode bO_windRow 32 = .ok (.istore 6, 2) := by decide +kernel
theorem dO_windRow_34 : decode bO_windRow 34 = .ok (.iload 6, 2) := by decide +kernel
theorem dO_windRow_36 : decode bO_windRow 36 = .ok (.ifCond .eq (35), 3) := by decide +kernel
theorem dO_windRow_39 : decode bO_windRow 39 = .ok (.iconst 1, 1) := by decide +kernel
theorem dO_windRow_40 : decode bO_windRow 40 = .ok (.istore 4, 2) := by decide +kernel
theorem dO_windRow_42 : decode bO_windRow 42 = .ok (.iconst 0, 1) := by decide +kernel
theorem dO_windRow_43 : decode bO_windRow 43 = .ok (.aload_n 0, 1) := by decide +kernel
theorem dO_windRow_44 : decode bO_windRow 44 = .ok (.iload 5, 2) := by decide +kernel
theorem dO_windRow_46 : decode bO_windRow 46 = .ok (.iload_n 3, 1) := by decide +kernel
theorem dO_windRow_47 : decode bO_windRow 47 = .ok (.invokevirtual 47, 3) := by decide +kernel
theorem dO_windRow_50 : decode bO_windRow 50 = .ok (.invokestatic 56, 3) := by decide +kernel
theorem dO_windRow_53 : decode bO_windRow 53 = .ok (.istore 7, 2) := by decide +kernel
theorem dO_windRow_55 : decode bO_windRow 55 = .ok (.iload 7, 2) := by decide +kernel
theorem dO_windRow_57 : decode bO_windRow 57 = .ok (.aload_n 2, 1) := by decide +kernel
theorem dO_windRow_58 : decode bO_windRow 58 = .ok (.arraylength, 1) := by decide +kernel
theorem dO_windRow_59 : decode bO_windRow 59 = .ok (.if_icmp .ge (12), 3) := by decide +kernel
theorem dO_windRow_62 : decode bO_windRow 62 = .ok (.aload_n 2, 1) := by decide +kernel
theorem dO_windRow_63 : decode bO_windRow 63 = .ok (.iload 7, 2) := by decide +kernel
theorem dO_windRow_65 : decode bO_windRow 65 = .ok (.dup2, 1) := by decide +kernel
theorem dO_windRow_66 : decode bO_windRow 66 = .ok (.iaload, 1) := by decide +kernel
theorem dO_windRow_67 : decode bO_windRow 67 = .ok (.iload 6, 2) := by decide +kernel
theorem dO_windRow_69 : decode bO_windRow 69 = .ok (.iadd, 1) := by decide +kernel
theorem dO_windRow_70 : decode bO_windRow 70 = .ok (.iastore, 1) := by decide +kernel
theorem dO_windRow_71 : decode bO_windRow 71 = .ok (.iinc 5 (1), 3) := by decide +kernel
theorem dO_windRow_74 : decode bO_windRow 74 = .ok (.goto (-58), 3) := by decide +kernel
theorem dO_windRow_77 : decode bO_windRow 77 = .ok (.iconst 1, 1) := by decide +kernel
theorem dO_windRow_78 : decode bO_windRow 78 = .ok (.istore 5, 2) := by decide +kernel
theorem dO_windRow_80 : decode bO_windRow 80 = .ok (.iload 5, 2) := by decide +kernel
theorem dO_windRow_82 : decode bO_windRow 82 = .ok (.aload_n 2, 1) := by decide +kernel
theorem dO_windRow_83 : decode bO_windRow 83 = .ok (.arraylength, 1) := by decide +kernel
theorem dO_windRow_84 : decode bO_windRow 84 = .ok (.if_icmp .ge (22), 3) := by decide +kernel
theorem dO_windRow_87 : decode bO_windRow 87 = .ok (.aload_n 2, 1) := by decide +kernel
theorem dO_windRow_88 : decode bO_windRow 88 = .ok (.iload 5, 2) := by decide +kernel
theorem dO_windRow_90 : decode bO_windRow 90 = .ok (.dup2, 1) := by decide +kernel
theorem dO_windRow_91 : decode bO_windRow 91 = .ok (.iaload, 1) := by decide +kernel
theorem dO_windRow_92 : decode bO_windRow 92 = .ok (.aload_n 2, 1) := by decide +kernel
theorem dO_windRow_93 : decode bO_windRow 93 = .ok (.iload 5, 2) := by decide +kernel
theorem dO_windRow_95 : decode bO_windRow 95 = .ok (.iconst 1, 1) := by decide +kernel
theorem dO_windRow_96 : decode bO_windRow 96 = .ok (.isub, 1) := by decide +kernel
theorem dO_windRow_97 : decode bO_windRow 97 = .ok (.iaload, 1) := by decide +kernel
theorem dO_windRow_98 : decode bO_windRow 98 = .ok (.iadd, 1) := by decide +kernel
theorem dO_windRow_99 : decode bO_windRow 99 = .ok (.iastore, 1) := by decide +kernel
theorem dO_windRow_100 : decode bO_windRow 100 = .ok (.iinc 5 (1), 3) := by decide +kernel
theorem dO_windRow_103 : decode bO_windRow 103 = .ok (.goto (-23), 3) := by decide +kernel
theorem dO_windRow_106 : decode bO_windRow 106 = .ok (.iload 4, 2) := by decide +kernel
theorem dO_windRow_108 : decode bO_windRow 108 = .ok (.ireturn, 1) := by decide +kernel
theorem dL_init_0 : decode bL_init 0 = .ok (.aload_n 0, 1) := by decide +kernel
theorem dL_init_1 : decode bL_init 1 = .ok (.invokespecial 1, 3) := by decide +kernel
theorem dL_init_4 : decode bL_init 4 = .ok (.aload_n 0, 1) := by decide +kernel
theorem dL_init_5 : decode bL_init 5 = .ok (.iconst 0, 1) := by decide +kernel
theorem dL_init_6 : decode bL_init 6 = .ok (.iload_n 1, 1) := by decide +kernel
theorem dL_init_7 : decode bL_init 7 = .ok (.invokestatic 7, 3) := by decide +kernel
theorem dL_init_10 : decode bL_init 10 = .ok (.newarray .int, 2) := by decide +kernel
theorem dL_init_12 : decode bL_init 12 = .ok (.putfield 13, 3) := by decide +kernel
theorem dL_init_15 : decode bL_init 15 = .ok (.return_, 1) := by decide +kernel
theorem dL_add_0 : decode bL_add 0 = .ok (.aload_n 0, 1) := by decide +kernel
theorem dL_add_1 : decode bL_add 1 = .ok (.getfield 19, 3) := by decide +kernel
theorem dL_add_4 : decode bL_add 4 = .ok (.aload_n 0, 1) := by decide +kernel
theorem dL_add_5 : decode bL_add 5 = .ok (.getfield 13, 3) := by decide +kernel
theorem dL_add_8 : decode bL_add 8 = .ok (.arraylength, 1) := by decide +kernel
theorem dL_add_9 : decode bL_add 9 = .ok (.if_icmp .ge (23), 3) := by decide +kernel
theorem dL_add_12 : decode bL_add 12 = .ok (.aload_n 0, 1) := by decide +kernel
theorem dL_add_13 : decode bL_add 13 = .ok (.getfield 13, 3) := by decide +kernel
theorem dL_add_16 : decode bL_add 16 = .ok (.aload_n 0, 1) := by decide +kernel
theorem dL_add_17 : decode bL_add 17 = .ok (.getfield 19, 3) := by decide +kernel
theorem dL_add_20 : decode bL_add 20 = .ok (.iload_n 1, 1) := by decide +kernel
theorem dL_add_21 : decode bL_add 21 = .ok (.iastore, 1) := by decide +kernel
theorem dL_add_22 : decode bL_add 22 = .ok (.aload_n 0, 1) := by decide +kernel
theorem dL_add_23 : decode bL_add 23 = .ok (.dup, 1) := by decide +kernel
theorem dL_add_24 : decode bL_add 24 = .ok (.getfield 19, 3) := by decide +kernel
theorem dL_add_27 : decode bL_add 27 = .ok (.iconst 1, 1) := by decide +kernel
theorem dL_add_28 : decode bL_add 28 = .ok (.iadd, 1) := by decide +kernel
theorem dL_add_29 : decode bL_add 29 = .ok (.putfield 19, 3) := by decide +kernel
theorem dL_add_32 : decode bL_add 32 = .ok (.return_, 1) := by decide +kernel
theorem dC_init_0 : decode bC_init 0 = .ok (.aload_n 0, 1) := by decide +kernel
theorem dC_init_1 : decode bC_init 1 = .ok (.invokespecial 3, 3) := by decide +kernel
theorem dC_init_4 : decode bC_init 4 = .ok (.aload_n 0, 1) := by decide +kernel
theorem dC_init_5 : decode bC_init 5 = .ok (.sipush (24000), 3) := by decide +kernel
theorem dC_init_8 : decode bC_init 8 = .ok (.newarray .int, 2) := by decide +kernel
theorem dC_init_10 : decode bC_init 10 = .ok (.putfield 9, 3) := by decide +kernel
theorem dC_init_13 : decode bC_init 13 = .ok (.aload_n 0, 1) := by decide +kernel
theorem dC_init_14 : decode bC_init 14 = .ok (.bipush (13), 2) := by decide +kernel
theorem dC_init_16 : decode bC_init 16 = .ok (.newarray .int, 2) := by decide +kernel
theorem dC_init_18 : decode bC_init 18 = .ok (.putfield 15, 3) := by decide +kernel
theorem dC_init_21 : decode bC_init 21 = .ok (.iconst 0, 1) := by decide +kernel
theorem dC_init_22 : decode bC_init 22 = .ok (.istore_n 3, 1) := by decide +kernel
theorem dC_init_23 : decode bC_init 23 = .ok (.iload_n 3, 1) := by decide +kernel
theorem dC_init_24 : decode bC_init 24 = .ok (.iload_n 2, 1) := by decide +kernel
theorem dC_init_25 : decode bC_init 25 = .ok (.if_icmp .ge (28), 3) := by decide +kernel
theorem dC_init_28 : decode bC_init 28 = .ok (.iload_n 3, 1) := by decide +kernel
theorem dC_init_29 : decode bC_init 29 = .ok (.sipush (24000), 3) := by decide +kernel
theorem dC_init_32 : decode bC_init 32 = .ok (.if_icmp .ge (21), 3) := by decide +kernel
theorem dC_init_35 : decode bC_init 35 = .ok (.aload_n 0, 1) := by decide +kernel
theorem dC_init_36 : decode bC_init 36 = .ok (.getfield 9, 3) := by decide +kernel
theorem dC_init_39 : decode bC_init 39 = .ok (.iload_n 3, 1) := by decide +kernel
theorem dC_init_40 : decode bC_init 40 = .ok (.iload_n 3, 1) := by decide +kernel
theorem dC_init_41 : decode bC_init 41 = .ok (.iconst 0, 1) := by decide +kernel
theorem dC_init_42 : decode bC_init 42 = .ok (.iload_n 1, 1) := by decide +kernel
theorem dC_init_43 : decode bC_init 43 = .ok (.invokestatic 18, 3) := by decide +kernel
theorem dC_init_46 : decode bC_init 46 = .ok (.iastore, 1) := by decide +kernel
theorem dC_init_47 : decode bC_init 47 = .ok (.iinc 3 (1), 3) := by decide +kernel
theorem dC_init_50 : decode bC_init 50 = .ok (.goto (-27), 3) := by decide +kernel
theorem dC_init_53 : decode bC_init 53 = .ok (.aload_n 0, 1) := by decide +kernel
theorem dC_init_54 : decode bC_init 54 = .ok (.iload_n 2, 1) := by decide +kernel
theorem dC_init_55 : decode bC_init 55 = .ok (.sipush (24000), 3) := by decide +kernel
theorem dC_init_58 : decode bC_init 58 = .ok (.invokestatic 24, 3) := by decide +kernel
theorem dC_init_61 : decode bC_init 61 = .ok (.putfield 30, 3) := by decide +kernel
theorem dC_init_64 : decode bC_init 64 = .ok (.return_, 1) := by decide +kernel
theorem dC_start_0 : decode bC_start 0 = .ok (.aload_n 0, 1) := by decide +kernel
theorem dC_start_1 : decode bC_start 1 = .ok (.getfield 15, 3) := by decide +kernel
theorem dC_start_4 : decode bC_start 4 = .ok (.aload_n 0, 1) := by decide +kernel
theorem dC_start_5 : decode bC_start 5 = .ok (.getfield 34, 3) := by decide +kernel
theorem dC_start_8 : decode bC_start 8 = .ok (.iaload, 1) := by decide +kernel
theorem dC_start_9 : decode bC_start 9 = .ok (.ireturn, 1) := by decide +kernel
theorem dC_push_0 : decode bC_push 0 = .ok (.aload_n 0, 1) := by decide +kernel
theorem dC_push_1 : decode bC_push 1 = .ok (.getfield 30, 3) := by decide +kernel
theorem dC_push_4 : decode bC_push 4 = .ok (.aload_n 0, 1) := by decide +kernel
theorem dC_push_5 : decode bC_push 5 = .ok (.invokevirtual 37, 3) := by decide +kernel
theorem dC_push_8 : decode bC_push 8 = .ok (.isub, 1) := by decide +kernel
theorem dC_push_9 : decode bC_push 9 = .ok (.istore_n 1, 1) := by decide +kernel
theorem dC_push_10 : decode bC_push 10 = .ok (.aload_n 0, 1) := by decide +kernel
theorem dC_push_11 : decode bC_push 11 = .ok (.getfield 34, 3) := by decide +kernel
theorem dC_push_14 : decode bC_push 14 = .ok (.bipush (12), 2) := by decide +kernel
theorem dC_push_16 : decode bC_push 16 = .ok (.if_icmp .ge (15), 3) := by decide +kernel
theorem dC_push_19 : decode bC_push 19 = .ok (.iload_n 1, 1) := by decide +kernel
theorem dC_push_20 : decode bC_push 20 = .ok (.sipush (24000), 3) := by decide +kernel
theorem dC_push_23 : decode bC_push 23 = .ok (.aload_n 0, 1) := by decide +kernel
theorem dC_push_24 : decode bC_push 24 = .ok (.getfield 30, 3) := by decide +kernel
theorem dC_push_27 : decode bC_push 27 = .ok (.isub, 1) := by decide +kernel
theorem dC_push_28 : decode bC_push 28 = .ok (.if_icmp .le (5), 3) := by decide +kernel
theorem dC_push_31 : decode bC_push 31 = .ok (.iconst 0, 1) := by decide +kernel
theorem dC_push_32 : decode bC_push 32 = .ok (.ireturn, 1) := by decide +kernel
theorem dC_push_33 : decode bC_push 33 = .ok (.aload_n 0, 1) := by decide +kernel
theorem dC_push_34 : decode bC_push 34 = .ok (.getfield 9, 3) := by decide +kernel
theorem dC_push_37 : decode bC_push 37 = .ok (.aload_n 0, 1) := by decide +kernel
theorem dC_push_38 : decode bC_push 38 = .ok (.invokevirtual 37, 3) := by decide +kernel
theorem dC_push_41 : decode bC_push 41 = .ok (.aload_n 0, 1) := by decide +kernel
theorem dC_push_42 : decode bC_push 42 = .ok (.getfield 9, 3) := by decide +kernel
theorem dC_push_45 : decode bC_push 45 = .ok (.aload_n 0, 1) := by decide +kernel
theorem dC_push_46 : decode bC_push 46 = .ok (.getfield 30, 3) := by decide +kernel
theorem dC_push_49 : decode bC_push 49 = .ok (.iload_n 1, 1) := by decide +kernel
theorem dC_push_50 : decode bC_push 50 = .ok (.invokestatic 41, 3) := by decide +kernel
theorem dC_push_53 : decode bC_push 53 = .ok (.aload_n 0, 1) := by decide +kernel
theorem dC_push_54 : decode bC_push 54 = .ok (.dup, 1) := by decide +kernel
theorem dC_push_55 : decode bC_push 55 = .ok (.getfield 34, 3) := by decide +kernel
theorem dC_push_58 : decode bC_push 58 = .ok (.iconst 1, 1) := by decide +kernel
theorem dC_push_59 : decode bC_push 59 = .ok (.iadd, 1) := by decide +kernel
theorem dC_push_60 : decode bC_push 60 = .ok (.putfield 34, 3) := by decide +kernel
theorem dC_push_63 : decode bC_push 63 = .ok (.aload_n 0, 1) := by decide +kernel
theorem dC_push_64 : decode bC_push 64 = .ok (.getfield 15, 3) := by decide +kernel
theorem dC_push_67 : decode bC_push 67 = .ok (.aload_n 0, 1) := by decide +kernel
theorem dC_push_68 : decode bC_push 68 = .ok (.getfield 34, 3) := by decide +kernel
theorem dC_push_71 : decode bC_push 71 = .ok (.aload_n 0, 1) := by decide +kernel
theorem dC_push_72 : decode bC_push 72 = .ok (.getfield 30, 3) := by decide +kernel
theorem dC_push_75 : decode bC_push 75 = .ok (.iastore, 1) := by decide +kernel
theorem dC_push_76 : decode bC_push 76 = .ok (.aload_n 0, 1) := by decide +kernel
theorem dC_push_77 : decode bC_push 77 = .ok (.dup, 1) := by decide +kernel
theorem dC_push_78 : decode bC_push 78 = .ok (.getfield 30, 3) := by decide +kernel
theorem dC_push_81 : decode bC_push 81 = .ok (.iload_n 1, 1) := by decide +kernel
theorem dC_push_82 : decode bC_push 82 = .ok (.iadd, 1) := by decide +kernel
theorem dC_push_83 : decode bC_push 83 = .ok (.putfield 30, 3) := by decide +kernel
theorem dC_push_86 : decode bC_push 86 = .ok (.iconst 1, 1) := by decide +kernel
theorem dC_push_87 : decode bC_push 87 = .ok (.ireturn, 1) := by decide +kernel
theorem dC_pop_0 : decode bC_pop 0 = .ok (.aload_n 0, 1) := by decide +kernel
theorem dC_pop_1 : decode bC_pop 1 = .ok (.getfield 34, 3) := by decide +kernel
theorem dC_pop_4 : decode bC_pop 4 = .ok (.ifCond .gt (5), 3) := by decide +kernel
theorem dC_pop_7 : decode bC_pop 7 = .ok (.iconst 0, 1) := by decide +kernel
theorem dC_pop_8 : decode bC_pop 8 = .ok (.ireturn, 1) := by decide +kernel
theorem dC_pop_9 : decode bC_pop 9 = .ok (.aload_n 0, 1) := by decide +kernel
theorem dC_pop_10 : decode bC_pop 10 = .ok (.aload_n 0, 1) := by decide +kernel
theorem dC_pop_11 : decode bC_pop 11 = .ok (.invokevirtual 37, 3) := by decide +kernel
theorem dC_pop_14 : decode bC_pop 14 = .ok (.putfield 30, 3) := by decide +kernel
theorem dC_pop_17 : decode bC_pop 17 = .ok (.aload_n 0, 1) := by decide +kernel
theorem dC_pop_18 : decode bC_pop 18 = .ok (.dup, 1) := by decide +kernel
theorem dC_pop_19 : decode bC_pop 19 = .ok (.getfield 34, 3) := by decide +kernel
theorem dC_pop_22 : decode bC_pop 22 = .ok (.iconst 1, 1) := by decide +kernel
theorem dC_pop_23 : decode bC_pop 23 = .ok (.isub, 1) := by decide +kernel
theorem dC_pop_24 : decode bC_pop 24 = .ok (.putfield 34, 3) := by decide +kernel
theorem dC_pop_27 : decode bC_pop 27 = .ok (.iconst 1, 1) := by decide +kernel
theorem dC_pop_28 : decode bC_pop 28 = .ok (.ireturn, 1) := by decide +kernel
theorem dC_replace_0 : decode bC_replace 0 = .ok (.aload_n 1, 1) := by decide +kernel
theorem dC_replace_1 : decode bC_replace 1 = .ok (.getfield 47, 3) := by decide +kernel
theorem dC_replace_4 : decode bC_replace 4 = .ok (.sipush (24000), 3) := by decide +kernel
theorem dC_replace_7 : decode bC_replace 7 = .ok (.aload_n 0, 1) := by decide +kernel
theorem dC_replace_8 : decode bC_replace 8 = .ok (.invokevirtual 37, 3) := by decide +kernel
theorem dC_replace_11 : decode bC_replace 11 = .ok (.isub, 1) := by decide +kernel
theorem dC_replace_12 : decode bC_replace 12 = .ok (.if_icmp .le (5), 3) := by decide +kernel
theorem dC_replace_15 : decode bC_replace 15 = .ok (.iconst 0, 1) := by decide +kernel
theorem dC_replace_16 : decode bC_replace 16 = .ok (.ireturn, 1) := by decide +kernel
theorem dC_replace_17 : decode bC_replace 17 = .ok (.aload_n 1, 1) := by decide +kernel
theorem dC_replace_18 : decode bC_replace 18 = .ok (.getfield 52, 3) := by decide +kernel
theorem dC_replace_21 : decode bC_replace 21 = .ok (.iconst 0, 1) := by decide +kernel
theorem dC_replace_22 : decode bC_replace 22 = .ok (.aload_n 0, 1) := by decide +kernel
theorem dC_replace_23 : decode bC_replace 23 = .ok (.getfield 9, 3) := by decide +kernel
theorem dC_replace_26 : decode bC_replace 26 = .ok (.aload_n 0, 1) := by decide +kernel
theorem dC_replace_27 : decode bC_replace 27 = .ok (.invokevirtual 37, 3) := by decide +kernel
theorem dC_replace_30 : decode bC_replace 30 = .ok (.aload_n 1, 1) := by decide +kernel
theorem dC_replace_31 : decode bC_replace 31 = .ok (.getfield 47, 3) := by decide +kernel
theorem dC_replace_34 : decode bC_replace 34 = .ok (.invokestatic 41, 3) := by decide +kernel
theorem dC_replace_37 : decode bC_replace 37 = .ok (.aload_n 0, 1) := by decide +kernel
theorem dC_replace_38 : decode bC_replace 38 = .ok (.aload_n 0, 1) := by decide +kernel
theorem dC_replace_39 : decode bC_replace 39 = .ok (.invokevirtual 37, 3) := by decide +kernel
theorem dC_replace_42 : decode bC_replace 42 = .ok (.aload_n 1, 1) := by decide +kernel
theorem dC_replace_43 : decode bC_replace 43 = .ok (.getfield 47, 3) := by decide +kernel
theorem dC_replace_46 : decode bC_replace 46 = .ok (.iadd, 1) := by decide +kernel
theorem dC_replace_47 : decode bC_replace 47 = .ok (.putfield 30, 3) := by decide +kernel
theorem dC_replace_50 : decode bC_replace 50 = .ok (.iconst 1, 1) := by decide +kernel
theorem dC_replace_51 : decode bC_replace 51 = .ok (.ireturn, 1) := by decide +kernel
theorem dC_has_0 : decode bC_has 0 = .ok (.aload_n 0, 1) := by decide +kernel
theorem dC_has_1 : decode bC_has 1 = .ok (.invokevirtual 37, 3) := by decide +kernel
theorem dC_has_4 : decode bC_has 4 = .ok (.istore_n 3, 1) := by decide +kernel
theorem dC_has_5 : decode bC_has 5 = .ok (.iload_n 3, 1) := by decide +kernel
theorem dC_has_6 : decode bC_has 6 = .ok (.aload_n 0, 1) := by decide +kernel
theorem dC_has_7 : decode bC_has 7 = .ok (.getfield 30, 3) := by decide +kernel
theorem dC_has_10 : decode bC_has 10 = .ok (.if_icmp .ge (46), 3) := by decide +kernel
theorem dC_has_13 : decode bC_has 13 = .ok (.aload_n 0, 1) := by decide +kernel
theorem dC_has_14 : decode bC_has 14 = .ok (.getfield 9, 3) := by decide +kernel
theorem dC_has_17 : decode bC_has 17 = .ok (.iload_n 3, 1) := by decide +kernel
theorem dC_has_18 : decode bC_has 18 = .ok (.iaload, 1) := by decide +kernel
theorem dC_has_19 : decode bC_has 19 = .ok (.istore 4, 2) := by decide +kernel
theorem dC_has_21 : decode bC_has 21 = .ok (.iload 4, 2) := by decide +kernel
theorem dC_has_23 : decode bC_has 23 = .ok (.invokestatic 53, 3) := by decide +kernel
theorem dC_has_26 : decode bC_has 26 = .ok (.iload_n 2, 1) := by decide +kernel
theorem dC_has_27 : decode bC_has 27 = .ok (.if_icmp .ne (23), 3) := by decide +kernel
theorem dC_has_30 : decode bC_has 30 = .ok (.iload 4, 2) := by decide +kernel
theorem dC_has_32 : decode bC_has 32 = .ok (.invokestatic 57, 3) := by decide +kernel
theorem dC_has_35 : decode bC_has 35 = .ok (.iload_n 1, 1) := by decide +kernel
theorem dC_has_36 : decode bC_has 36 = .ok (.if_icmp .gt (14), 3) := by decide +kernel
theorem dC_has_39 : decode bC_has 39 = .ok (.iload_n 1, 1) := by decide +kernel
theorem dC_has_40 : decode bC_has 40 = .ok (.iload 4, 2) := by decide +kernel
theorem dC_has_42 : decode bC_has 42 = .ok (.invokestatic 60, 3) := by decide +kernel
theorem dC_has_45 : decode bC_has 45 = .ok (.if_icmp .ge (5), 3) := by decide +kernel
theorem dC_has_48 : decode bC_has 48 = .ok (.iconst 1, 1) := by decide +kernel
theorem dC_has_49 : decode bC_has 49 = .ok (.ireturn, 1) := by decide +kernel
theorem dC_has_50 : decode bC_has 50 = .ok (.iinc 3 (1), 3) := by decide +kernel
theorem dC_has_53 : decode bC_has 53 = .ok (.goto (-48), 3) := by decide +kernel
theorem dC_has_56 : decode bC_has 56 = .ok (.iconst 0, 1) := by decide +kernel
theorem dC_has_57 : decode bC_has 57 = .ok (.ireturn, 1) := by decide +kernel
theorem dC_pixelCount_0 : decode bC_pixelCount 0 = .ok (.iconst 0, 1) := by decide +kernel
theorem dC_pixelCount_1 : decode bC_pixelCount 1 = .ok (.istore_n 1, 1) := by decide +kernel
theorem dC_pixelCount_2 : decode bC_pixelCount 2 = .ok (.aload_n 0, 1) := by decide +kernel
theorem dC_pixelCount_3 : decode bC_pixelCount 3 = .ok (.invokevirtual 37, 3) := by decide +kernel
theorem dC_pixelCount_6 : decode bC_pixelCount 6 = .ok (.istore_n 2, 1) := by decide +kernel
theorem dC_pixelCount_7 : decode bC_pixelCount 7 = .ok (.iload_n 2, 1) := by decide +kernel
theorem dC_pixelCount_8 : decode bC_pixelCount 8 = .ok (.aload_n 0, 1) := by decide +kernel
theorem dC_pixelCount_9 : decode bC_pixelCount 9 = .ok (.getfield 30, 3) := by decide +kernel
theorem dC_pixelCount_12 : decode bC_pixelCount 12 = .ok (.if_icmp .ge (21), 3) := by decide +kernel
theorem dC_pixelCount_15 : decode bC_pixelCount 15 = .ok (.iload_n 1, 1) := by decide +kernel
theorem dC_pixelCount_16 : decode bC_pixelCount 16 = .ok (.aload_n 0, 1) := by decide +kernel
theorem dC_pixelCount_17 : decode bC_pixelCount 17 = .ok (.getfield 9, 3) := by decide +kernel
theorem dC_pixelCount_20 : decode bC_pixelCount 20 = .ok (.iload_n 2, 1) := by decide +kernel
theorem dC_pixelCount_21 : decode bC_pixelCount 21 = .ok (.iaload, 1) := by decide +kernel
theorem dC_pixelCount_22 : decode bC_pixelCount 22 = .ok (.invokestatic 63, 3) := by decide +kernel
theorem dC_pixelCount_25 : decode bC_pixelCount 25 = .ok (.iadd, 1) := by decide +kernel
theorem dC_pixelCount_26 : decode bC_pixelCount 26 = .ok (.istore_n 1, 1) := by decide +kernel
theorem dC_pixelCount_27 : decode bC_pixelCount 27 = .ok (.iinc 2 (1), 3) := by decide +kernel
theorem dC_pixelCount_30 : decode bC_pixelCount 30 = .ok (.goto (-23), 3) := by decide +kernel
theorem dC_pixelCount_33 : decode bC_pixelCount 33 = .ok (.iload_n 1, 1) := by decide +kernel
theorem dC_pixelCount_34 : decode bC_pixelCount 34 = .ok (.ireturn, 1) := by decide +kernel
theorem dW_hasPixel_0 : decode bW_hasPixel 0 = .ok (.iload_n 1, 1) := by decide +kernel
theorem dW_hasPixel_1 : decode bW_hasPixel 1 = .ok (.ifCond .lt (27), 3) := by decide +kernel
theorem dW_hasPixel_4 : decode bW_hasPixel 4 = .ok (.iload_n 1, 1) := by decide +kernel
theorem dW_hasPixel_5 : decode bW_hasPixel 5 = .ok (.aload_n 0, 1) := by decide +kernel
theorem dW_hasPixel_6 : decode bW_hasPixel 6 = .ok (.getfield 18, 3) := by decide +kernel
theorem dW_hasPixel_9 : decode bW_hasPixel 9 = .ok (.if_icmp .ge (19), 3) := by decide +kernel
theorem dW_hasPixel_12 : decode bW_hasPixel 12 = .ok (.iload_n 2, 1) := by decide +kernel
theorem dW_hasPixel_13 : decode bW_hasPixel 13 = .ok (.ifCond .lt (15), 3) := by decide +kernel
theorem dW_hasPixel_16 : decode bW_hasPixel 16 = .ok (.iload_n 2, 1) := by decide +kernel
theorem dW_hasPixel_17 : decode bW_hasPixel 17 = .ok (.aload_n 0, 1) := by decide +kernel
theorem dW_hasPixel_18 : decode bW_hasPixel 18 = .ok (.getfield 22, 3) := by decide +kernel
theorem dW_hasPixel_21 : decode bW_hasPixel 21 = .ok (.if_icmp .ge (7), 3) := by decide +kernel
theorem dW_hasPixel_24 : decode bW_hasPixel 24 = .ok (.iconst 1, 1) := by decide +kernel
theorem dW_hasPixel_25 : decode bW_hasPixel 25 = .ok (.goto (4), 3) := by decide +kernel
theorem dW_hasPixel_28 : decode bW_hasPixel 28 = .ok (.iconst 0, 1) := by decide +kernel
theorem dW_hasPixel_29 : decode bW_hasPixel 29 = .ok (.ireturn, 1) := by decide +kernel
theorem dW_paint_0 : decode bW_paint 0 = .ok (.iconst 0, 1) := by decide +kernel
theorem dW_paint_1 : decode bW_paint 1 = .ok (.istore 5, 2) := by decide +kernel
theorem dW_paint_3 : decode bW_paint 3 = .ok (.iload_n 2, 1) := by decide +kernel
theorem dW_paint_4 : decode bW_paint 4 = .ok (.istore 6, 2) := by decide +kernel
theorem dW_paint_6 : decode bW_paint 6 = .ok (.iload 6, 2) := by decide +kernel
theorem dW_paint_8 : decode bW_paint 8 = .ok (.iload_n 3, 1) := by decide +kernel
theorem dW_paint_9 : decode bW_paint 9 = .ok (.if_icmp .ge (75), 3) := by decide +kernel
theorem dW_paint_12 : decode bW_paint 12 = .ok (.aload_n 1, 1) := by decide +kernel
theorem dW_paint_13 : decode bW_paint 13 = .ok (.iload 6, 2) := by decide +kernel
theorem dW_paint_15 : decode bW_paint 15 = .ok (.iaload, 1) := by decide +kernel
theorem dW_paint_16 : decode bW_paint 16 = .ok (.invokestatic 139, 3) := by decide +kernel
theorem dW_paint_19 : decode bW_paint 19 = .ok (.aload_n 0, 1) := by decide +kernel
theorem dW_paint_20 : decode bW_paint 20 = .ok (.getfield 18, 3) := by decide +kernel
theorem dW_paint_23 : decode bW_paint 23 = .ok (.imul, 1) := by decide +kernel
theorem dW_paint_24 : decode bW_paint 24 = .ok (.aload_n 1, 1) := by decide +kernel
theorem dW_paint_25 : decode bW_paint 25 = .ok (.iload 6, 2) := by decide +kernel
theorem dW_paint_27 : decode bW_paint 27 = .ok (.iaload, 1) := by decide +kernel
theorem dW_paint_28 : decode bW_paint 28 = .ok (.invokestatic 155, 3) := by decide +kernel
theorem dW_paint_31 : decode bW_paint 31 = .ok (.iadd, 1) := by decide +kernel
theorem dW_paint_32 : decode bW_paint 32 = .ok (.istore 7, 2) := by decide +kernel
theorem dW_paint_34 : decode bW_paint 34 = .ok (.aload_n 1, 1) := by decide +kernel
theorem dW_paint_35 : decode bW_paint 35 = .ok (.iload 6, 2) := by decide +kernel
theorem dW_paint_37 : decode bW_paint 37 = .ok (.iaload, 1) := by decide +kernel
theorem dW_paint_38 : decode bW_paint 38 = .ok (.invokestatic 168, 3) := by decide +kernel
theorem dW_paint_41 : decode bW_paint 41 = .ok (.istore 8, 2) := by decide +kernel
theorem dW_paint_43 : decode bW_paint 43 = .ok (.iconst 0, 1) := by decide +kernel
theorem dW_paint_44 : decode bW_paint 44 = .ok (.istore 9, 2) := by decide +kernel
theorem dW_paint_46 : decode bW_paint 46 = .ok (.iload 9, 2) := by decide +kernel
theorem dW_paint_48 : decode bW_paint 48 = .ok (.iload 8, 2) := by decide +kernel
theorem dW_paint_50 : decode bW_paint 50 = .ok (.if_icmp .ge (21), 3) := by decide +kernel
theorem dW_paint_53 : decode bW_paint 53 = .ok (.aload_n 0, 1) := by decide +kernel
theorem dW_paint_54 : decode bW_paint 54 = .ok (.getfield 25, 3) := by decide +kernel
theorem dW_paint_57 : decode bW_paint 57 = .ok (.iload 7, 2) := by decide +kernel
theorem dW_paint_59 : decode bW_paint 59 = .ok (.iload 9, 2) := by decide +kernel
theorem dW_paint_61 : decode bW_paint 61 = .ok (.iadd, 1) := by decide +kernel
theorem dW_paint_62 : decode bW_paint 62 = .ok (.iload 4, 2) := by decide +kernel
theorem dW_paint_64 : decode bW_paint 64 = .ok (.iastore, 1) := by decide +kernel
theorem dW_paint_65 : decode bW_paint 65 = .ok (.iinc 9 (1), 3) := by decide +kernel
theorem dW_paint_68 : decode bW_paint 68 = .ok (.goto (-22), 3) := by decide +kernel
theorem dW_paint_71 : decode bW_paint 71 = .ok (.iload 5, 2) := by decide +kernel
theorem dW_paint_73 : decode bW_paint 73 = .ok (.iload 8, 2) := by decide +kernel
theorem dW_paint_75 : decode bW_paint 75 = .ok (.iadd, 1) := by decide +kernel
theorem dW_paint_76 : decode bW_paint 76 = .ok (.istore 5, 2) := by decide +kernel
theorem dW_paint_78 : decode bW_paint 78 = .ok (.iinc 6 (1), 3) := by decide +kernel
theorem dW_paint_81 : decode bW_paint 81 = .ok (.goto (-75), 3) := by decide +kernel
theorem dW_paint_84 : decode bW_paint 84 = .ok (.iload 5, 2) := by decide +kernel
theorem dW_paint_86 : decode bW_paint 86 = .ok (.ireturn, 1) := by decide +kernel
theorem dW_cutRun_0 : decode bW_cutRun 0 = .ok (.iload_n 1, 1) := by decide +kernel
theorem dW_cutRun_1 : decode bW_cutRun 1 = .ok (.invokestatic 139, 3) := by decide +kernel
theorem dW_cutRun_4 : decode bW_cutRun 4 = .ok (.istore_n 3, 1) := by decide +kernel
theorem dW_cutRun_5 : decode bW_cutRun 5 = .ok (.iload_n 1, 1) := by decide +kernel
theorem dW_cutRun_6 : decode bW_cutRun 6 = .ok (.invokestatic 152, 3) := by decide +kernel
theorem dW_cutRun_9 : decode bW_cutRun 9 = .ok (.istore 4, 2) := by decide +kernel
theorem dW_cutRun_11 : decode bW_cutRun 11 = .ok (.iconst (-1), 1) := by decide +kernel
theorem dW_cutRun_12 : decode bW_cutRun 12 = .ok (.istore 5, 2) := by decide +kernel
theorem dW_cutRun_14 : decode bW_cutRun 14 = .ok (.iload_n 1, 1) := by decide +kernel
theorem dW_cutRun_15 : decode bW_cutRun 15 = .ok (.invokestatic 155, 3) := by decide +kernel
theorem dW_cutRun_18 : decode bW_cutRun 18 = .ok (.istore 6, 2) := by decide +kernel
theorem dW_cutRun_20 : decode bW_cutRun 20 = .ok (.iload 6, 2) := by decide +kernel
theorem dW_cutRun_22 : decode bW_cutRun 22 = .ok (.iload 4, 2) := by decide +kernel
theorem dW_cutRun_24 : decode bW_cutRun 24 = .ok (.if_icmp .ge (64), 3) := by decide +kernel
theorem dW_cutRun_27 : decode bW_cutRun 27 = .ok (.aload_n 0, 1) := by decide +kernel
theorem dW_cutRun_28 : decode bW_cutRun 28 = .ok (.getfield 51, 3) := by decide +kernel
theorem dW_cutRun_31 : decode bW_cutRun 31 = .ok (.iload 6, 2) := by decide +kernel
theorem dW_cutRun_33 : decode bW_cutRun 33 = .ok (.iaload, 1) := by decide +kernel
theorem dW_cutRun_34 : decode bW_cutRun 34 = .ok (.iload_n 2, 1) := by decide +kernel
theorem dW_cutRun_35 : decode bW_cutRun 35 = .ok (.invokestatic 158, 3) := by decide +kernel
theorem dW_cutRun_38 : decode bW_cutRun 38 = .ok (.istore 7, 2) := by decide +kernel
theorem dW_cutRun_40 : decode bW_cutRun 40 = .ok (.iload 7, 2) := by decide +kernel
theorem dW_cutRun_42 : decode bW_cutRun 42 = .ok (.ifCond .eq (12), 3) := by decide +kernel
theorem dW_cutRun_45 : decode bW_cutRun 45 = .ok (.iload 5, 2) := by decide +kernel
theorem dW_cutRun_47 : decode bW_cutRun 47 = .ok (.ifCond .ge (7), 3) := by decide +kernel
theorem dW_cutRun_50 : decode bW_cutRun 50 = .ok (.iload 6, 2) := by decide +kernel
theorem dW_cutRun_52 : decode bW_cutRun 52 = .ok (.istore 5, 2) := by decide +kernel
theorem dW_cutRun_54 : decode bW_cutRun 54 = .ok (.iload 7, 2) := by decide +kernel
theorem dW_cutRun_56 : decode bW_cutRun 56 = .ok (.ifCond .ne (26), 3) := by decide +kernel
theorem dW_cutRun_59 : decode bW_cutRun 59 = .ok (.iload 5, 2) := by decide +kernel
theorem dW_cutRun_61 : decode bW_cutRun 61 = .ok (.ifCond .lt (21), 3) := by decide +kernel
theorem dW_cutRun_64 : decode bW_cutRun 64 = .ok (.aload_n 0, 1) := by decide +kernel
theorem dW_cutRun_65 : decode bW_cutRun 65 = .ok (.getfield 59, 3) := by decide +kernel
theorem dW_cutRun_68 : decode bW_cutRun 68 = .ok (.iload_n 3, 1) := by decide +kernel
theorem dW_cutRun_69 : decode bW_cutRun 69 = .ok (.iload 5, 2) := by decide +kernel
theorem dW_cutRun_71 : decode bW_cutRun 71 = .ok (.iload 6, 2) := by decide +kernel
theorem dW_cutRun_73 : decode bW_cutRun 73 = .ok (.invokestatic 161, 3) := by decide +kernel
theorem dW_cutRun_76 : decode bW_cutRun 76 = .ok (.invokevirtual 165, 3) := by decide +kernel
theorem dW_cutRun_79 : decode bW_cutRun 79 = .ok (.iconst (-1), 1) := by decide +kernel
theorem dW_cutRun_80 : decode bW_cutRun 80 = .ok (.istore 5, 2) := by decide +kernel
theorem dW_cutRun_82 : decode bW_cutRun 82 = .ok (.iinc 6 (1), 3) := by decide +kernel
theorem dW_cutRun_85 : decode bW_cutRun 85 = .ok (.goto (-65), 3) := by decide +kernel
theorem dW_cutRun_88 : decode bW_cutRun 88 = .ok (.iload 5, 2) := by decide +kernel
theorem dW_cutRun_90 : decode bW_cutRun 90 = .ok (.ifCond .lt (18), 3) := by decide +kernel
theorem dW_cutRun_93 : decode bW_cutRun 93 = .ok (.aload_n 0, 1) := by decide +kernel
theorem dW_cutRun_94 : decode bW_cutRun 94 = .ok (.getfield 59, 3) := by decide +kernel
theorem dW_cutRun_97 : decode bW_cutRun 97 = .ok (.iload_n 3, 1) := by decide +kernel
theorem dW_cutRun_98 : decode bW_cutRun 98 = .ok (.iload 5, 2) := by decide +kernel
theorem dW_cutRun_100 : decode bW_cutRun 100 = .ok (.iload 4, 2) := by decide +kernel
theorem dW_cutRun_102 : decode bW_cutRun 102 = .ok (.invokestatic 161, 3) := by decide +kernel
theorem dW_cutRun_105 : decode bW_cutRun 105 = .ok (.invokevirtual 165, 3) := by decide +kernel
theorem dW_cutRun_108 : decode bW_cutRun 108 = .ok (.return_, 1) := by decide +kernel
theorem dW_cutClip_0 : decode bW_cutClip 0 = .ok (.aload_n 0, 1) := by decide +kernel
theorem dW_cutClip_1 : decode bW_cutClip 1 = .ok (.getfield 59, 3) := by decide +kernel
theorem dW_cutClip_4 : decode bW_cutClip 4 = .ok (.iconst 0, 1) := by decide +kernel
theorem dW_cutClip_5 : decode bW_cutClip 5 = .ok (.putfield 105, 3) := by decide +kernel
theorem dW_cutClip_8 : decode bW_cutClip 8 = .ok (.iconst (-1), 1) := by decide +kernel
theorem dW_cutClip_9 : decode bW_cutClip 9 = .ok (.istore_n 2, 1) := by decide +kernel
theorem dW_cutClip_10 : decode bW_cutClip 10 = .ok (.iconst 0, 1) := by decide +kernel
theorem dW_cutClip_11 : decode bW_cutClip 11 = .ok (.istore_n 3, 1) := by decide +kernel
theorem dW_cutClip_12 : decode bW_cutClip 12 = .ok (.aload_n 0, 1) := by decide +kernel
theorem dW_cutClip_13 : decode bW_cutClip 13 = .ok (.getfield 47, 3) := by decide +kernel
theorem dW_cutClip_16 : decode bW_cutClip 16 = .ok (.invokevirtual 134, 3) := by decide +kernel
theorem dW_cutClip_19 : decode bW_cutClip 19 = .ok (.istore 4, 2) := by decide +kernel
theorem dW_cutClip_21 : decode bW_cutClip 21 = .ok (.iload 4, 2) := by decide +kernel
theorem dW_cutClip_23 : decode bW_cutClip 23 = .ok (.aload_n 0, 1) := by decide +kernel
theorem dW_cutClip_24 : decode bW_cutClip 24 = .ok (.getfield 47, 3) := by decide +kernel
theorem dW_cutClip_27 : decode bW_cutClip 27 = .ok (.getfield 130, 3) := by decide +kernel
theorem dW_cutClip_30 : decode bW_cutClip 30 = .ok (.if_icmp .ge (60), 3) := by decide +kernel
theorem dW_cutClip_33 : decode bW_cutClip 33 = .ok (.aload_n 0, 1) := by decide +kernel
theorem dW_cutClip_34 : decode bW_cutClip 34 = .ok (.getfield 47, 3) := by decide +kernel
theorem dW_cutClip_37 : decode bW_cutClip 37 = .ok (.getfield 133, 3) := by decide +kernel
theorem dW_cutClip_40 : decode bW_cutClip 40 = .ok (.iload 4, 2) := by decide +kernel
theorem dW_cutClip_42 : decode bW_cutClip 42 = .ok (.iaload, 1) := by decide +kernel
theorem dW_cutClip_43 : decode bW_cutClip 43 = .ok (.istore 5, 2) := by decide +kernel
theorem dW_cutClip_45 : decode bW_cutClip 45 = .ok (.iload 5, 2) := by decide +kernel
theorem dW_cutClip_47 : decode bW_cutClip 47 = .ok (.invokestatic 139, 3) := by decide +kernel
theorem dW_cutClip_50 : decode bW_cutClip 50 = .ok (.iload_n 2, 1) := by decide +kernel
theorem dW_cutClip_51 : decode bW_cutClip 51 = .ok (.if_icmp .eq (22), 3) := by decide +kernel
theorem dW_cutClip_54 : decode bW_cutClip 54 = .ok (.iload 5, 2) := by decide +kernel
theorem dW_cutClip_56 : decode bW_cutClip 56 = .ok (.invokestatic 139, 3) := by decide +kernel
theorem dW_cutClip_59 : decode bW_cutClip 59 = .ok (.istore_n 2, 1) := by decide +kernel
theorem dW_cutClip_60 : decode bW_cutClip 60 = .ok (.aload_n 0, 1) := by decide +kernel
theorem dW_cutClip_61 : decode bW_cutClip 61 = .ok (.getfield 38, 3) := by decide +kernel
theorem dW_cutClip_64 : decode bW_cutClip 64 = .ok (.iload_n 2, 1) := by decide +kernel
theorem dW_cutClip_65 : decode bW_cutClip 65 = .ok (.aload_n 0, 1) := by decide +kernel
theorem dW_cutClip_66 : decode bW_cutClip 66 = .ok (.getfield 51, 3) := by decide +kernel
theorem dW_cutClip_69 : decode bW_cutClip 69 = .ok (.invokevirtual 145, 3) := by decide +kernel
theorem dW_cutClip_72 : decode bW_cutClip 72 = .ok (.istore_n 3, 1) := by decide +kernel
theorem dW_cutClip_73 : decode bW_cutClip 73 = .ok (.iload_n 3, 1) := by decide +kernel
theorem dW_cutClip_74 : decode bW_cutClip 74 = .ok (.ifCond .eq (10), 3) := by decide +kernel
theorem dW_cutClip_77 : decode bW_cutClip 77 = .ok (.aload_n 0, 1) := by decide +kernel
theorem dW_cutClip_78 : decode bW_cutClip 78 = .ok (.iload 5, 2) := by decide +kernel
theorem dW_cutClip_80 : decode bW_cutClip 80 = .ok (.iload_n 1, 1) := by decide +kernel
theorem dW_cutClip_81 : decode bW_cutClip 81 = .ok (.invokevirtual 149, 3) := by decide +kernel
theorem dW_cutClip_84 : decode bW_cutClip 84 = .ok (.iinc 4 (1), 3) := by decide +kernel
theorem dW_cutClip_87 : decode bW_cutClip 87 = .ok (.goto (-66), 3) := by decide +kernel
theorem dW_cutClip_90 : decode bW_cutClip 90 = .ok (.return_, 1) := by decide +kernel
theorem dW_columns_0 : decode bW_columns 0 = .ok (.aload_n 0, 1) := by decide +kernel
theorem dW_columns_1 : decode bW_columns 1 = .ok (.getfield 18, 3) := by decide +kernel
theorem dW_columns_4 : decode bW_columns 4 = .ok (.ireturn, 1) := by decide +kernel
theorem dW_rows_0 : decode bW_rows 0 = .ok (.aload_n 0, 1) := by decide +kernel
theorem dW_rows_1 : decode bW_rows 1 = .ok (.getfield 22, 3) := by decide +kernel
theorem dW_rows_4 : decode bW_rows 4 = .ok (.ireturn, 1) := by decide +kernel
theorem dW_move_0 : decode bW_move 0 = .ok (.iload_n 1, 1) := by decide +kernel
theorem dW_move_1 : decode bW_move 1 = .ok (.invokestatic 63, 3) := by decide +kernel
theorem dW_move_4 : decode bW_move 4 = .ok (.ifCond .eq (10), 3) := by decide +kernel
theorem dW_move_7 : decode bW_move 7 = .ok (.iload_n 2, 1) := by decide +kernel
theorem dW_move_8 : decode bW_move 8 = .ok (.invokestatic 63, 3) := by decide +kernel
theorem dW_move_11 : decode bW_move 11 = .ok (.ifCond .ne (5), 3) := by decide +kernel
theorem dW_move_14 : decode bW_move 14 = .ok (.iconst (-1), 1) := by decide +kernel
theorem dW_move_15 : decode bW_move 15 = .ok (.ireturn, 1) := by decide +kernel
theorem dW_move_16 : decode bW_move 16 = .ok (.aload_n 0, 1) := by decide +kernel
theorem dW_move_17 : decode bW_move 17 = .ok (.getfield 38, 3) := by decide +kernel
theorem dW_move_20 : decode bW_move 20 = .ok (.invokevirtual 67, 3) := by decide +kernel
theorem dW_move_23 : decode bW_move 23 = .ok (.ifCond .eq (6), 3) := by decide +kernel
theorem dW_move_26 : decode bW_move 26 = .ok (.bipush (-3), 2) := by decide +kernel
theorem dW_move_28 : decode bW_move 28 = .ok (.ireturn, 1) := by decide +kernel
theorem dW_move_29 : decode bW_move 29 = .ok (.aload_n 0, 1) := by decide +kernel
theorem dW_move_30 : decode bW_move 30 = .ok (.getfield 38, 3) := by decide +kernel
theorem dW_move_33 : decode bW_move 33 = .ok (.iload_n 1, 1) := by decide +kernel
theorem dW_move_34 : decode bW_move 34 = .ok (.iload_n 2, 1) := by decide +kernel
theorem dW_move_35 : decode bW_move 35 = .ok (.invokevirtual 71, 3) := by decide +kernel
theorem dW_move_38 : decode bW_move 38 = .ok (.aload_n 0, 1) := by decide +kernel
theorem dW_move_39 : decode bW_move 39 = .ok (.getfield 38, 3) := by decide +kernel
theorem dW_move_42 : decode bW_move 42 = .ok (.getfield 74, 3) := by decide +kernel
theorem dW_move_45 : decode bW_move 45 = .ok (.ireturn, 1) := by decide +kernel
theorem dW_line_0 : decode bW_line 0 = .ok (.iload_n 1, 1) := by decide +kernel
theorem dW_line_1 : decode bW_line 1 = .ok (.invokestatic 63, 3) := by decide +kernel
theorem dW_line_4 : decode bW_line 4 = .ok (.ifCond .eq (10), 3) := by decide +kernel
theorem dW_line_7 : decode bW_line 7 = .ok (.iload_n 2, 1) := by decide +kernel
theorem dW_line_8 : decode bW_line 8 = .ok (.invokestatic 63, 3) := by decide +kernel
theorem dW_line_11 : decode bW_line 11 = .ok (.ifCond .ne (5), 3) := by decide +kernel
theorem dW_line_14 : decode bW_line 14 = .ok (.iconst (-1), 1) := by decide +kernel
theorem dW_line_15 : decode bW_line 15 = .ok (.ireturn, 1) := by decide +kernel
theorem dW_line_16 : decode bW_line 16 = .ok (.aload_n 0, 1) := by decide +kernel
theorem dW_line_17 : decode bW_line 17 = .ok (.getfield 38, 3) := by decide +kernel
theorem dW_line_20 : decode bW_line 20 = .ok (.invokevirtual 77, 3) := by decide +kernel
theorem dW_line_23 : decode bW_line 23 = .ok (.ifCond .ne (6), 3) := by decide +kernel
theorem dW_line_26 : decode bW_line 26 = .ok (.bipush (-2), 2) := by decide +kernel
theorem dW_line_28 : decode bW_line 28 = .ok (.ireturn, 1) := by decide +kernel
theorem dW_line_29 : decode bW_line 29 = .ok (.aload_n 0, 1) := by decide +kernel
theorem dW_line_30 : decode bW_line 30 = .ok (.getfield 38, 3) := by decide +kernel
theorem dW_line_33 : decode bW_line 33 = .ok (.invokevirtual 67, 3) := by decide +kernel
theorem dW_line_36 : decode bW_line 36 = .ok (.ifCond .eq (6), 3) := by decide +kernel
theorem dW_line_39 : decode bW_line 39 = .ok (.bipush (-3), 2) := by decide +kernel
theorem dW_line_41 : decode bW_line 41 = .ok (.ireturn, 1) := by decide +kernel
theorem dW_line_42 : decode bW_line 42 = .ok (.aload_n 0, 1) := by decide +kernel
theorem dW_line_43 : decode bW_line 43 = .ok (.getfield 38, 3) := by decide +kernel
theorem dW_line_46 : decode bW_line 46 = .ok (.iload_n 1, 1) := by decide +kernel
theorem dW_line_47 : decode bW_line 47 = .ok (.iload_n 2, 1) := by decide +kernel
theorem dW_line_48 : decode bW_line 48 = .ok (.invokevirtual 80, 3) := by decide +kernel
theorem dW_line_51 : decode bW_line 51 = .ok (.aload_n 0, 1) := by decide +kernel
theorem dW_line_52 : decode bW_line 52 = .ok (.getfield 38, 3) := by decide +kernel
theorem dW_line_55 : decode bW_line 55 = .ok (.getfield 74, 3) := by decide +kernel
theorem dW_line_58 : decode bW_line 58 = .ok (.ireturn, 1) := by decide +kernel
theorem dW_clear_0 : decode bW_clear 0 = .ok (.aload_n 0, 1) := by decide +kernel
theorem dW_clear_1 : decode bW_clear 1 = .ok (.getfield 38, 3) := by decide +kernel
theorem dW_clear_4 : decode bW_clear 4 = .ok (.getfield 74, 3) := by decide +kernel
theorem dW_clear_7 : decode bW_clear 7 = .ok (.istore_n 1, 1) := by decide +kernel
theorem dW_clear_8 : decode bW_clear 8 = .ok (.aload_n 0, 1) := by decide +kernel
theorem dW_clear_9 : decode bW_clear 9 = .ok (.getfield 38, 3) := by decide +kernel
theorem dW_clear_12 : decode bW_clear 12 = .ok (.invokevirtual 83, 3) := by decide +kernel
theorem dW_clear_15 : decode bW_clear 15 = .ok (.iload_n 1, 1) := by decide +kernel
theorem dW_clear_16 : decode bW_clear 16 = .ok (.ireturn, 1) := by decide +kernel
theorem dW_winding_0 : decode bW_winding 0 = .ok (.aload_n 0, 1) := by decide +kernel
theorem dW_winding_1 : decode bW_winding 1 = .ok (.iload_n 1, 1) := by decide +kernel
theorem dW_winding_2 : decode bW_winding 2 = .ok (.iload_n 2, 1) := by decide +kernel
theorem dW_winding_3 : decode bW_winding 3 = .ok (.invokevirtual 86, 3) := by decide +kernel
theorem dW_winding_6 : decode bW_winding 6 = .ok (.ifCond .eq (15), 3) := by decide +kernel
theorem dW_winding_9 : decode bW_winding 9 = .ok (.aload_n 0, 1) := by decide +kernel
theorem dW_winding_10 : decode bW_winding 10 = .ok (.getfield 38, 3) := by decide +kernel
theorem dW_winding_13 : decode bW_winding 13 = .ok (.iload_n 1, 1) := by decide +kernel
theorem dW_winding_14 : decode bW_winding 14 = .ok (.iload_n 2, 1) := by decide +kernel
theorem dW_winding_15 : decode bW_winding 15 = .ok (.invokevirtual 90, 3) := by decide +kernel
theorem dW_winding_18 : decode bW_winding 18 = .ok (.goto (4), 3) := by decide +kernel
theorem dW_winding_21 : decode bW_winding 21 = .ok (.iconst 0, 1) := by decide +kernel
theorem dW_winding_22 : decode bW_winding 22 = .ok (.ireturn, 1) := by decide +kernel
theorem dW_gray_0 : decode bW_gray 0 = .ok (.aload_n 0, 1) := by decide +kernel
theorem dW_gray_1 : decode bW_gray 1 = .ok (.iload_n 1, 1) := by decide +kernel
theorem dW_gray_2 : decode bW_gray 2 = .ok (.iload_n 2, 1) := by decide +kernel
theorem dW_gray_3 : decode bW_gray 3 = .ok (.invokevirtual 86, 3) := by decide +kernel
theorem dW_gray_6 : decode bW_gray 6 = .ok (.ifCond .eq (19), 3) := by decide +kernel
theorem dW_gray_9 : decode bW_gray 9 = .ok (.aload_n 0, 1) := by decide +kernel
theorem dW_gray_10 : decode bW_gray 10 = .ok (.getfield 25, 3) := by decide +kernel
theorem dW_gray_13 : decode bW_gray 13 = .ok (.iload_n 2, 1) := by decide +kernel
theorem dW_gray_14 : decode bW_gray 14 = .ok (.aload_n 0, 1) := by decide +kernel
theorem dW_gray_15 : decode bW_gray 15 = .ok (.getfield 18, 3) := by decide +kernel
theorem dW_gray_18 : decode bW_gray 18 = .ok (.imul, 1) := by decide +kernel
theorem dW_gray_19 : decode bW_gray 19 = .ok (.iload_n 1, 1) := by decide +kernel
theorem dW_gray_20 : decode bW_gray 20 = .ok (.iadd, 1) := by decide +kernel
theorem dW_gray_21 : decode bW_gray 21 = .ok (.iaload, 1) := by decide +kernel
theorem dW_gray_22 : decode bW_gray 22 = .ok (.goto (4), 3) := by decide +kernel
theorem dW_gray_25 : decode bW_gray 25 = .ok (.iconst (-1), 1) := by decide +kernel
theorem dW_gray_26 : decode bW_gray 26 = .ok (.ireturn, 1) := by decide +kernel
theorem dW_open_0 : decode bW_open 0 = .ok (.aload_n 0, 1) := by decide +kernel
theorem dW_open_1 : decode bW_open 1 = .ok (.iload_n 1, 1) := by decide +kernel
theorem dW_open_2 : decode bW_open 2 = .ok (.iload_n 2, 1) := by decide +kernel
theorem dW_open_3 : decode bW_open 3 = .ok (.invokevirtual 86, 3) := by decide +kernel
theorem dW_open_6 : decode bW_open 6 = .ok (.ifCond .ne (5), 3) := by decide +kernel
theorem dW_open_9 : decode bW_open 9 = .ok (.iconst (-1), 1) := by decide +kernel
theorem dW_open_10 : decode bW_open 10 = .ok (.ireturn, 1) := by decide +kernel
theorem dW_open_11 : decode bW_open 11 = .ok (.aload_n 0, 1) := by decide +kernel
theorem dW_open_12 : decode bW_open 12 = .ok (.getfield 47, 3) := by decide +kernel
theorem dW_open_15 : decode bW_open 15 = .ok (.iload_n 1, 1) := by decide +kernel
theorem dW_open_16 : decode bW_open 16 = .ok (.iload_n 2, 1) := by decide +kernel
theorem dW_open_17 : decode bW_open 17 = .ok (.invokevirtual 127, 3) := by decide +kernel
theorem dW_open_20 : decode bW_open 20 = .ok (.ifCond .eq (7), 3) := by decide +kernel
theorem dW_open_23 : decode bW_open 23 = .ok (.iconst 1, 1) := by decide +kernel
theorem dW_open_24 : decode bW_open 24 = .ok (.goto (4), 3) := by decide +kernel
theorem dW_open_27 : decode bW_open 27 = .ok (.iconst 0, 1) := by decide +kernel
theorem dW_open_28 : decode bW_open 28 = .ok (.ireturn, 1) := by decide +kernel
theorem dW_pixels_0 : decode bW_pixels 0 = .ok (.aload_n 0, 1) := by decide +kernel
theorem dW_pixels_1 : decode bW_pixels 1 = .ok (.getfield 47, 3) := by decide +kernel
theorem dW_pixels_4 : decode bW_pixels 4 = .ok (.invokevirtual 114, 3) := by decide +kernel
theorem dW_pixels_7 : decode bW_pixels 7 = .ok (.ireturn, 1) := by decide +kernel
theorem dW_runs_0 : decode bW_runs 0 = .ok (.aload_n 0, 1) := by decide +kernel
theorem dW_runs_1 : decode bW_runs 1 = .ok (.getfield 47, 3) := by decide +kernel
theorem dW_runs_4 : decode bW_runs 4 = .ok (.getfield 130, 3) := by decide +kernel
theorem dW_runs_7 : decode bW_runs 7 = .ok (.ireturn, 1) := by decide +kernel
theorem dW_count_0 : decode bW_count 0 = .ok (.aload_n 0, 1) := by decide +kernel
theorem dW_count_1 : decode bW_count 1 = .ok (.iconst 0, 1) := by decide +kernel
theorem dW_count_2 : decode bW_count 2 = .ok (.iload_n 1, 1) := by decide +kernel
theorem dW_count_3 : decode bW_count 3 = .ok (.invokevirtual 86, 3) := by decide +kernel
theorem dW_count_6 : decode bW_count 6 = .ok (.ifCond .ne (5), 3) := by decide +kernel
theorem dW_count_9 : decode bW_count 9 = .ok (.iconst (-1), 1) := by decide +kernel
theorem dW_count_10 : decode bW_count 10 = .ok (.ireturn, 1) := by decide +kernel
theorem dW_count_11 : decode bW_count 11 = .ok (.iconst 0, 1) := by decide +kernel
theorem dW_count_12 : decode bW_count 12 = .ok (.istore_n 3, 1) := by decide +kernel
theorem dW_count_13 : decode bW_count 13 = .ok (.iconst 0, 1) := by decide +kernel
theorem dW_count_14 : decode bW_count 14 = .ok (.istore 4, 2) := by decide +kernel
theorem dW_count_16 : decode bW_count 16 = .ok (.iload 4, 2) := by decide +kernel
theorem dW_count_18 : decode bW_count 18 = .ok (.aload_n 0, 1) := by decide +kernel
theorem dW_count_19 : decode bW_count 19 = .ok (.getfield 18, 3) := by decide +kernel
theorem dW_count_22 : decode bW_count 22 = .ok (.if_icmp .ge (30), 3) := by decide +kernel
theorem dW_count_25 : decode bW_count 25 = .ok (.aload_n 0, 1) := by decide +kernel
theorem dW_count_26 : decode bW_count 26 = .ok (.getfield 25, 3) := by decide +kernel
theorem dW_count_29 : decode bW_count 29 = .ok (.iload_n 1, 1) := by decide +kernel
theorem dW_count_30 : decode bW_count 30 = .ok (.aload_n 0, 1) := by decide +kernel
theorem dW_count_31 : decode bW_count 31 = .ok (.getfield 18, 3) := by decide +kernel
theorem dW_count_34 : decode bW_count 34 = .ok (.imul, 1) := by decide +kernel
theorem dW_count_35 : decode bW_count 35 = .ok (.iload 4, 2) := by decide +kernel
theorem dW_count_37 : decode bW_count 37 = .ok (.iadd, 1) := by decide +kernel
theorem dW_count_38 : decode bW_count 38 = .ok (.iaload, 1) := by decide +kernel
theorem dW_count_39 : decode bW_count 39 = .ok (.iload_n 2, 1) := by decide +kernel
theorem dW_count_40 : decode bW_count 40 = .ok (.if_icmp .ne (6), 3) := by decide +kernel
theorem dW_count_43 : decode bW_count 43 = .ok (.iinc 3 (1), 3) := by decide +kernel
theorem dW_count_46 : decode bW_count 46 = .ok (.iinc 4 (1), 3) := by decide +kernel
theorem dW_count_49 : decode bW_count 49 = .ok (.goto (-33), 3) := by decide +kernel
theorem dW_count_52 : decode bW_count 52 = .ok (.iload_n 3, 1) := by decide +kernel
theorem dW_count_53 : decode bW_count 53 = .ok (.ireturn, 1) := by decide +kernel
theorem dW_flood_0 : decode bW_flood 0 = .ok (.iload_n 1, 1) := by decide +kernel
theorem dW_flood_1 : decode bW_flood 1 = .ok (.invokestatic 96, 3) := by decide +kernel
theorem dW_flood_4 : decode bW_flood 4 = .ok (.ifCond .ne (5), 3) := by decide +kernel
theorem dW_flood_7 : decode bW_flood 7 = .ok (.iconst (-1), 1) := by decide +kernel
theorem dW_flood_8 : decode bW_flood 8 = .ok (.ireturn, 1) := by decide +kernel
theorem dW_flood_9 : decode bW_flood 9 = .ok (.aload_n 0, 1) := by decide +kernel
theorem dW_flood_10 : decode bW_flood 10 = .ok (.aload_n 0, 1) := by decide +kernel
theorem dW_flood_11 : decode bW_flood 11 = .ok (.getfield 47, 3) := by decide +kernel
theorem dW_flood_14 : decode bW_flood 14 = .ok (.getfield 133, 3) := by decide +kernel
theorem dW_flood_17 : decode bW_flood 17 = .ok (.aload_n 0, 1) := by decide +kernel
theorem dW_flood_18 : decode bW_flood 18 = .ok (.getfield 47, 3) := by decide +kernel
theorem dW_flood_21 : decode bW_flood 21 = .ok (.invokevirtual 134, 3) := by decide +kernel
theorem dW_flood_24 : decode bW_flood 24 = .ok (.aload_n 0, 1) := by decide +kernel
theorem dW_flood_25 : decode bW_flood 25 = .ok (.getfield 47, 3) := by decide +kernel
theorem dW_flood_28 : decode bW_flood 28 = .ok (.getfield 130, 3) := by decide +kernel
theorem dW_flood_31 : decode bW_flood 31 = .ok (.iload_n 1, 1) := by decide +kernel
theorem dW_flood_32 : decode bW_flood 32 = .ok (.invokevirtual 106, 3) := by decide +kernel
theorem dW_flood_35 : decode bW_flood 35 = .ok (.ireturn, 1) := by decide +kernel
theorem dW_fill_0 : decode bW_fill 0 = .ok (.iload_n 1, 1) := by decide +kernel
theorem dW_fill_1 : decode bW_fill 1 = .ok (.invokestatic 93, 3) := by decide +kernel
theorem dW_fill_4 : decode bW_fill 4 = .ok (.ifCond .eq (10), 3) := by decide +kernel
theorem dW_fill_7 : decode bW_fill 7 = .ok (.iload_n 2, 1) := by decide +kernel
theorem dW_fill_8 : decode bW_fill 8 = .ok (.invokestatic 96, 3) := by decide +kernel
theorem dW_fill_11 : decode bW_fill 11 = .ok (.ifCond .ne (5), 3) := by decide +kernel
theorem dW_fill_14 : decode bW_fill 14 = .ok (.iconst (-1), 1) := by decide +kernel
theorem dW_fill_15 : decode bW_fill 15 = .ok (.ireturn, 1) := by decide +kernel
theorem dW_fill_16 : decode bW_fill 16 = .ok (.aload_n 0, 1) := by decide +kernel
theorem dW_fill_17 : decode bW_fill 17 = .ok (.iload_n 1, 1) := by decide +kernel
theorem dW_fill_18 : decode bW_fill 18 = .ok (.invokevirtual 99, 3) := by decide +kernel
theorem dW_fill_21 : decode bW_fill 21 = .ok (.aload_n 0, 1) := by decide +kernel
theorem dW_fill_22 : decode bW_fill 22 = .ok (.aload_n 0, 1) := by decide +kernel
theorem dW_fill_23 : decode bW_fill 23 = .ok (.getfield 59, 3) := by decide +kernel
theorem dW_fill_26 : decode bW_fill 26 = .ok (.getfield 102, 3) := by decide +kernel
theorem dW_fill_29 : decode bW_fill 29 = .ok (.iconst 0, 1) := by decide +kernel
theorem dW_fill_30 : decode bW_fill 30 = .ok (.aload_n 0, 1) := by decide +kernel
theorem dW_fill_31 : decode bW_fill 31 = .ok (.getfield 59, 3) := by decide +kernel
theorem dW_fill_34 : decode bW_fill 34 = .ok (.getfield 105, 3) := by decide +kernel
theorem dW_fill_37 : decode bW_fill 37 = .ok (.iload_n 2, 1) := by decide +kernel
theorem dW_fill_38 : decode bW_fill 38 = .ok (.invokevirtual 106, 3) := by decide +kernel
theorem dW_fill_41 : decode bW_fill 41 = .ok (.ireturn, 1) := by decide +kernel
theorem dW_clip_0 : decode bW_clip 0 = .ok (.iload_n 1, 1) := by decide +kernel
theorem dW_clip_1 : decode bW_clip 1 = .ok (.invokestatic 93, 3) := by decide +kernel
theorem dW_clip_4 : decode bW_clip 4 = .ok (.ifCond .ne (5), 3) := by decide +kernel
theorem dW_clip_7 : decode bW_clip 7 = .ok (.iconst (-1), 1) := by decide +kernel
theorem dW_clip_8 : decode bW_clip 8 = .ok (.ireturn, 1) := by decide +kernel
theorem dW_clip_9 : decode bW_clip 9 = .ok (.aload_n 0, 1) := by decide +kernel
theorem dW_clip_10 : decode bW_clip 10 = .ok (.iload_n 1, 1) := by decide +kernel
theorem dW_clip_11 : decode bW_clip 11 = .ok (.invokevirtual 99, 3) := by decide +kernel
theorem dW_clip_14 : decode bW_clip 14 = .ok (.aload_n 0, 1) := by decide +kernel
theorem dW_clip_15 : decode bW_clip 15 = .ok (.getfield 47, 3) := by decide +kernel
theorem dW_clip_18 : decode bW_clip 18 = .ok (.aload_n 0, 1) := by decide +kernel
theorem dW_clip_19 : decode bW_clip 19 = .ok (.getfield 59, 3) := by decide +kernel
theorem dW_clip_22 : decode bW_clip 22 = .ok (.invokevirtual 110, 3) := by decide +kernel
theorem dW_clip_25 : decode bW_clip 25 = .ok (.ifCond .eq (13), 3) := by decide +kernel
theorem dW_clip_28 : decode bW_clip 28 = .ok (.aload_n 0, 1) := by decide +kernel
theorem dW_clip_29 : decode bW_clip 29 = .ok (.getfield 47, 3) := by decide +kernel
theorem dW_clip_32 : decode bW_clip 32 = .ok (.invokevirtual 114, 3) := by decide +kernel
theorem dW_clip_35 : decode bW_clip 35 = .ok (.goto (5), 3) := by decide +kernel
theorem dW_clip_38 : decode bW_clip 38 = .ok (.bipush (-3), 2) := by decide +kernel
theorem dW_clip_40 : decode bW_clip 40 = .ok (.ireturn, 1) := by decide +kernel
theorem dW_save_0 : decode bW_save 0 = .ok (.aload_n 0, 1) := by decide +kernel
theorem dW_save_1 : decode bW_save 1 = .ok (.getfield 47, 3) := by decide +kernel
theorem dW_save_4 : decode bW_save 4 = .ok (.invokevirtual 118, 3) := by decide +kernel
theorem dW_save_7 : decode bW_save 7 = .ok (.ifCond .eq (13), 3) := by decide +kernel
theorem dW_save_10 : decode bW_save 10 = .ok (.aload_n 0, 1) := by decide +kernel
theorem dW_save_11 : decode bW_save 11 = .ok (.getfield 47, 3) := by decide +kernel
theorem dW_save_14 : decode bW_save 14 = .ok (.getfield 121, 3) := by decide +kernel
theorem dW_save_17 : decode bW_save 17 = .ok (.goto (5), 3) := by decide +kernel
theorem dW_save_20 : decode bW_save 20 = .ok (.bipush (-3), 2) := by decide +kernel
theorem dW_save_22 : decode bW_save 22 = .ok (.ireturn, 1) := by decide +kernel
theorem dW_restore_0 : decode bW_restore 0 = .ok (.aload_n 0, 1) := by decide +kernel
theorem dW_restore_1 : decode bW_restore 1 = .ok (.getfield 47, 3) := by decide +kernel
theorem dW_restore_4 : decode bW_restore 4 = .ok (.invokevirtual 124, 3) := by decide +kernel
theorem dW_restore_7 : decode bW_restore 7 = .ok (.ifCond .eq (13), 3) := by decide +kernel
theorem dW_restore_10 : decode bW_restore 10 = .ok (.aload_n 0, 1) := by decide +kernel
theorem dW_restore_11 : decode bW_restore 11 = .ok (.getfield 47, 3) := by decide +kernel
theorem dW_restore_14 : decode bW_restore 14 = .ok (.getfield 121, 3) := by decide +kernel
theorem dW_restore_17 : decode bW_restore 17 = .ok (.goto (5), 3) := by decide +kernel
theorem dW_restore_20 : decode bW_restore 20 = .ok (.bipush (-2), 2) := by decide +kernel
theorem dW_restore_22 : decode bW_restore 22 = .ok (.ireturn, 1) := by decide +kernel
theorem dO_init_0 : decode bO_init 0 = .ok (.aload_n 0, 1) := by decide +kernel
theorem dO_init_1 : decode bO_init 1 = .ok (.invokespecial 3, 3) := by decide +kernel
theorem dO_init_4 : decode bO_init 4 = .ok (.aload_n 0, 1) := by decide +kernel
theorem dO_init_5 : decode bO_init 5 = .ok (.sipush (4096), 3) := by decide +kernel
theorem dO_init_8 : decode bO_init 8 = .ok (.newarray .int, 2) := by decide +kernel
theorem dO_init_10 : decode bO_init 10 = .ok (.putfield 9, 3) := by decide +kernel
theorem dO_init_13 : decode bO_init 13 = .ok (.aload_n 0, 1) := by decide +kernel
theorem dO_init_14 : decode bO_init 14 = .ok (.sipush (4096), 3) := by decide +kernel
theorem dO_init_17 : decode bO_init 17 = .ok (.newarray .int, 2) := by decide +kernel
theorem dO_init_19 : decode bO_init 19 = .ok (.putfield 15, 3) := by decide +kernel
theorem dO_init_22 : decode bO_init 22 = .ok (.aload_n 0, 1) := by decide +kernel
theorem dO_init_23 : decode bO_init 23 = .ok (.sipush (4096), 3) := by decide +kernel
theorem dO_init_26 : decode bO_init 26 = .ok (.newarray .int, 2) := by decide +kernel
theorem dO_init_28 : decode bO_init 28 = .ok (.putfield 18, 3) := by decide +kernel
theorem dO_init_31 : decode bO_init 31 = .ok (.return_, 1) := by decide +kernel
theorem dW_init_0 : decode bW_init 0 = .ok (.aload_n 0, 1) := by decide +kernel
theorem dW_init_1 : decode bW_init 1 = .ok (.invokespecial 1, 3) := by decide +kernel
theorem dW_init_4 : decode bW_init 4 = .ok (.aload_n 0, 1) := by decide +kernel
theorem dW_init_5 : decode bW_init 5 = .ok (.iconst 1, 1) := by decide +kernel
theorem dW_init_6 : decode bW_init 6 = .ok (.sipush (256), 3) := by decide +kernel
theorem dW_init_9 : decode bW_init 9 = .ok (.iload_n 1, 1) := by decide +kernel
theorem dW_init_10 : decode bW_init 10 = .ok (.invokestatic 9, 3) := by decide +kernel
theorem dW_init_13 : decode bW_init 13 = .ok (.invokestatic 15, 3) := by decide +kernel
theorem dW_init_16 : decode bW_init 16 = .ok (.putfield 18, 3) := by decide +kernel
theorem dW_init_19 : decode bW_init 19 = .ok (.aload_n 0, 1) := by decide +kernel
theorem dW_init_20 : decode bW_init 20 = .ok (.iconst 1, 1) := by decide +kernel
theorem dW_init_21 : decode bW_init 21 = .ok (.sipush (256), 3) := by decide +kernel
theorem dW_init_24 : decode bW_init 24 = .ok (.iload_n 2, 1) := by decide +kernel
theorem dW_init_25 : decode bW_init 25 = .ok (.invokestatic 9, 3) := by decide +kernel
theorem dW_init_28 : decode bW_init 28 = .ok (.invokestatic 15, 3) := by decide +kernel
theorem dW_init_31 : decode bW_init 31 = .ok (.putfield 22, 3) := by decide +kernel
theorem dW_init_34 : decode bW_init 34 = .ok (.aload_n 0, 1) := by decide +kernel
theorem dW_init_35 : decode bW_init 35 = .ok (.aload_n 0, 1) := by decide +kernel
theorem dW_init_36 : decode bW_init 36 = .ok (.getfield 18, 3) := by decide +kernel
theorem dW_init_39 : decode bW_init 39 = .ok (.aload_n 0, 1) := by decide +kernel
theorem dW_init_40 : decode bW_init 40 = .ok (.getfield 22, 3) := by decide +kernel
theorem dW_init_43 : decode bW_init 43 = .ok (.imul, 1) := by decide +kernel
theorem dW_init_44 : decode bW_init 44 = .ok (.newarray .int, 2) := by decide +kernel
theorem dW_init_46 : decode bW_init 46 = .ok (.putfield 25, 3) := by decide +kernel
theorem dW_init_49 : decode bW_init 49 = .ok (.aload_n 0, 1) := by decide +kernel
theorem dW_init_50 : decode bW_init 50 = .ok (.getfield 25, 3) := by decide +kernel
theorem dW_init_53 : decode bW_init 53 = .ok (.sipush (255), 3) := by decide +kernel
theorem dW_init_56 : decode bW_init 56 = .ok (.invokestatic 29, 3) := by decide +kernel
theorem dW_init_59 : decode bW_init 59 = .ok (.aload_n 0, 1) := by decide +kernel
theorem dW_init_60 : decode bW_init 60 = .ok (.new 35, 3) := by decide +kernel
theorem dW_init_63 : decode bW_init 63 = .ok (.dup, 1) := by decide +kernel
theorem dW_init_64 : decode bW_init 64 = .ok (.invokespecial 37, 3) := by decide +kernel
theorem dW_init_67 : decode bW_init 67 = .ok (.putfield 38, 3) := by decide +kernel
theorem dW_init_70 : decode bW_init 70 = .ok (.aload_n 0, 1) := by decide +kernel
theorem dW_init_71 : decode bW_init 71 = .ok (.new 42, 3) := by decide +kernel
theorem dW_init_74 : decode bW_init 74 = .ok (.dup, 1) := by decide +kernel
theorem dW_init_75 : decode bW_init 75 = .ok (.aload_n 0, 1) := by decide +kernel
theorem dW_init_76 : decode bW_init 76 = .ok (.getfield 18, 3) := by decide +kernel
theorem dW_init_79 : decode bW_init 79 = .ok (.aload_n 0, 1) := by decide +kernel
theorem dW_init_80 : decode bW_init 80 = .ok (.getfield 22, 3) := by decide +kernel
theorem dW_init_83 : decode bW_init 83 = .ok (.invokespecial 44, 3) := by decide +kernel
theorem dW_init_86 : decode bW_init 86 = .ok (.putfield 47, 3) := by decide +kernel
theorem dW_init_89 : decode bW_init 89 = .ok (.aload_n 0, 1) := by decide +kernel
theorem dW_init_90 : decode bW_init 90 = .ok (.aload_n 0, 1) := by decide +kernel
theorem dW_init_91 : decode bW_init 91 = .ok (.getfield 18, 3) := by decide +kernel
theorem dW_init_94 : decode bW_init 94 = .ok (.newarray .int, 2) := by decide +kernel
theorem dW_init_96 : decode bW_init 96 = .ok (.putfield 51, 3) := by decide +kernel
theorem dW_init_99 : decode bW_init 99 = .ok (.aload_n 0, 1) := by decide +kernel
theorem dW_init_100 : decode bW_init 100 = .ok (.new 54, 3) := by decide +kernel
theorem dW_init_103 : decode bW_init 103 = .ok (.dup, 1) := by decide +kernel
theorem dW_init_104 : decode bW_init 104 = .ok (.aload_n 0, 1) := by decide +kernel
theorem dW_init_105 : decode bW_init 105 = .ok (.getfield 18, 3) := by decide +kernel
theorem dW_init_108 : decode bW_init 108 = .ok (.iconst 1, 1) := by decide +kernel
theorem dW_init_109 : decode bW_init 109 = .ok (.iadd, 1) := by decide +kernel
theorem dW_init_110 : decode bW_init 110 = .ok (.iconst 2, 1) := by decide +kernel
theorem dW_init_111 : decode bW_init 111 = .ok (.idiv, 1) := by decide +kernel
theorem dW_init_112 : decode bW_init 112 = .ok (.aload_n 0, 1) := by decide +kernel
theorem dW_init_113 : decode bW_init 113 = .ok (.getfield 22, 3) := by decide +kernel
theorem dW_init_116 : decode bW_init 116 = .ok (.imul, 1) := by decide +kernel
theorem dW_init_117 : decode bW_init 117 = .ok (.invokespecial 56, 3) := by decide +kernel
theorem dW_init_120 : decode bW_init 120 = .ok (.putfield 59, 3) := by decide +kernel
theorem dW_init_123 : decode bW_init 123 = .ok (.return_, 1) := by decide +kernel
end
section
def rm_c_of : Room := { frames := 0, cells := 0, slots := 0, locals := 0 }
set_option maxHeartbeats 4000000 in
set_option maxRecDepth 100000 in
theorem c_of (l : Launch) (D : va_G) (cA cB cS : ClassId) (rr : Nat) (fm : Nat) (ed : Nat) (h1 : rr < 4096) (h2 : fm < 512) (h3 : ed < 512) : Met l yR_of wR_of rm_c_of (pR [.int (iI (rr : Int)), .int (iI (fm : Int)), .int (iI (ed : Int))] D vwCl (vwTy cA cB cS) vwNw []) (qI (fun z => z = ((rr * 262144 + fm * 512 + ed : Nat) : Int))) 0 0 (fun _ => False) := by
  refine Met.ofW (cc := bR_of) (maxL := 3) (ret := (some .int)) (by decide +kernel) rfl ?_
  intro p e s m args below meth c s₁ B hml hv
  obtain ⟨rfl, hP, hKW⟩ := hv
  have hK := hKW.1
  have hN := hKW.2.2
  have hx := B.exec
  have hb := B.bytes
  have hr := B.returns
  have hts := atoms_spec (ws := wR_of) B.pre
  have hown : s.vm.findClass "WindingRaster$Run" = some m.cls := findClass_of_methodNamed B.named
  have hlocks := B.notSynchronized
  have hP : va_P D vwCl [] s.heap := hP
  have hl := lv_entry ([.int (iI (rr : Int)), .int (iI (fm : Int)), .int (iI (ed : Int))]) (n := 3) (Nat.le_of_ble_eq_true rfl)
  rw [lg_entry_eq]
  generalize (lg_sl ([.int (iI (rr : Int)), .int (iI (fm : Int)), .int (iI (ed : Int))]) ++ List.replicate (3 - (lg_sl ([.int (iI (rr : Int)), .int (iI (fm : Int)), .int (iI (ed : Int))])).length) Slot.unset).toArray = ls at hl ⊢
  have hl : lv_has ls 3 [(0, .int (iI (rr : Int))), (1, .int (iI (fm : Int))), (2, .int (iI (ed : Int)))] := hl
  generalize hQ : MQ below (qI (fun z => z = ((rr * 262144 + fm * 512 + ed : Nat) : Int))) [.int (iI (rr : Int)), .int (iI (fm : Int)), .int (iI (ed : Int))].toArray s 0 0 (fun _ => False) = QQ
  refine lv_iload_n hx hb dR_of_0 rfl (lv_at hl 0 rfl) ?_
  refine ii_bipush (n := 9) hx hb dR_of_1 (by decide +kernel) ?_
  refine ii_ishl (z := (rr : Int) * 512) hx hb dR_of_3 (iI_shl9 _) ?_
  refine lv_iload_n hx hb dR_of_4 rfl (lv_at hl 1 rfl) ?_
  refine ii_ior (z := (rr : Int) * 512 + (fm : Int)) hx hb dR_of_5 (iI_or9 (by omega) (by omega) (by omega)) ?_
  refine ii_bipush (n := 9) hx hb dR_of_6 (by decide +kernel) ?_
  refine ii_ishl (z := ((rr : Int) * 512 + (fm : Int)) * 512) hx hb dR_of_8 (iI_shl9 _) ?_
  refine lv_iload_n hx hb dR_of_9 rfl (lv_at hl 2 rfl) ?_
  refine ii_ior (z := ((rr : Int) * 512 + (fm : Int)) * 512 + (ed : Int)) hx hb dR_of_10 (iI_or9 (by omega) (by omega) (by omega)) ?_
  rw [← hQ]
  exact rd_iret hx hb hr hlocks (by omega) dR_of_11

def rm_c_rowOf : Room := { frames := 0, cells := 0, slots := 0, locals := 0 }
set_option maxHeartbeats 4000000 in
set_option maxRecDepth 100000 in
theorem c_rowOf (l : Launch) (D : va_G) (cA cB cS : ClassId) (rn : Nat) (h1 : rn < 2147483648) : Met l yR_rowOf wR_rowOf rm_c_rowOf (pR [.int (iI (rn : Int))] D vwCl (vwTy cA cB cS) vwNw []) (qI (fun z => z = ((rn / 262144 : Nat) : Int))) 0 0 (fun _ => False) := by
  refine Met.ofW (cc := bR_rowOf) (maxL := 1) (ret := (some .int)) (by decide +kernel) rfl ?_
  intro p e s m args below meth c s₁ B hml hv
  obtain ⟨rfl, hP, hKW⟩ := hv
  have hK := hKW.1
  have hN := hKW.2.2
  have hx := B.exec
  have hb := B.bytes
  have hr := B.returns
  have hts := atoms_spec (ws := wR_rowOf) B.pre
  have hown : s.vm.findClass "WindingRaster$Run" = some m.cls := findClass_of_methodNamed B.named
  have hlocks := B.notSynchronized
  have hP : va_P D vwCl [] s.heap := hP
  have hl := lv_entry ([.int (iI (rn : Int))]) (n := 1) (Nat.le_of_ble_eq_true rfl)
  rw [lg_entry_eq]
  generalize (lg_sl ([.int (iI (rn : Int))]) ++ List.replicate (1 - (lg_sl ([.int (iI (rn : Int))])).length) Slot.unset).toArray = ls at hl ⊢
  have hl : lv_has ls 1 [(0, .int (iI (rn : Int)))] := hl
  generalize hQ : MQ below (qI (fun z => z = ((rn / 262144 : Nat) : Int))) [.int (iI (rn : Int))].toArray s 0 0 (fun _ => False) = QQ
  refine lv_iload_n hx hb dR_rowOf_0 rfl (lv_at hl 0 rfl) ?_
  refine ii_bipush (n := 18) hx hb dR_rowOf_1 (by decide +kernel) ?_
  refine ii_ishr (z := (rn : Int) / 262144) hx hb dR_rowOf_3 (iI_shr18 (by omega)) ?_
  rw [← hQ]
  exact rd_iret hx hb hr hlocks (by omega) dR_rowOf_4

def rm_c_fromOf : Room := { frames := 0, cells := 0, slots := 0, locals := 0 }
set_option maxHeartbeats 4000000 in
set_option maxRecDepth 100000 in
theorem c_fromOf (l : Launch) (D : va_G) (cA cB cS : ClassId) (rn : Nat) (h1 : rn < 2147483648) : Met l yR_fromOf wR_fromOf rm_c_fromOf (pR [.int (iI (rn : Int))] D vwCl (vwTy cA cB cS) vwNw []) (qI (fun z => z = ((rn / 512 % 512 : Nat) : Int))) 0 0 (fun _ => False) := by
  refine Met.ofW (cc := bR_fromOf) (maxL := 1) (ret := (some .int)) (by decide +kernel) rfl ?_
  intro p e s m args below meth c s₁ B hml hv
  obtain ⟨rfl, hP, hKW⟩ := hv
  have hK := hKW.1
  have hN := hKW.2.2
  have hx := B.exec
  have hb := B.bytes
  have hr := B.returns
  have hts := atoms_spec (ws := wR_fromOf) B.pre
  have hown : s.vm.findClass "WindingRaster$Run" = some m.cls := findClass_of_methodNamed B.named
  have hlocks := B.notSynchronized
  have hP : va_P D vwCl [] s.heap := hP
  have hl := lv_entry ([.int (iI (rn : Int))]) (n := 1) (Nat.le_of_ble_eq_true rfl)
  rw [lg_entry_eq]
  generalize (lg_sl ([.int (iI (rn : Int))]) ++ List.replicate (1 - (lg_sl ([.int (iI (rn : Int))])).length) Slot.unset).toArray = ls at hl ⊢
  have hl : lv_has ls 1 [(0, .int (iI (rn : Int)))] := hl
  generalize hQ : MQ below (qI (fun z => z = ((rn / 512 % 512 : Nat) : Int))) [.int (iI (rn : Int))].toArray s 0 0 (fun _ => False) = QQ
  refine lv_iload_n hx hb dR_fromOf_0 rfl (lv_at hl 0 rfl) ?_
  refine ii_bipush (n := 9) hx hb dR_fromOf_1 (by decide +kernel) ?_
  refine ii_ishr (z := (rn : Int) / 512) hx hb dR_fromOf_3 (iI_shr9 (by omega)) ?_
  refine ii_sipush (n := 511) hx hb dR_fromOf_4 (by decide +kernel) ?_
  refine ii_iand (z := ((rn : Int) / 512) % 512) hx hb dR_fromOf_7 (iI_and511 _) ?_
  rw [← hQ]
  exact rd_iret hx hb hr hlocks (by omega) dR_fromOf_8

def rm_c_endOf : Room := { frames := 0, cells := 0, slots := 0, locals := 0 }
set_option maxHeartbeats 4000000 in
set_option maxRecDepth 100000 in
theorem c_endOf (l : Launch) (D : va_G) (cA cB cS : ClassId) (rn : Nat) (h1 : rn < 2147483648) : Met l yR_endOf wR_endOf rm_c_endOf (pR [.int (iI (rn : Int))] D vwCl (vwTy cA cB cS) vwNw []) (qI (fun z => z = ((rn % 512 : Nat) : Int))) 0 0 (fun _ => False) := by
  refine Met.ofW (cc := bR_endOf) (maxL := 1) (ret := (some .int)) (by decide +kernel) rfl ?_
  intro p e s m args below meth c s₁ B hml hv
  obtain ⟨rfl, hP, hKW⟩ := hv
  have hK := hKW.1
  have hN := hKW.2.2
  have hx := B.exec
  have hb := B.bytes
  have hr := B.returns
  have hts := atoms_spec (ws := wR_endOf) B.pre
  have hown : s.vm.findClass "WindingRaster$Run" = some m.cls := findClass_of_methodNamed B.named
  have hlocks := B.notSynchronized
  have hP : va_P D vwCl [] s.heap := hP
  have hl := lv_entry ([.int (iI (rn : Int))]) (n := 1) (Nat.le_of_ble_eq_true rfl)
  rw [lg_entry_eq]
  generalize (lg_sl ([.int (iI (rn : Int))]) ++ List.replicate (1 - (lg_sl ([.int (iI (rn : Int))])).length) Slot.unset).toArray = ls at hl ⊢
  have hl : lv_has ls 1 [(0, .int (iI (rn : Int)))] := hl
  generalize hQ : MQ below (qI (fun z => z = ((rn % 512 : Nat) : Int))) [.int (iI (rn : Int))].toArray s 0 0 (fun _ => False) = QQ
  refine lv_iload_n hx hb dR_endOf_0 rfl (lv_at hl 0 rfl) ?_
  refine ii_sipush (n := 511) hx hb dR_endOf_1 (by decide +kernel) ?_
  refine ii_iand (z := (rn : Int) % 512) hx hb dR_endOf_4 (iI_and511 _) ?_
  rw [← hQ]
  exact rd_iret hx hb hr hlocks (by omega) dR_endOf_5

def rm_c_lengthOf : Room := { frames := 1, cells := 0, slots := 0, locals := 20 }
set_option maxHeartbeats 4000000 in
set_option maxRecDepth 100000 in
theorem c_lengthOf (l : Launch) (D : va_G) (cA cB cS : ClassId) (rn : Nat) (h1 : rn < 2147483648) (h2 : rn / 512 % 512 ≤ rn % 512) : Met l yR_lengthOf wR_lengthOf rm_c_lengthOf (pR [.int (iI (rn : Int))] D vwCl (vwTy cA cB cS) vwNw []) (qI (fun z => z = ((rn % 512 - rn / 512 % 512 : Nat) : Int))) 0 0 (fun _ => False) := by
  refine Met.ofW (cc := bR_lengthOf) (maxL := 1) (ret := (some .int)) (by decide +kernel) rfl ?_
  intro p e s m args below meth c s₁ B hml hv
  obtain ⟨rfl, hP, hKW⟩ := hv
  have hK := hKW.1
  have hN := hKW.2.2
  have hx := B.exec
  have hb := B.bytes
  have hr := B.returns
  have hts := atoms_spec (ws := wR_lengthOf) B.pre
  have hown : s.vm.findClass "WindingRaster$Run" = some m.cls := findClass_of_methodNamed B.named
  have hlocks := B.notSynchronized
  have hP : va_P D vwCl [] s.heap := hP
  have hl := lv_entry ([.int (iI (rn : Int))]) (n := 1) (Nat.le_of_ble_eq_true rfl)
  rw [lg_entry_eq]
  generalize (lg_sl ([.int (iI (rn : Int))]) ++ List.replicate (1 - (lg_sl ([.int (iI (rn : Int))])).length) Slot.unset).toArray = ls at hl ⊢
  have hl : lv_has ls 1 [(0, .int (iI (rn : Int)))] := hl
  generalize hQ : MQ below (qI (fun z => z = ((rn % 512 - rn / 512 % 512 : Nat) : Int))) [.int (iI (rn : Int))].toArray s 0 0 (fun _ => False) = QQ
  refine lv_iload_n hx hb dR_lengthOf_0 rfl (lv_at hl 0 rfl) ?_
  refine cs_i (va_runS (As := [.int (iI (rn : Int))]) (rest := []) ⟨hx, hb, hml, hown, hts⟩ (c_endOf l D cA cB cS rn (by omega)) ⟨(callB_of 1 hts (gIn vm_171) rfl rfl rfl (hts _ (List.mem_cons_of_mem _ vm_6)) (hts _ (List.mem_cons_of_mem _ vm_184)) (by decide +kernel) ⟨Nat.le_of_ble_eq_true rfl, Nat.le_of_ble_eq_true rfl⟩), (hts _ (List.mem_cons_of_mem _ vm_170))⟩ (pR.pre (hP.sub [] rfl) hKW) rfl rfl hl.1 rfl (lv_room (Nat.le_of_ble_eq_true rfl)) dR_lengthOf_1 ⟨Nat.le_of_ble_eq_true rfl, Nat.le_of_ble_eq_true rfl⟩) (fun z_1 hz_1 => ?_)
  subst hz_1
  refine lv_iload_n hx hb dR_lengthOf_4 rfl (lv_at hl 0 rfl) ?_
  refine cs_i (va_runS (As := [.int (iI (rn : Int))]) (rest := [.int (iI ((rn % 512 : Nat) : Int))]) ⟨hx, hb, hml, hown, hts⟩ (c_fromOf l D cA cB cS rn (by omega)) ⟨(callB_of 1 hts (gIn vm_173) rfl rfl rfl (hts _ (List.mem_cons_of_mem _ vm_6)) (hts _ (List.mem_cons_of_mem _ vm_185)) (by decide +kernel) ⟨Nat.le_of_ble_eq_true rfl, Nat.le_of_ble_eq_true rfl⟩), (hts _ (List.mem_cons_of_mem _ vm_172))⟩ (pR.pre (hP.sub [] rfl) hKW) rfl rfl hl.1 rfl (lv_room (Nat.le_of_ble_eq_true rfl)) dR_lengthOf_5 ⟨Nat.le_of_ble_eq_true rfl, Nat.le_of_ble_eq_true rfl⟩) (fun z_2 hz_2 => ?_)
  subst hz_2
  refine ii_isub hx hb dR_lengthOf_8 ?_
  rw [← hQ]
  exact rd_iret hx hb hr hlocks (by omega) dR_lengthOf_9

def rm_c_isPlace : Room := { frames := 0, cells := 0, slots := 0, locals := 0 }
set_option maxHeartbeats 4000000 in
set_option maxRecDepth 100000 in
theorem c_isPlace (l : Launch) (D : va_G) (cA cB cS : ClassId) (a1 : Int) (h1 : i32 a1) : Met l yW_isPlace wW_isPlace rm_c_isPlace (pR [.int (iI a1)] D vwCl (vwTy cA cB cS) vwNw []) (qI (fun z => (z = 1 ∧ (-536870912 ≤ a1 ∧ a1 ≤ 536870912)) ∨ (z = 0 ∧ ¬ (-536870912 ≤ a1 ∧ a1 ≤ 536870912)))) 0 0 (fun _ => False) := by
  refine Met.ofW (cc := bW_isPlace) (maxL := 1) (ret := (some .boolean)) (by decide +kernel) rfl ?_
  intro p e s m args below meth c s₁ B hml hv
  obtain ⟨rfl, hP, hKW⟩ := hv
  have hK := hKW.1
  have hN := hKW.2.2
  have hx := B.exec
  have hb := B.bytes
  have hr := B.returns
  have hts := atoms_spec (ws := wW_isPlace) B.pre
  have hown : s.vm.findClass "WindingRaster" = some m.cls := findClass_of_methodNamed B.named
  have hlocks := B.notSynchronized
  have hP : va_P D vwCl [] s.heap := hP
  have kc_137 := (hts _ (List.mem_cons_of_mem _ vm_98))
  have kc_138 := (hts _ (List.mem_cons_of_mem _ vm_99))
  have hl := lv_entry ([.int (iI a1)]) (n := 1) (Nat.le_of_ble_eq_true rfl)
  rw [lg_entry_eq]
  generalize (lg_sl ([.int (iI a1)]) ++ List.replicate (1 - (lg_sl ([.int (iI a1)])).length) Slot.unset).toArray = ls at hl ⊢
  have hl : lv_has ls 1 [(0, .int (iI a1))] := hl
  generalize hQ : MQ below (qI (fun z => (z = 1 ∧ (-536870912 ≤ a1 ∧ a1 ≤ 536870912)) ∨ (z = 0 ∧ ¬ (-536870912 ≤ a1 ∧ a1 ≤ 536870912)))) [.int (iI a1)].toArray s 0 0 (fun _ => False) = QQ
  refine lv_iload_n hx hb dW_isPlace_0 rfl (lv_at hl 0 rfl) ?_
  refine ii_ldc (n := (-536870912)) hx hb hown kc_137 dW_isPlace_1 (by decide +kernel) ?_
  refine ii_icmp_lt (tgt := 16) hx hb dW_isPlace_3 (by decide) (by omega) (by omega) (fun c3 => ?_) (fun c3 => ?_)
  · refine ii_iconst (n := 0) hx hb dW_isPlace_16 ?_
    rw [← hQ]
    exact rd_zret hx hb hr hlocks (nar_b (by omega)) (by omega) dW_isPlace_17
  · refine lv_iload_n hx hb dW_isPlace_6 rfl (lv_at hl 0 rfl) ?_
    refine ii_ldc (n := 536870912) hx hb hown kc_138 dW_isPlace_7 (by decide +kernel) ?_
    refine ii_icmp_gt (tgt := 16) hx hb dW_isPlace_9 (by decide) (by omega) (by omega) (fun c9 => ?_) (fun c9 => ?_)
    · refine ii_iconst (n := 0) hx hb dW_isPlace_16 ?_
      rw [← hQ]
      exact rd_zret hx hb hr hlocks (nar_b (by omega)) (by omega) dW_isPlace_17
    · refine ii_iconst (n := 1) hx hb dW_isPlace_12 ?_
      refine lv_goto (tgt := 17) hx hb dW_isPlace_13 (by decide) ?_
      rw [← hQ]
      exact rd_zret hx hb hr hlocks (nar_b (by omega)) (by omega) dW_isPlace_17

def rm_c_isRule : Room := { frames := 0, cells := 0, slots := 0, locals := 0 }
set_option maxHeartbeats 4000000 in
set_option maxRecDepth 100000 in
theorem c_isRule (l : Launch) (D : va_G) (cA cB cS : ClassId) (a1 : Int) (h1 : i32 a1) : Met l yW_isRule wW_isRule rm_c_isRule (pR [.int (iI a1)] D vwCl (vwTy cA cB cS) vwNw []) (qI (fun z => (z = 1 ∧ (a1 = 0 ∨ a1 = 1)) ∨ (z = 0 ∧ ¬ (a1 = 0 ∨ a1 = 1)))) 0 0 (fun _ => False) := by
  refine Met.ofW (cc := bW_isRule) (maxL := 1) (ret := (some .boolean)) (by decide +kernel) rfl ?_
  intro p e s m args below meth c s₁ B hml hv
  obtain ⟨rfl, hP, hKW⟩ := hv
  have hK := hKW.1
  have hN := hKW.2.2
  have hx := B.exec
  have hb := B.bytes
  have hr := B.returns
  have hts := atoms_spec (ws := wW_isRule) B.pre
  have hown : s.vm.findClass "WindingRaster" = some m.cls := findClass_of_methodNamed B.named
  have hlocks := B.notSynchronized
  have hP : va_P D vwCl [] s.heap := hP
  have hl := lv_entry ([.int (iI a1)]) (n := 1) (Nat.le_of_ble_eq_true rfl)
  rw [lg_entry_eq]
  generalize (lg_sl ([.int (iI a1)]) ++ List.replicate (1 - (lg_sl ([.int (iI a1)])).length) Slot.unset).toArray = ls at hl ⊢
  have hl : lv_has ls 1 [(0, .int (iI a1))] := hl
  generalize hQ : MQ below (qI (fun z => (z = 1 ∧ (a1 = 0 ∨ a1 = 1)) ∨ (z = 0 ∧ ¬ (a1 = 0 ∨ a1 = 1)))) [.int (iI a1)].toArray s 0 0 (fun _ => False) = QQ
  refine lv_iload_n hx hb dW_isRule_0 rfl (lv_at hl 0 rfl) ?_
  refine ii_if_eq (tgt := 9) hx hb dW_isRule_1 (by decide) (by omega) (fun c1 => ?_) (fun c1 => ?_)
  · refine ii_iconst (n := 1) hx hb dW_isRule_9 ?_
    refine lv_goto (tgt := 14) hx hb dW_isRule_10 (by decide) ?_
    rw [← hQ]
    exact rd_zret hx hb hr hlocks (nar_b (by omega)) (by omega) dW_isRule_14
  · refine lv_iload_n hx hb dW_isRule_4 rfl (lv_at hl 0 rfl) ?_
    refine ii_iconst (n := 1) hx hb dW_isRule_5 ?_
    refine ii_icmp_ne (tgt := 13) hx hb dW_isRule_6 (by decide) (by omega) (by omega) (fun c6 => ?_) (fun c6 => ?_)
    · refine ii_iconst (n := 0) hx hb dW_isRule_13 ?_
      rw [← hQ]
      exact rd_zret hx hb hr hlocks (nar_b (by omega)) (by omega) dW_isRule_14
    · refine ii_iconst (n := 1) hx hb dW_isRule_9 ?_
      refine lv_goto (tgt := 14) hx hb dW_isRule_10 (by decide) ?_
      rw [← hQ]
      exact rd_zret hx hb hr hlocks (nar_b (by omega)) (by omega) dW_isRule_14

def rm_c_isGray : Room := { frames := 0, cells := 0, slots := 0, locals := 0 }
set_option maxHeartbeats 4000000 in
set_option maxRecDepth 100000 in
theorem c_isGray (l : Launch) (D : va_G) (cA cB cS : ClassId) (a1 : Int) (h1 : i32 a1) : Met l yW_isGray wW_isGray rm_c_isGray (pR [.int (iI a1)] D vwCl (vwTy cA cB cS) vwNw []) (qI (fun z => (z = 1 ∧ (0 ≤ a1 ∧ a1 ≤ 255)) ∨ (z = 0 ∧ ¬ (0 ≤ a1 ∧ a1 ≤ 255)))) 0 0 (fun _ => False) := by
  refine Met.ofW (cc := bW_isGray) (maxL := 1) (ret := (some .boolean)) (by decide +kernel) rfl ?_
  intro p e s m args below meth c s₁ B hml hv
  obtain ⟨rfl, hP, hKW⟩ := hv
  have hK := hKW.1
  have hN := hKW.2.2
  have hx := B.exec
  have hb := B.bytes
  have hr := B.returns
  have hts := atoms_spec (ws := wW_isGray) B.pre
  have hown : s.vm.findClass "WindingRaster" = some m.cls := findClass_of_methodNamed B.named
  have hlocks := B.notSynchronized
  have hP : va_P D vwCl [] s.heap := hP
  have hl := lv_entry ([.int (iI a1)]) (n := 1) (Nat.le_of_ble_eq_true rfl)
  rw [lg_entry_eq]
  generalize (lg_sl ([.int (iI a1)]) ++ List.replicate (1 - (lg_sl ([.int (iI a1)])).length) Slot.unset).toArray = ls at hl ⊢
  have hl : lv_has ls 1 [(0, .int (iI a1))] := hl
  generalize hQ : MQ below (qI (fun z => (z = 1 ∧ (0 ≤ a1 ∧ a1 ≤ 255)) ∨ (z = 0 ∧ ¬ (0 ≤ a1 ∧ a1 ≤ 255)))) [.int (iI a1)].toArray s 0 0 (fun _ => False) = QQ
  refine lv_iload_n hx hb dW_isGray_0 rfl (lv_at hl 0 rfl) ?_
  refine ii_if_lt (tgt := 15) hx hb dW_isGray_1 (by decide) (by omega) (fun c1 => ?_) (fun c1 => ?_)
  · refine ii_iconst (n := 0) hx hb dW_isGray_15 ?_
    rw [← hQ]
    exact rd_zret hx hb hr hlocks (nar_b (by omega)) (by omega) dW_isGray_16
  · refine lv_iload_n hx hb dW_isGray_4 rfl (lv_at hl 0 rfl) ?_
    refine ii_sipush (n := 255) hx hb dW_isGray_5 (by decide +kernel) ?_
    refine ii_icmp_gt (tgt := 15) hx hb dW_isGray_8 (by decide) (by omega) (by omega) (fun c8 => ?_) (fun c8 => ?_)
    · refine ii_iconst (n := 0) hx hb dW_isGray_15 ?_
      rw [← hQ]
      exact rd_zret hx hb hr hlocks (nar_b (by omega)) (by omega) dW_isGray_16
    · refine ii_iconst (n := 1) hx hb dW_isGray_11 ?_
      refine lv_goto (tgt := 16) hx hb dW_isGray_12 (by decide) ?_
      rw [← hQ]
      exact rd_zret hx hb hr hlocks (nar_b (by omega)) (by omega) dW_isGray_16

def rm_c_isInside : Room := { frames := 0, cells := 0, slots := 0, locals := 0 }
set_option maxHeartbeats 4000000 in
set_option maxRecDepth 100000 in
theorem c_isInside (l : Launch) (D : va_G) (cA cB cS : ClassId) (a1 : Int) (a2 : Int) (h1 : i32 a1) (h2 : i32 a2) : Met l yW_isInside wW_isInside rm_c_isInside (pR [.int (iI a1), .int (iI a2)] D vwCl (vwTy cA cB cS) vwNw []) (qI (fun z => (z = 1 ∧ ((a2 = 0 ∧ ¬ a1 = 0) ∨ (¬ a2 = 0 ∧ ¬ a1 % 2 = 0))) ∨ (z = 0 ∧ ¬ ((a2 = 0 ∧ ¬ a1 = 0) ∨ (¬ a2 = 0 ∧ ¬ a1 % 2 = 0))))) 0 0 (fun _ => False) := by
  refine Met.ofW (cc := bW_isInside) (maxL := 2) (ret := (some .boolean)) (by decide +kernel) rfl ?_
  intro p e s m args below meth c s₁ B hml hv
  obtain ⟨rfl, hP, hKW⟩ := hv
  have hK := hKW.1
  have hN := hKW.2.2
  have hx := B.exec
  have hb := B.bytes
  have hr := B.returns
  have hts := atoms_spec (ws := wW_isInside) B.pre
  have hown : s.vm.findClass "WindingRaster" = some m.cls := findClass_of_methodNamed B.named
  have hlocks := B.notSynchronized
  have hP : va_P D vwCl [] s.heap := hP
  have hl := lv_entry ([.int (iI a1), .int (iI a2)]) (n := 2) (Nat.le_of_ble_eq_true rfl)
  rw [lg_entry_eq]
  generalize (lg_sl ([.int (iI a1), .int (iI a2)]) ++ List.replicate (2 - (lg_sl ([.int (iI a1), .int (iI a2)])).length) Slot.unset).toArray = ls at hl ⊢
  have hl : lv_has ls 2 [(0, .int (iI a1)), (1, .int (iI a2))] := hl
  generalize hQ : MQ below (qI (fun z => (z = 1 ∧ ((a2 = 0 ∧ ¬ a1 = 0) ∨ (¬ a2 = 0 ∧ ¬ a1 % 2 = 0))) ∨ (z = 0 ∧ ¬ ((a2 = 0 ∧ ¬ a1 = 0) ∨ (¬ a2 = 0 ∧ ¬ a1 % 2 = 0))))) [.int (iI a1), .int (iI a2)].toArray s 0 0 (fun _ => False) = QQ
  refine lv_iload_n hx hb dW_isInside_0 rfl (lv_at hl 1 rfl) ?_
  refine ii_if_ne (tgt := 16) hx hb dW_isInside_1 (by decide) (by omega) (fun c1 => ?_) (fun c1 => ?_)
  · refine lv_iload_n hx hb dW_isInside_16 rfl (lv_at hl 0 rfl) ?_
    refine ii_iconst (n := 1) hx hb dW_isInside_17 ?_
    refine ii_iand (z := a1 % 2) hx hb dW_isInside_18 (iI_and1 _) ?_
    refine ii_if_eq (tgt := 26) hx hb dW_isInside_19 (by decide) (by omega) (fun c19 => ?_) (fun c19 => ?_)
    · refine ii_iconst (n := 0) hx hb dW_isInside_26 ?_
      rw [← hQ]
      exact rd_zret hx hb hr hlocks (nar_b (by omega)) (by omega) dW_isInside_27
    · refine ii_iconst (n := 1) hx hb dW_isInside_22 ?_
      refine lv_goto (tgt := 27) hx hb dW_isInside_23 (by decide) ?_
      rw [← hQ]
      exact rd_zret hx hb hr hlocks (nar_b (by omega)) (by omega) dW_isInside_27
  · refine lv_iload_n hx hb dW_isInside_4 rfl (lv_at hl 0 rfl) ?_
    refine ii_if_eq (tgt := 12) hx hb dW_isInside_5 (by decide) (by omega) (fun c5 => ?_) (fun c5 => ?_)
    · refine ii_iconst (n := 0) hx hb dW_isInside_12 ?_
      refine lv_goto (tgt := 27) hx hb dW_isInside_13 (by decide) ?_
      rw [← hQ]
      exact rd_zret hx hb hr hlocks (nar_b (by omega)) (by omega) dW_isInside_27
    · refine ii_iconst (n := 1) hx hb dW_isInside_8 ?_
      refine lv_goto (tgt := 27) hx hb dW_isInside_9 (by decide) ?_
      rw [← hQ]
      exact rd_zret hx hb hr hlocks (nar_b (by omega)) (by omega) dW_isInside_27
end
section
def rm_c_isFull : Room := { frames := 0, cells := 0, slots := 0, locals := 0 }
set_option maxHeartbeats 4000000 in
set_option maxRecDepth 100000 in
theorem c_isFull (l : Launch) (D : va_G) (cA cB cS : ClassId) (oo : Nat) (ax : Nat) (ay : Nat) (an : Nat) (fX : Nat → Int) (fY : Nat → Int) (fN : Nat → Int) (np : Nat) (l0 : Nat) (h1 : np ≤ 4096) : Met l yO_isFull wO_isFull rm_c_isFull (pR [.ref oo] D vwCl (vwTy cA cB cS) vwNw [(oo, .inr (1, [.ref ax, .ref ay, .ref an, .int (iI (np : Int)), .int (iI (l0 : Int))])), (ax, .inl (cA, 4096, .inl (iA fX))), (ay, .inl (cA, 4096, .inl (iA fY))), (an, .inl (cA, 4096, .inl (iA fN)))]) (qI (fun z => (z = 1 ∧ (4096 ≤ np)) ∨ (z = 0 ∧ ¬ (4096 ≤ np)))) 0 0 (fun _ => False) := by
  refine Met.ofW (cc := bO_isFull) (maxL := 1) (ret := (some .boolean)) (by decide +kernel) rfl ?_
  intro p e s m args below meth c s₁ B hml hv
  obtain ⟨rfl, hP, hKW⟩ := hv
  have hK := hKW.1
  have hN := hKW.2.2
  have hx := B.exec
  have hb := B.bytes
  have hr := B.returns
  have hts := atoms_spec (ws := wO_isFull) B.pre
  have hown : s.vm.findClass "WindingRaster$Outline" = some m.cls := findClass_of_methodNamed B.named
  have hlocks := B.notSynchronized
  have hP : va_P D vwCl [(oo, .inr (1, [.ref ax, .ref ay, .ref an, .int (iI (np : Int)), .int (iI (l0 : Int))])), (ax, .inl (cA, 4096, .inl (iA fX))), (ay, .inl (cA, 4096, .inl (iA fY))), (an, .inl (cA, 4096, .inl (iA fN)))] s.heap := hP
  have in_1 : ∀ w ∈ wsO, w ∈ wO_isFull := fun w h => List.mem_cons_of_mem _ (in0_O w h)
  have fl_21 := (hts _ (List.mem_cons_of_mem _ vm_35))
  have hl := lv_entry ([.ref oo]) (n := 1) (Nat.le_of_ble_eq_true rfl)
  rw [lg_entry_eq]
  generalize (lg_sl ([.ref oo]) ++ List.replicate (1 - (lg_sl ([.ref oo])).length) Slot.unset).toArray = ls at hl ⊢
  have hl : lv_has ls 1 [(0, .ref oo)] := hl
  generalize hQ : MQ below (qI (fun z => (z = 1 ∧ (4096 ≤ np)) ∨ (z = 0 ∧ ¬ (4096 ≤ np)))) [.ref oo].toArray s 0 0 (fun _ => False) = QQ
  refine lv_aload_n hx hb dO_isFull_0 rfl (lv_at hl 0 rfl) ?_
  refine va_get (ci := 1) (v := .int (iI (np : Int))) (C := "WindingRaster$Outline") (T := TO) (N := 5) hx hb hts in_1 hown hK hP 0 rfl rfl 3 (by decide) fl_21 (fun _ h9 => h9) rfl dO_isFull_1 ?_
  refine ii_sipush (n := 4096) hx hb dO_isFull_4 (by decide +kernel) ?_
  refine ii_icmp_lt (tgt := 14) hx hb dO_isFull_7 (by decide) (by omega) (by omega) (fun c7 => ?_) (fun c7 => ?_)
  · refine ii_iconst (n := 0) hx hb dO_isFull_14 ?_
    rw [← hQ]
    exact rd_zret hx hb hr hlocks (nar_b (by omega)) (by omega) dO_isFull_15
  · refine ii_iconst (n := 1) hx hb dO_isFull_10 ?_
    refine lv_goto (tgt := 15) hx hb dO_isFull_11 (by decide) ?_
    rw [← hQ]
    exact rd_zret hx hb hr hlocks (nar_b (by omega)) (by omega) dO_isFull_15

def rm_c_hasLine : Room := { frames := 0, cells := 0, slots := 0, locals := 0 }
set_option maxHeartbeats 4000000 in
set_option maxRecDepth 100000 in
theorem c_hasLine (l : Launch) (D : va_G) (cA cB cS : ClassId) (oo : Nat) (ax : Nat) (ay : Nat) (an : Nat) (fX : Nat → Int) (fY : Nat → Int) (fN : Nat → Int) (np : Nat) (l0 : Nat) (h1 : np ≤ 4096) : Met l yO_hasLine wO_hasLine rm_c_hasLine (pR [.ref oo] D vwCl (vwTy cA cB cS) vwNw [(oo, .inr (1, [.ref ax, .ref ay, .ref an, .int (iI (np : Int)), .int (iI (l0 : Int))])), (ax, .inl (cA, 4096, .inl (iA fX))), (ay, .inl (cA, 4096, .inl (iA fY))), (an, .inl (cA, 4096, .inl (iA fN)))]) (qI (fun z => (z = 1 ∧ (0 < np)) ∨ (z = 0 ∧ ¬ (0 < np)))) 0 0 (fun _ => False) := by
  refine Met.ofW (cc := bO_hasLine) (maxL := 1) (ret := (some .boolean)) (by decide +kernel) rfl ?_
  intro p e s m args below meth c s₁ B hml hv
  obtain ⟨rfl, hP, hKW⟩ := hv
  have hK := hKW.1
  have hN := hKW.2.2
  have hx := B.exec
  have hb := B.bytes
  have hr := B.returns
  have hts := atoms_spec (ws := wO_hasLine) B.pre
  have hown : s.vm.findClass "WindingRaster$Outline" = some m.cls := findClass_of_methodNamed B.named
  have hlocks := B.notSynchronized
  have hP : va_P D vwCl [(oo, .inr (1, [.ref ax, .ref ay, .ref an, .int (iI (np : Int)), .int (iI (l0 : Int))])), (ax, .inl (cA, 4096, .inl (iA fX))), (ay, .inl (cA, 4096, .inl (iA fY))), (an, .inl (cA, 4096, .inl (iA fN)))] s.heap := hP
  have in_1 : ∀ w ∈ wsO, w ∈ wO_hasLine := fun w h => List.mem_cons_of_mem _ (in0_O w h)
  have fl_21 := (hts _ (List.mem_cons_of_mem _ vm_35))
  have hl := lv_entry ([.ref oo]) (n := 1) (Nat.le_of_ble_eq_true rfl)
  rw [lg_entry_eq]
  generalize (lg_sl ([.ref oo]) ++ List.replicate (1 - (lg_sl ([.ref oo])).length) Slot.unset).toArray = ls at hl ⊢
  have hl : lv_has ls 1 [(0, .ref oo)] := hl
  generalize hQ : MQ below (qI (fun z => (z = 1 ∧ (0 < np)) ∨ (z = 0 ∧ ¬ (0 < np)))) [.ref oo].toArray s 0 0 (fun _ => False) = QQ
  refine lv_aload_n hx hb dO_hasLine_0 rfl (lv_at hl 0 rfl) ?_
  refine va_get (ci := 1) (v := .int (iI (np : Int))) (C := "WindingRaster$Outline") (T := TO) (N := 5) hx hb hts in_1 hown hK hP 0 rfl rfl 3 (by decide) fl_21 (fun _ h9 => h9) rfl dO_hasLine_1 ?_
  refine ii_if_le (tgt := 11) hx hb dO_hasLine_4 (by decide) (by omega) (fun c4 => ?_) (fun c4 => ?_)
  · refine ii_iconst (n := 0) hx hb dO_hasLine_11 ?_
    rw [← hQ]
    exact rd_zret hx hb hr hlocks (nar_b (by omega)) (by omega) dO_hasLine_12
  · refine ii_iconst (n := 1) hx hb dO_hasLine_7 ?_
    refine lv_goto (tgt := 12) hx hb dO_hasLine_8 (by decide) ?_
    rw [← hQ]
    exact rd_zret hx hb hr hlocks (nar_b (by omega)) (by omega) dO_hasLine_12

def rm_c_addPoint : Room := { frames := 1, cells := 0, slots := 0, locals := 20 }
set_option maxHeartbeats 4000000 in
set_option maxRecDepth 100000 in
theorem c_addPoint (l : Launch) (D : va_G) (cA cB cS : ClassId) (oo : Nat) (ax : Nat) (ay : Nat) (an : Nat) (fX : Nat → Int) (fY : Nat → Int) (fN : Nat → Int) (np : Nat) (l0 : Nat) (a1 : Int) (a2 : Int) (h1 : np < 4096) (sz : Nat) : Met l yO_addPoint wO_addPoint rm_c_addPoint (pW [.ref oo, .int (iI a1), .int (iI a2)] D vwCl (vwTy cA cB cS) vwNw [(oo, .inr (1, [.ref ax, .ref ay, .ref an, .int (iI (np : Int)), .int (iI (l0 : Int))])), (ax, .inl (cA, 4096, .inl (iA fX))), (ay, .inl (cA, 4096, .inl (iA fY))), (an, .inl (cA, 4096, .inl (iA fN)))] sz) (qV (S := Unit) (fun _ : Unit => True) D vwCl [(oo, .inr (1, [.ref ax, .ref ay, .ref an, .int (iI (np : Int)), .int (iI (l0 : Int))])), (ax, .inl (cA, 4096, .inl (iA fX))), (ay, .inl (cA, 4096, .inl (iA fY))), (an, .inl (cA, 4096, .inl (iA fN)))] sz (fun _ : Unit => [(oo, .inr (1, [.ref ax, .ref ay, .ref an, .int (iI ((np + 1 : Nat) : Int)), .int (iI (l0 : Int))])), (ax, .inl (cA, 4096, .inl (iA (uZ fX np a1)))), (ay, .inl (cA, 4096, .inl (iA (uZ fY np a2)))), (an, .inl (cA, 4096, .inl (iA (uZ fN np (l0 : Int)))))])) 0 0 (va_A [(oo, .inr (1, [.ref ax, .ref ay, .ref an, .int (iI (np : Int)), .int (iI (l0 : Int))])), (ax, .inl (cA, 4096, .inl (iA fX))), (ay, .inl (cA, 4096, .inl (iA fY))), (an, .inl (cA, 4096, .inl (iA fN)))] sz) := by
  refine Met.ofW (cc := bO_addPoint) (maxL := 3) (ret := none) (by decide +kernel) rfl ?_
  intro p e s m args below meth c s₁ B hml hv
  obtain ⟨rfl, hsz, hP, hKW, hD0⟩ := hv
  have hK := hKW.1
  have hN := hKW.2.2
  have hx := B.exec
  have hb := B.bytes
  have hr := B.returns
  have hts := atoms_spec (ws := wO_addPoint) B.pre
  have hown : s.vm.findClass "WindingRaster$Outline" = some m.cls := findClass_of_methodNamed B.named
  have hlocks := B.notSynchronized
  subst hsz
  have hD := hD0.self (sz := s.heap.size)
  obtain ⟨A, hAe⟩ : ∃ A, va_A [(oo, .inr (1, [.ref ax, .ref ay, .ref an, .int (iI (np : Int)), .int (iI (l0 : Int))])), (ax, .inl (cA, 4096, .inl (iA fX))), (ay, .inl (cA, 4096, .inl (iA fY))), (an, .inl (cA, 4096, .inl (iA fN)))] s.heap.size = A := ⟨_, rfl⟩
  rw [hAe] at hD
  have hA : ∀ q : Nat, s.heap.size ≤ q → A q := fun q h => by rw [← hAe]; exact Or.inr h
  have hS : va_S A s.heap s.heap [] := va_S.rf
  have hP : va_P D vwCl [(oo, .inr (1, [.ref ax, .ref ay, .ref an, .int (iI (np : Int)), .int (iI (l0 : Int))])), (ax, .inl (cA, 4096, .inl (iA fX))), (ay, .inl (cA, 4096, .inl (iA fY))), (an, .inl (cA, 4096, .inl (iA fN)))] s.heap := hP
  have in_1 : ∀ w ∈ wsO, w ∈ wO_addPoint := fun w h => List.mem_cons_of_mem _ (in0_O w h)
  have fl_9 := (hts _ (List.mem_cons_of_mem _ vm_32))
  have fl_21 := (hts _ (List.mem_cons_of_mem _ vm_35))
  have fl_15 := (hts _ (List.mem_cons_of_mem _ vm_33))
  have fl_18 := (hts _ (List.mem_cons_of_mem _ vm_34))
  have fl_25 := (hts _ (List.mem_cons_of_mem _ vm_36))
  have hl := lv_entry ([.ref oo, .int (iI a1), .int (iI a2)]) (n := 3) (Nat.le_of_ble_eq_true rfl)
  rw [lg_entry_eq]
  generalize (lg_sl ([.ref oo, .int (iI a1), .int (iI a2)]) ++ List.replicate (3 - (lg_sl ([.ref oo, .int (iI a1), .int (iI a2)])).length) Slot.unset).toArray = ls at hl ⊢
  have hl : lv_has ls 3 [(0, .ref oo), (1, .int (iI a1)), (2, .int (iI a2))] := hl
  generalize hQ : MQ below (qV (S := Unit) (fun _ : Unit => True) D vwCl [(oo, .inr (1, [.ref ax, .ref ay, .ref an, .int (iI (np : Int)), .int (iI (l0 : Int))])), (ax, .inl (cA, 4096, .inl (iA fX))), (ay, .inl (cA, 4096, .inl (iA fY))), (an, .inl (cA, 4096, .inl (iA fN)))] s.heap.size (fun _ : Unit => [(oo, .inr (1, [.ref ax, .ref ay, .ref an, .int (iI ((np + 1 : Nat) : Int)), .int (iI (l0 : Int))])), (ax, .inl (cA, 4096, .inl (iA (uZ fX np a1)))), (ay, .inl (cA, 4096, .inl (iA (uZ fY np a2)))), (an, .inl (cA, 4096, .inl (iA (uZ fN np (l0 : Int)))))])) [.ref oo, .int (iI a1), .int (iI a2)].toArray s 0 0 (va_A [(oo, .inr (1, [.ref ax, .ref ay, .ref an, .int (iI (np : Int)), .int (iI (l0 : Int))])), (ax, .inl (cA, 4096, .inl (iA fX))), (ay, .inl (cA, 4096, .inl (iA fY))), (an, .inl (cA, 4096, .inl (iA fN)))] s.heap.size) = QQ
  refine lv_aload_n hx hb dO_addPoint_0 rfl (lv_at hl 0 rfl) ?_
  refine cs_i (va_runV (As := []) (rest := []) ⟨hx, hb, hml, hown, hts⟩ (c_isFull l D cA cB cS oo ax ay an fX fY fN np l0 (by omega)) ⟨(callB_of 0 hts (gIn vm_101) rfl rfl rfl (hts _ (List.mem_cons_of_mem _ vm_4)) (hts _ (List.mem_cons_of_mem _ vm_107)) (by decide +kernel) ⟨Nat.le_of_ble_eq_true rfl, Nat.le_of_ble_eq_true rfl⟩), (hts _ (List.mem_cons_of_mem _ vm_100)), (hts _ (List.mem_cons_of_mem _ vm_384))⟩ (pR.preV (va_recv hK hP (ci := 1) (q0 := 0) rfl rfl) (hP.sub [0, 1, 2, 3] rfl) hKW) rfl rfl hl.1 rfl (lv_room (Nat.le_of_ble_eq_true rfl)) dO_addPoint_1 ⟨Nat.le_of_ble_eq_true rfl, Nat.le_of_ble_eq_true rfl⟩) (fun z_1 hz_1 => ?_)
  refine ii_if_ne (tgt := 50) hx hb dO_addPoint_4 (by decide) (by omega) (fun c4 => ?_) (fun c4 => ?_)
  · exfalso; omega
  · refine lv_aload_n hx hb dO_addPoint_7 rfl (lv_at hl 0 rfl) ?_
    refine va_get (ci := 1) (v := .ref ax) (C := "WindingRaster$Outline") (T := TO) (N := 5) hx hb hts in_1 hown hK hP 0 rfl rfl 0 (by decide) fl_9 (fun _ h9 => h9) rfl dO_addPoint_8 ?_
    refine lv_aload_n hx hb dO_addPoint_11 rfl (lv_at hl 0 rfl) ?_
    refine va_get (ci := 1) (v := .int (iI (np : Int))) (C := "WindingRaster$Outline") (T := TO) (N := 5) hx hb hts in_1 hown hK hP 0 rfl rfl 3 (by decide) fl_21 (fun _ h9 => h9) rfl dO_addPoint_12 ?_
    refine lv_iload_n hx hb dO_addPoint_15 rfl (lv_at hl 1 rfl) ?_
    refine ii_iast hx hb hK hP hD hS 1 0 rfl rfl np rfl (by omega) (by omega) dO_addPoint_16 (fun H locs hP hD hS => ?_)
    have hP : va_P D vwCl [(oo, .inr (1, [.ref ax, .ref ay, .ref an, .int (iI (np : Int)), .int (iI (l0 : Int))])), (ax, .inl (cA, 4096, .inl (iA (uZ fX np a1)))), (ay, .inl (cA, 4096, .inl (iA fY))), (an, .inl (cA, 4096, .inl (iA fN)))] H := hP
    have hD : va_D A [(oo, .inr (1, [.ref ax, .ref ay, .ref an, .int (iI (np : Int)), .int (iI (l0 : Int))])), (ax, .inl (cA, 4096, .inl (iA (uZ fX np a1)))), (ay, .inl (cA, 4096, .inl (iA fY))), (an, .inl (cA, 4096, .inl (iA fN)))] := hD
    refine lv_aload_n hx hb dO_addPoint_17 rfl (lv_at hl 0 rfl) ?_
    refine va_get (ci := 1) (v := .ref ay) (C := "WindingRaster$Outline") (T := TO) (N := 5) hx hb hts in_1 hown hK hP 0 rfl rfl 1 (by decide) fl_15 (fun _ h9 => h9) rfl dO_addPoint_18 ?_
    refine lv_aload_n hx hb dO_addPoint_21 rfl (lv_at hl 0 rfl) ?_
    refine va_get (ci := 1) (v := .int (iI (np : Int))) (C := "WindingRaster$Outline") (T := TO) (N := 5) hx hb hts in_1 hown hK hP 0 rfl rfl 3 (by decide) fl_21 (fun _ h9 => h9) rfl dO_addPoint_22 ?_
    refine lv_iload_n hx hb dO_addPoint_25 rfl (lv_at hl 2 rfl) ?_
    refine ii_iast hx hb hK hP hD hS 2 0 rfl rfl np rfl (by omega) (by omega) dO_addPoint_26 (fun H locs hP hD hS => ?_)
    have hP : va_P D vwCl [(oo, .inr (1, [.ref ax, .ref ay, .ref an, .int (iI (np : Int)), .int (iI (l0 : Int))])), (ax, .inl (cA, 4096, .inl (iA (uZ fX np a1)))), (ay, .inl (cA, 4096, .inl (iA (uZ fY np a2)))), (an, .inl (cA, 4096, .inl (iA fN)))] H := hP
    have hD : va_D A [(oo, .inr (1, [.ref ax, .ref ay, .ref an, .int (iI (np : Int)), .int (iI (l0 : Int))])), (ax, .inl (cA, 4096, .inl (iA (uZ fX np a1)))), (ay, .inl (cA, 4096, .inl (iA (uZ fY np a2)))), (an, .inl (cA, 4096, .inl (iA fN)))] := hD
    refine lv_aload_n hx hb dO_addPoint_27 rfl (lv_at hl 0 rfl) ?_
    refine va_get (ci := 1) (v := .ref an) (C := "WindingRaster$Outline") (T := TO) (N := 5) hx hb hts in_1 hown hK hP 0 rfl rfl 2 (by decide) fl_18 (fun _ h9 => h9) rfl dO_addPoint_28 ?_
    refine lv_aload_n hx hb dO_addPoint_31 rfl (lv_at hl 0 rfl) ?_
    refine va_get (ci := 1) (v := .int (iI (np : Int))) (C := "WindingRaster$Outline") (T := TO) (N := 5) hx hb hts in_1 hown hK hP 0 rfl rfl 3 (by decide) fl_21 (fun _ h9 => h9) rfl dO_addPoint_32 ?_
    refine lv_aload_n hx hb dO_addPoint_35 rfl (lv_at hl 0 rfl) ?_
    refine va_get (ci := 1) (v := .int (iI (l0 : Int))) (C := "WindingRaster$Outline") (T := TO) (N := 5) hx hb hts in_1 hown hK hP 0 rfl rfl 4 (by decide) fl_25 (fun _ h9 => h9) rfl dO_addPoint_36 ?_
    refine ii_iast hx hb hK hP hD hS 3 0 rfl rfl np rfl (by omega) (by omega) dO_addPoint_39 (fun H locs hP hD hS => ?_)
    have hP : va_P D vwCl [(oo, .inr (1, [.ref ax, .ref ay, .ref an, .int (iI (np : Int)), .int (iI (l0 : Int))])), (ax, .inl (cA, 4096, .inl (iA (uZ fX np a1)))), (ay, .inl (cA, 4096, .inl (iA (uZ fY np a2)))), (an, .inl (cA, 4096, .inl (iA (uZ fN np (l0 : Int)))))] H := hP
    have hD : va_D A [(oo, .inr (1, [.ref ax, .ref ay, .ref an, .int (iI (np : Int)), .int (iI (l0 : Int))])), (ax, .inl (cA, 4096, .inl (iA (uZ fX np a1)))), (ay, .inl (cA, 4096, .inl (iA (uZ fY np a2)))), (an, .inl (cA, 4096, .inl (iA (uZ fN np (l0 : Int)))))] := hD
    refine lv_aload_n hx hb dO_addPoint_40 rfl (lv_at hl 0 rfl) ?_
    refine lv_dup hx hb dO_addPoint_41 rfl ?_
    refine va_get (ci := 1) (v := .int (iI (np : Int))) (C := "WindingRaster$Outline") (T := TO) (N := 5) hx hb hts in_1 hown hK hP 0 rfl rfl 3 (by decide) fl_21 (fun _ h9 => h9) rfl dO_addPoint_42 ?_
    refine ii_iconst (n := 1) hx hb dO_addPoint_45 ?_
    refine ii_iadd hx hb dO_addPoint_46 ?_
    refine ii_top (y := ((np + 1 : Nat) : Int)) (by push_cast; rfl) ?_
    refine va_put (ci := 1) (v := .int (iI ((np + 1 : Nat) : Int))) (ty := .int) (C := "WindingRaster$Outline") (T := TO) (N := 5) hx hb hts in_1 tO tO_ok nO hown hK hP hD hS 0 rfl rfl 3 (by decide) fl_21 (fun _ h9 => h9) rfl (by decide +kernel) rfl rfl (Nat.le_of_ble_eq_true rfl) dO_addPoint_47 (fun H locs hP hD hS => ?_)
    have hP : va_P D vwCl [(oo, .inr (1, [.ref ax, .ref ay, .ref an, .int (iI ((np + 1 : Nat) : Int)), .int (iI (l0 : Int))])), (ax, .inl (cA, 4096, .inl (iA (uZ fX np a1)))), (ay, .inl (cA, 4096, .inl (iA (uZ fY np a2)))), (an, .inl (cA, 4096, .inl (iA (uZ fN np (l0 : Int)))))] H := hP
    have hD : va_D A [(oo, .inr (1, [.ref ax, .ref ay, .ref an, .int (iI ((np + 1 : Nat) : Int)), .int (iI (l0 : Int))])), (ax, .inl (cA, 4096, .inl (iA (uZ fX np a1)))), (ay, .inl (cA, 4096, .inl (iA (uZ fY np a2)))), (an, .inl (cA, 4096, .inl (iA (uZ fN np (l0 : Int)))))] := hD
    rw [← hQ]
    exact wr_vret () hx hb hr hlocks hAe (hP.sub [0, 1, 2, 3] rfl) (hD.sub [0, 1, 2, 3] (by decide) rfl) hS trivial dO_addPoint_50

def rm_c_begin : Room := { frames := 2, cells := 0, slots := 0, locals := 42 }
set_option maxHeartbeats 4000000 in
set_option maxRecDepth 100000 in
theorem c_begin (l : Launch) (D : va_G) (cA cB cS : ClassId) (oo : Nat) (ax : Nat) (ay : Nat) (an : Nat) (fX : Nat → Int) (fY : Nat → Int) (fN : Nat → Int) (np : Nat) (l0 : Nat) (a1 : Int) (a2 : Int) (h1 : np < 4096) (sz : Nat) : Met l yO_begin wO_begin rm_c_begin (pW [.ref oo, .int (iI a1), .int (iI a2)] D vwCl (vwTy cA cB cS) vwNw [(oo, .inr (1, [.ref ax, .ref ay, .ref an, .int (iI (np : Int)), .int (iI (l0 : Int))])), (ax, .inl (cA, 4096, .inl (iA fX))), (ay, .inl (cA, 4096, .inl (iA fY))), (an, .inl (cA, 4096, .inl (iA fN)))] sz) (qV (S := Unit) (fun _ : Unit => True) D vwCl [(oo, .inr (1, [.ref ax, .ref ay, .ref an, .int (iI (np : Int)), .int (iI (l0 : Int))])), (ax, .inl (cA, 4096, .inl (iA fX))), (ay, .inl (cA, 4096, .inl (iA fY))), (an, .inl (cA, 4096, .inl (iA fN)))] sz (fun _ : Unit => [(oo, .inr (1, [.ref ax, .ref ay, .ref an, .int (iI ((np + 1 : Nat) : Int)), .int (iI (np : Int))])), (ax, .inl (cA, 4096, .inl (iA (uZ fX np a1)))), (ay, .inl (cA, 4096, .inl (iA (uZ fY np a2)))), (an, .inl (cA, 4096, .inl (iA (uZ fN np (np : Int)))))])) 0 0 (va_A [(oo, .inr (1, [.ref ax, .ref ay, .ref an, .int (iI (np : Int)), .int (iI (l0 : Int))])), (ax, .inl (cA, 4096, .inl (iA fX))), (ay, .inl (cA, 4096, .inl (iA fY))), (an, .inl (cA, 4096, .inl (iA fN)))] sz) := by
  refine Met.ofW (cc := bO_begin) (maxL := 3) (ret := none) (by decide +kernel) rfl ?_
  intro p e s m args below meth c s₁ B hml hv
  obtain ⟨rfl, hsz, hP, hKW, hD0⟩ := hv
  have hK := hKW.1
  have hN := hKW.2.2
  have hx := B.exec
  have hb := B.bytes
  have hr := B.returns
  have hts := atoms_spec (ws := wO_begin) B.pre
  have hown : s.vm.findClass "WindingRaster$Outline" = some m.cls := findClass_of_methodNamed B.named
  have hlocks := B.notSynchronized
  subst hsz
  have hD := hD0.self (sz := s.heap.size)
  obtain ⟨A, hAe⟩ : ∃ A, va_A [(oo, .inr (1, [.ref ax, .ref ay, .ref an, .int (iI (np : Int)), .int (iI (l0 : Int))])), (ax, .inl (cA, 4096, .inl (iA fX))), (ay, .inl (cA, 4096, .inl (iA fY))), (an, .inl (cA, 4096, .inl (iA fN)))] s.heap.size = A := ⟨_, rfl⟩
  rw [hAe] at hD
  have hA : ∀ q : Nat, s.heap.size ≤ q → A q := fun q h => by rw [← hAe]; exact Or.inr h
  have hS : va_S A s.heap s.heap [] := va_S.rf
  have hP : va_P D vwCl [(oo, .inr (1, [.ref ax, .ref ay, .ref an, .int (iI (np : Int)), .int (iI (l0 : Int))])), (ax, .inl (cA, 4096, .inl (iA fX))), (ay, .inl (cA, 4096, .inl (iA fY))), (an, .inl (cA, 4096, .inl (iA fN)))] s.heap := hP
  have in_1 : ∀ w ∈ wsO, w ∈ wO_begin := fun w h => List.mem_cons_of_mem _ (in0_O w h)
  have fl_21 := (hts _ (List.mem_cons_of_mem _ vm_35))
  have fl_25 := (hts _ (List.mem_cons_of_mem _ vm_36))
  have hl := lv_entry ([.ref oo, .int (iI a1), .int (iI a2)]) (n := 3) (Nat.le_of_ble_eq_true rfl)
  rw [lg_entry_eq]
  generalize (lg_sl ([.ref oo, .int (iI a1), .int (iI a2)]) ++ List.replicate (3 - (lg_sl ([.ref oo, .int (iI a1), .int (iI a2)])).length) Slot.unset).toArray = ls at hl ⊢
  have hl : lv_has ls 3 [(0, .ref oo), (1, .int (iI a1)), (2, .int (iI a2))] := hl
  generalize hQ : MQ below (qV (S := Unit) (fun _ : Unit => True) D vwCl [(oo, .inr (1, [.ref ax, .ref ay, .ref an, .int (iI (np : Int)), .int (iI (l0 : Int))])), (ax, .inl (cA, 4096, .inl (iA fX))), (ay, .inl (cA, 4096, .inl (iA fY))), (an, .inl (cA, 4096, .inl (iA fN)))] s.heap.size (fun _ : Unit => [(oo, .inr (1, [.ref ax, .ref ay, .ref an, .int (iI ((np + 1 : Nat) : Int)), .int (iI (np : Int))])), (ax, .inl (cA, 4096, .inl (iA (uZ fX np a1)))), (ay, .inl (cA, 4096, .inl (iA (uZ fY np a2)))), (an, .inl (cA, 4096, .inl (iA (uZ fN np (np : Int)))))])) [.ref oo, .int (iI a1), .int (iI a2)].toArray s 0 0 (va_A [(oo, .inr (1, [.ref ax, .ref ay, .ref an, .int (iI (np : Int)), .int (iI (l0 : Int))])), (ax, .inl (cA, 4096, .inl (iA fX))), (ay, .inl (cA, 4096, .inl (iA fY))), (an, .inl (cA, 4096, .inl (iA fN)))] s.heap.size) = QQ
  refine lv_aload_n hx hb dO_begin_0 rfl (lv_at hl 0 rfl) ?_
  refine lv_aload_n hx hb dO_begin_1 rfl (lv_at hl 0 rfl) ?_
  refine va_get (ci := 1) (v := .int (iI (np : Int))) (C := "WindingRaster$Outline") (T := TO) (N := 5) hx hb hts in_1 hown hK hP 0 rfl rfl 3 (by decide) fl_21 (fun _ h9 => h9) rfl dO_begin_2 ?_
  refine va_put (ci := 1) (v := .int (iI (np : Int))) (ty := .int) (C := "WindingRaster$Outline") (T := TO) (N := 5) hx hb hts in_1 tO tO_ok nO hown hK hP hD hS 0 rfl rfl 4 (by decide) fl_25 (fun _ h9 => h9) rfl (by decide +kernel) rfl rfl (Nat.le_of_ble_eq_true rfl) dO_begin_5 (fun H locs hP hD hS => ?_)
  have hP : va_P D vwCl [(oo, .inr (1, [.ref ax, .ref ay, .ref an, .int (iI (np : Int)), .int (iI (np : Int))])), (ax, .inl (cA, 4096, .inl (iA fX))), (ay, .inl (cA, 4096, .inl (iA fY))), (an, .inl (cA, 4096, .inl (iA fN)))] H := hP
  have hD : va_D A [(oo, .inr (1, [.ref ax, .ref ay, .ref an, .int (iI (np : Int)), .int (iI (np : Int))])), (ax, .inl (cA, 4096, .inl (iA fX))), (ay, .inl (cA, 4096, .inl (iA fY))), (an, .inl (cA, 4096, .inl (iA fN)))] := hD
  refine lv_aload_n hx hb dO_begin_8 rfl (lv_at hl 0 rfl) ?_
  refine lv_iload_n hx hb dO_begin_9 rfl (lv_at hl 1 rfl) ?_
  refine lv_iload_n hx hb dO_begin_10 rfl (lv_at hl 2 rfl) ?_
  refine cw_v (wc := [(oo, .inr (1, [.ref ax, .ref ay, .ref an, .int (iI (np : Int)), .int (iI (np : Int))])), (ax, .inl (cA, 4096, .inl (iA fX))), (ay, .inl (cA, 4096, .inl (iA fY))), (an, .inl (cA, 4096, .inl (iA fN)))]) (wr := []) hP hD hS hA [0, 1, 2, 3] [] rfl rfl (by decide) (by decide) (va_runV (As := [.int (iI a1), .int (iI a2)]) (rest := []) ⟨hx, hb, hml, hown, hts⟩ (c_addPoint l D cA cB cS oo ax ay an fX fY fN np np a1 a2 (by omega) _) ⟨(callB_of 2 hts (gIn vm_106) rfl rfl rfl (hts _ (List.mem_cons_of_mem _ vm_4)) (hts _ (List.mem_cons_of_mem _ vm_104)) (by decide +kernel) ⟨Nat.le_of_ble_eq_true rfl, Nat.le_of_ble_eq_true rfl⟩), (hts _ (List.mem_cons_of_mem _ vm_105)), (hts _ (List.mem_cons_of_mem _ vm_386))⟩ (pW.preV (va_recv hK hP (ci := 1) (q0 := 0) rfl rfl) (hP.sub [0, 1, 2, 3] rfl) (hD.sub [0, 1, 2, 3] (by decide) rfl) hKW) rfl rfl hl.1 rfl (lv_room (Nat.le_of_ble_eq_true rfl)) dO_begin_11 ⟨Nat.le_of_ble_eq_true rfl, Nat.le_of_ble_eq_true rfl⟩) (fun u_2 H locs hz_1 hP hD hS => ?_)
  have hP : va_P D vwCl [(oo, .inr (1, [.ref ax, .ref ay, .ref an, .int (iI ((np + 1 : Nat) : Int)), .int (iI (np : Int))])), (ax, .inl (cA, 4096, .inl (iA (uZ fX np a1)))), (ay, .inl (cA, 4096, .inl (iA (uZ fY np a2)))), (an, .inl (cA, 4096, .inl (iA (uZ fN np (np : Int)))))] H := hP
  have hD : va_D A [(oo, .inr (1, [.ref ax, .ref ay, .ref an, .int (iI ((np + 1 : Nat) : Int)), .int (iI (np : Int))])), (ax, .inl (cA, 4096, .inl (iA (uZ fX np a1)))), (ay, .inl (cA, 4096, .inl (iA (uZ fY np a2)))), (an, .inl (cA, 4096, .inl (iA (uZ fN np (np : Int)))))] := hD
  rw [← hQ]
  exact wr_vret () hx hb hr hlocks hAe (hP.sub [0, 1, 2, 3] rfl) (hD.sub [0, 1, 2, 3] (by decide) rfl) hS trivial dO_begin_14

def rm_c_goOn : Room := { frames := 2, cells := 0, slots := 0, locals := 42 }
set_option maxHeartbeats 4000000 in
set_option maxRecDepth 100000 in
theorem c_goOn (l : Launch) (D : va_G) (cA cB cS : ClassId) (oo : Nat) (ax : Nat) (ay : Nat) (an : Nat) (fX : Nat → Int) (fY : Nat → Int) (fN : Nat → Int) (np : Nat) (l0 : Nat) (a1 : Int) (a2 : Int) (h1 : np < 4096) (h2 : 0 < np) (sz : Nat) : Met l yO_goOn wO_goOn rm_c_goOn (pW [.ref oo, .int (iI a1), .int (iI a2)] D vwCl (vwTy cA cB cS) vwNw [(oo, .inr (1, [.ref ax, .ref ay, .ref an, .int (iI (np : Int)), .int (iI (l0 : Int))])), (ax, .inl (cA, 4096, .inl (iA fX))), (ay, .inl (cA, 4096, .inl (iA fY))), (an, .inl (cA, 4096, .inl (iA fN)))] sz) (qV (S := Unit) (fun _ : Unit => True) D vwCl [(oo, .inr (1, [.ref ax, .ref ay, .ref an, .int (iI (np : Int)), .int (iI (l0 : Int))])), (ax, .inl (cA, 4096, .inl (iA fX))), (ay, .inl (cA, 4096, .inl (iA fY))), (an, .inl (cA, 4096, .inl (iA fN)))] sz (fun _ : Unit => [(oo, .inr (1, [.ref ax, .ref ay, .ref an, .int (iI ((np + 1 : Nat) : Int)), .int (iI (l0 : Int))])), (ax, .inl (cA, 4096, .inl (iA (uZ fX np a1)))), (ay, .inl (cA, 4096, .inl (iA (uZ fY np a2)))), (an, .inl (cA, 4096, .inl (iA (uZ (uZ fN (np - 1) (np : Int)) np (l0 : Int)))))])) 0 0 (va_A [(oo, .inr (1, [.ref ax, .ref ay, .ref an, .int (iI (np : Int)), .int (iI (l0 : Int))])), (ax, .inl (cA, 4096, .inl (iA fX))), (ay, .inl (cA, 4096, .inl (iA fY))), (an, .inl (cA, 4096, .inl (iA fN)))] sz) := by
  refine Met.ofW (cc := bO_goOn) (maxL := 3) (ret := none) (by decide +kernel) rfl ?_
  intro p e s m args below meth c s₁ B hml hv
  obtain ⟨rfl, hsz, hP, hKW, hD0⟩ := hv
  have hK := hKW.1
  have hN := hKW.2.2
  have hx := B.exec
  have hb := B.bytes
  have hr := B.returns
  have hts := atoms_spec (ws := wO_goOn) B.pre
  have hown : s.vm.findClass "WindingRaster$Outline" = some m.cls := findClass_of_methodNamed B.named
  have hlocks := B.notSynchronized
  subst hsz
  have hD := hD0.self (sz := s.heap.size)
  obtain ⟨A, hAe⟩ : ∃ A, va_A [(oo, .inr (1, [.ref ax, .ref ay, .ref an, .int (iI (np : Int)), .int (iI (l0 : Int))])), (ax, .inl (cA, 4096, .inl (iA fX))), (ay, .inl (cA, 4096, .inl (iA fY))), (an, .inl (cA, 4096, .inl (iA fN)))] s.heap.size = A := ⟨_, rfl⟩
  rw [hAe] at hD
  have hA : ∀ q : Nat, s.heap.size ≤ q → A q := fun q h => by rw [← hAe]; exact Or.inr h
  have hS : va_S A s.heap s.heap [] := va_S.rf
  have hP : va_P D vwCl [(oo, .inr (1, [.ref ax, .ref ay, .ref an, .int (iI (np : Int)), .int (iI (l0 : Int))])), (ax, .inl (cA, 4096, .inl (iA fX))), (ay, .inl (cA, 4096, .inl (iA fY))), (an, .inl (cA, 4096, .inl (iA fN)))] s.heap := hP
  have in_1 : ∀ w ∈ wsO, w ∈ wO_goOn := fun w h => List.mem_cons_of_mem _ (in0_O w h)
  have fl_18 := (hts _ (List.mem_cons_of_mem _ vm_34))
  have fl_21 := (hts _ (List.mem_cons_of_mem _ vm_35))
  have hl := lv_entry ([.ref oo, .int (iI a1), .int (iI a2)]) (n := 3) (Nat.le_of_ble_eq_true rfl)
  rw [lg_entry_eq]
  generalize (lg_sl ([.ref oo, .int (iI a1), .int (iI a2)]) ++ List.replicate (3 - (lg_sl ([.ref oo, .int (iI a1), .int (iI a2)])).length) Slot.unset).toArray = ls at hl ⊢
  have hl : lv_has ls 3 [(0, .ref oo), (1, .int (iI a1)), (2, .int (iI a2))] := hl
  generalize hQ : MQ below (qV (S := Unit) (fun _ : Unit => True) D vwCl [(oo, .inr (1, [.ref ax, .ref ay, .ref an, .int (iI (np : Int)), .int (iI (l0 : Int))])), (ax, .inl (cA, 4096, .inl (iA fX))), (ay, .inl (cA, 4096, .inl (iA fY))), (an, .inl (cA, 4096, .inl (iA fN)))] s.heap.size (fun _ : Unit => [(oo, .inr (1, [.ref ax, .ref ay, .ref an, .int (iI ((np + 1 : Nat) : Int)), .int (iI (l0 : Int))])), (ax, .inl (cA, 4096, .inl (iA (uZ fX np a1)))), (ay, .inl (cA, 4096, .inl (iA (uZ fY np a2)))), (an, .inl (cA, 4096, .inl (iA (uZ (uZ fN (np - 1) (np : Int)) np (l0 : Int)))))])) [.ref oo, .int (iI a1), .int (iI a2)].toArray s 0 0 (va_A [(oo, .inr (1, [.ref ax, .ref ay, .ref an, .int (iI (np : Int)), .int (iI (l0 : Int))])), (ax, .inl (cA, 4096, .inl (iA fX))), (ay, .inl (cA, 4096, .inl (iA fY))), (an, .inl (cA, 4096, .inl (iA fN)))] s.heap.size) = QQ
  refine lv_aload_n hx hb dO_goOn_0 rfl (lv_at hl 0 rfl) ?_
  refine cs_i (va_runV (As := []) (rest := []) ⟨hx, hb, hml, hown, hts⟩ (c_hasLine l D cA cB cS oo ax ay an fX fY fN np l0 (by omega)) ⟨(callB_of 0 hts (gIn vm_113) rfl rfl rfl (hts _ (List.mem_cons_of_mem _ vm_4)) (hts _ (List.mem_cons_of_mem _ vm_116)) (by decide +kernel) ⟨Nat.le_of_ble_eq_true rfl, Nat.le_of_ble_eq_true rfl⟩), (hts _ (List.mem_cons_of_mem _ vm_112)), (hts _ (List.mem_cons_of_mem _ vm_387))⟩ (pR.preV (va_recv hK hP (ci := 1) (q0 := 0) rfl rfl) (hP.sub [0, 1, 2, 3] rfl) hKW) rfl rfl hl.1 rfl (lv_room (Nat.le_of_ble_eq_true rfl)) dO_goOn_1 ⟨Nat.le_of_ble_eq_true rfl, Nat.le_of_ble_eq_true rfl⟩) (fun z_1 hz_1 => ?_)
  refine ii_if_eq (tgt := 35) hx hb dO_goOn_4 (by decide) (by omega) (fun c4 => ?_) (fun c4 => ?_)
  · exfalso; omega
  · refine lv_aload_n hx hb dO_goOn_7 rfl (lv_at hl 0 rfl) ?_
    refine cs_i (va_runV (As := []) (rest := []) ⟨hx, hb, hml, hown, hts⟩ (c_isFull l D cA cB cS oo ax ay an fX fY fN np l0 (by omega)) ⟨(callB_of 0 hts (gIn vm_101) rfl rfl rfl (hts _ (List.mem_cons_of_mem _ vm_4)) (hts _ (List.mem_cons_of_mem _ vm_107)) (by decide +kernel) ⟨Nat.le_of_ble_eq_true rfl, Nat.le_of_ble_eq_true rfl⟩), (hts _ (List.mem_cons_of_mem _ vm_100)), (hts _ (List.mem_cons_of_mem _ vm_384))⟩ (pR.preV (va_recv hK hP (ci := 1) (q0 := 0) rfl rfl) (hP.sub [0, 1, 2, 3] rfl) hKW) rfl rfl hl.1 rfl (lv_room (Nat.le_of_ble_eq_true rfl)) dO_goOn_8 ⟨Nat.le_of_ble_eq_true rfl, Nat.le_of_ble_eq_true rfl⟩) (fun z_2 hz_2 => ?_)
    refine ii_if_ne (tgt := 35) hx hb dO_goOn_11 (by decide) (by omega) (fun c11 => ?_) (fun c11 => ?_)
    · exfalso; omega
    · refine lv_aload_n hx hb dO_goOn_14 rfl (lv_at hl 0 rfl) ?_
      refine va_get (ci := 1) (v := .ref an) (C := "WindingRaster$Outline") (T := TO) (N := 5) hx hb hts in_1 hown hK hP 0 rfl rfl 2 (by decide) fl_18 (fun _ h9 => h9) rfl dO_goOn_15 ?_
      refine lv_aload_n hx hb dO_goOn_18 rfl (lv_at hl 0 rfl) ?_
      refine va_get (ci := 1) (v := .int (iI (np : Int))) (C := "WindingRaster$Outline") (T := TO) (N := 5) hx hb hts in_1 hown hK hP 0 rfl rfl 3 (by decide) fl_21 (fun _ h9 => h9) rfl dO_goOn_19 ?_
      refine ii_iconst (n := 1) hx hb dO_goOn_22 ?_
      refine ii_isub hx hb dO_goOn_23 ?_
      refine lv_aload_n hx hb dO_goOn_24 rfl (lv_at hl 0 rfl) ?_
      refine va_get (ci := 1) (v := .int (iI (np : Int))) (C := "WindingRaster$Outline") (T := TO) (N := 5) hx hb hts in_1 hown hK hP 0 rfl rfl 3 (by decide) fl_21 (fun _ h9 => h9) rfl dO_goOn_25 ?_
      refine ii_iast hx hb hK hP hD hS 3 0 rfl rfl (np - 1) (by omega) (by omega) (by omega) dO_goOn_28 (fun H locs hP hD hS => ?_)
      have hP : va_P D vwCl [(oo, .inr (1, [.ref ax, .ref ay, .ref an, .int (iI (np : Int)), .int (iI (l0 : Int))])), (ax, .inl (cA, 4096, .inl (iA fX))), (ay, .inl (cA, 4096, .inl (iA fY))), (an, .inl (cA, 4096, .inl (iA (uZ fN (np - 1) (np : Int)))))] H := hP
      have hD : va_D A [(oo, .inr (1, [.ref ax, .ref ay, .ref an, .int (iI (np : Int)), .int (iI (l0 : Int))])), (ax, .inl (cA, 4096, .inl (iA fX))), (ay, .inl (cA, 4096, .inl (iA fY))), (an, .inl (cA, 4096, .inl (iA (uZ fN (np - 1) (np : Int)))))] := hD
      refine lv_aload_n hx hb dO_goOn_29 rfl (lv_at hl 0 rfl) ?_
      refine lv_iload_n hx hb dO_goOn_30 rfl (lv_at hl 1 rfl) ?_
      refine lv_iload_n hx hb dO_goOn_31 rfl (lv_at hl 2 rfl) ?_
      refine cw_v (wc := [(oo, .inr (1, [.ref ax, .ref ay, .ref an, .int (iI (np : Int)), .int (iI (l0 : Int))])), (ax, .inl (cA, 4096, .inl (iA fX))), (ay, .inl (cA, 4096, .inl (iA fY))), (an, .inl (cA, 4096, .inl (iA (uZ fN (np - 1) (np : Int)))))]) (wr := []) hP hD hS hA [0, 1, 2, 3] [] rfl rfl (by decide) (by decide) (va_runV (As := [.int (iI a1), .int (iI a2)]) (rest := []) ⟨hx, hb, hml, hown, hts⟩ (c_addPoint l D cA cB cS oo ax ay an fX fY (uZ fN (np - 1) (np : Int)) np l0 a1 a2 (by omega) _) ⟨(callB_of 2 hts (gIn vm_106) rfl rfl rfl (hts _ (List.mem_cons_of_mem _ vm_4)) (hts _ (List.mem_cons_of_mem _ vm_104)) (by decide +kernel) ⟨Nat.le_of_ble_eq_true rfl, Nat.le_of_ble_eq_true rfl⟩), (hts _ (List.mem_cons_of_mem _ vm_105)), (hts _ (List.mem_cons_of_mem _ vm_386))⟩ (pW.preV (va_recv hK hP (ci := 1) (q0 := 0) rfl rfl) (hP.sub [0, 1, 2, 3] rfl) (hD.sub [0, 1, 2, 3] (by decide) rfl) hKW) rfl rfl hl.1 rfl (lv_room (Nat.le_of_ble_eq_true rfl)) dO_goOn_32 ⟨Nat.le_of_ble_eq_true rfl, Nat.le_of_ble_eq_true rfl⟩) (fun u_4 H locs hz_3 hP hD hS => ?_)
      have hP : va_P D vwCl [(oo, .inr (1, [.ref ax, .ref ay, .ref an, .int (iI ((np + 1 : Nat) : Int)), .int (iI (l0 : Int))])), (ax, .inl (cA, 4096, .inl (iA (uZ fX np a1)))), (ay, .inl (cA, 4096, .inl (iA (uZ fY np a2)))), (an, .inl (cA, 4096, .inl (iA (uZ (uZ fN (np - 1) (np : Int)) np (l0 : Int)))))] H := hP
      have hD : va_D A [(oo, .inr (1, [.ref ax, .ref ay, .ref an, .int (iI ((np + 1 : Nat) : Int)), .int (iI (l0 : Int))])), (ax, .inl (cA, 4096, .inl (iA (uZ fX np a1)))), (ay, .inl (cA, 4096, .inl (iA (uZ fY np a2)))), (an, .inl (cA, 4096, .inl (iA (uZ (uZ fN (np - 1) (np : Int)) np (l0 : Int)))))] := hD
      rw [← hQ]
      exact wr_vret () hx hb hr hlocks hAe (hP.sub [0, 1, 2, 3] rfl) (hD.sub [0, 1, 2, 3] (by decide) rfl) hS trivial dO_goOn_35

def rm_c_forget : Room := { frames := 0, cells := 0, slots := 0, locals := 0 }
set_option maxHeartbeats 4000000 in
set_option maxRecDepth 100000 in
theorem c_forget (l : Launch) (D : va_G) (cA cB cS : ClassId) (oo : Nat) (ax : Nat) (ay : Nat) (an : Nat) (fX : Nat → Int) (fY : Nat → Int) (fN : Nat → Int) (np : Nat) (l0 : Nat) (sz : Nat) : Met l yO_forget wO_forget rm_c_forget (pW [.ref oo] D vwCl (vwTy cA cB cS) vwNw [(oo, .inr (1, [.ref ax, .ref ay, .ref an, .int (iI (np : Int)), .int (iI (l0 : Int))])), (ax, .inl (cA, 4096, .inl (iA fX))), (ay, .inl (cA, 4096, .inl (iA fY))), (an, .inl (cA, 4096, .inl (iA fN)))] sz) (qV (S := Unit) (fun _ : Unit => True) D vwCl [(oo, .inr (1, [.ref ax, .ref ay, .ref an, .int (iI (np : Int)), .int (iI (l0 : Int))])), (ax, .inl (cA, 4096, .inl (iA fX))), (ay, .inl (cA, 4096, .inl (iA fY))), (an, .inl (cA, 4096, .inl (iA fN)))] sz (fun _ : Unit => [(oo, .inr (1, [.ref ax, .ref ay, .ref an, .int (iI 0), .int (iI 0)])), (ax, .inl (cA, 4096, .inl (iA fX))), (ay, .inl (cA, 4096, .inl (iA fY))), (an, .inl (cA, 4096, .inl (iA fN)))])) 0 0 (va_A [(oo, .inr (1, [.ref ax, .ref ay, .ref an, .int (iI (np : Int)), .int (iI (l0 : Int))])), (ax, .inl (cA, 4096, .inl (iA fX))), (ay, .inl (cA, 4096, .inl (iA fY))), (an, .inl (cA, 4096, .inl (iA fN)))] sz) := by
  refine Met.ofW (cc := bO_forget) (maxL := 1) (ret := none) (by decide +kernel) rfl ?_
  intro p e s m args below meth c s₁ B hml hv
  obtain ⟨rfl, hsz, hP, hKW, hD0⟩ := hv
  have hK := hKW.1
  have hN := hKW.2.2
  have hx := B.exec
  have hb := B.bytes
  have hr := B.returns
  have hts := atoms_spec (ws := wO_forget) B.pre
  have hown : s.vm.findClass "WindingRaster$Outline" = some m.cls := findClass_of_methodNamed B.named
  have hlocks := B.notSynchronized
  subst hsz
  have hD := hD0.self (sz := s.heap.size)
  obtain ⟨A, hAe⟩ : ∃ A, va_A [(oo, .inr (1, [.ref ax, .ref ay, .ref an, .int (iI (np : Int)), .int (iI (l0 : Int))])), (ax, .inl (cA, 4096, .inl (iA fX))), (ay, .inl (cA, 4096, .inl (iA fY))), (an, .inl (cA, 4096, .inl (iA fN)))] s.heap.size = A := ⟨_, rfl⟩
  rw [hAe] at hD
  have hA : ∀ q : Nat, s.heap.size ≤ q → A q := fun q h => by rw [← hAe]; exact Or.inr h
  have hS : va_S A s.heap s.heap [] := va_S.rf
  have hP : va_P D vwCl [(oo, .inr (1, [.ref ax, .ref ay, .ref an, .int (iI (np : Int)), .int (iI (l0 : Int))])), (ax, .inl (cA, 4096, .inl (iA fX))), (ay, .inl (cA, 4096, .inl (iA fY))), (an, .inl (cA, 4096, .inl (iA fN)))] s.heap := hP
  have in_1 : ∀ w ∈ wsO, w ∈ wO_forget := fun w h => List.mem_cons_of_mem _ (in0_O w h)
  have fl_21 := (hts _ (List.mem_cons_of_mem _ vm_35))
  have fl_25 := (hts _ (List.mem_cons_of_mem _ vm_36))
  have hl := lv_entry ([.ref oo]) (n := 1) (Nat.le_of_ble_eq_true rfl)
  rw [lg_entry_eq]
  generalize (lg_sl ([.ref oo]) ++ List.replicate (1 - (lg_sl ([.ref oo])).length) Slot.unset).toArray = ls at hl ⊢
  have hl : lv_has ls 1 [(0, .ref oo)] := hl
  generalize hQ : MQ below (qV (S := Unit) (fun _ : Unit => True) D vwCl [(oo, .inr (1, [.ref ax, .ref ay, .ref an, .int (iI (np : Int)), .int (iI (l0 : Int))])), (ax, .inl (cA, 4096, .inl (iA fX))), (ay, .inl (cA, 4096, .inl (iA fY))), (an, .inl (cA, 4096, .inl (iA fN)))] s.heap.size (fun _ : Unit => [(oo, .inr (1, [.ref ax, .ref ay, .ref an, .int (iI 0), .int (iI 0)])), (ax, .inl (cA, 4096, .inl (iA fX))), (ay, .inl (cA, 4096, .inl (iA fY))), (an, .inl (cA, 4096, .inl (iA fN)))])) [.ref oo].toArray s 0 0 (va_A [(oo, .inr (1, [.ref ax, .ref ay, .ref an, .int (iI (np : Int)), .int (iI (l0 : Int))])), (ax, .inl (cA, 4096, .inl (iA fX))), (ay, .inl (cA, 4096, .inl (iA fY))), (an, .inl (cA, 4096, .inl (iA fN)))] s.heap.size) = QQ
  refine lv_aload_n hx hb dO_forget_0 rfl (lv_at hl 0 rfl) ?_
  refine ii_iconst (n := 0) hx hb dO_forget_1 ?_
  refine va_put (ci := 1) (v := .int (iI 0)) (ty := .int) (C := "WindingRaster$Outline") (T := TO) (N := 5) hx hb hts in_1 tO tO_ok nO hown hK hP hD hS 0 rfl rfl 3 (by decide) fl_21 (fun _ h9 => h9) rfl (by decide +kernel) rfl rfl (Nat.le_of_ble_eq_true rfl) dO_forget_2 (fun H locs hP hD hS => ?_)
  have hP : va_P D vwCl [(oo, .inr (1, [.ref ax, .ref ay, .ref an, .int (iI 0), .int (iI (l0 : Int))])), (ax, .inl (cA, 4096, .inl (iA fX))), (ay, .inl (cA, 4096, .inl (iA fY))), (an, .inl (cA, 4096, .inl (iA fN)))] H := hP
  have hD : va_D A [(oo, .inr (1, [.ref ax, .ref ay, .ref an, .int (iI 0), .int (iI (l0 : Int))])), (ax, .inl (cA, 4096, .inl (iA fX))), (ay, .inl (cA, 4096, .inl (iA fY))), (an, .inl (cA, 4096, .inl (iA fN)))] := hD
  refine lv_aload_n hx hb dO_forget_5 rfl (lv_at hl 0 rfl) ?_
  refine ii_iconst (n := 0) hx hb dO_forget_6 ?_
  refine va_put (ci := 1) (v := .int (iI 0)) (ty := .int) (C := "WindingRaster$Outline") (T := TO) (N := 5) hx hb hts in_1 tO tO_ok nO hown hK hP hD hS 0 rfl rfl 4 (by decide) fl_25 (fun _ h9 => h9) rfl (by decide +kernel) rfl rfl (Nat.le_of_ble_eq_true rfl) dO_forget_7 (fun H locs hP hD hS => ?_)
  have hP : va_P D vwCl [(oo, .inr (1, [.ref ax, .ref ay, .ref an, .int (iI 0), .int (iI 0)])), (ax, .inl (cA, 4096, .inl (iA fX))), (ay, .inl (cA, 4096, .inl (iA fY))), (an, .inl (cA, 4096, .inl (iA fN)))] H := hP
  have hD : va_D A [(oo, .inr (1, [.ref ax, .ref ay, .ref an, .int (iI 0), .int (iI 0)])), (ax, .inl (cA, 4096, .inl (iA fX))), (ay, .inl (cA, 4096, .inl (iA fY))), (an, .inl (cA, 4096, .inl (iA fN)))] := hD
  rw [← hQ]
  exact wr_vret () hx hb hr hlocks hAe (hP.sub [0, 1, 2, 3] rfl) (hD.sub [0, 1, 2, 3] (by decide) rfl) hS trivial dO_forget_10

def rm_c_centreOf : Room := { frames := 0, cells := 0, slots := 0, locals := 0 }
set_option maxHeartbeats 4000000 in
set_option maxRecDepth 100000 in
theorem c_centreOf (l : Launch) (D : va_G) (cA cB cS : ClassId) (kr : Nat) : Met l yO_centreOf wO_centreOf rm_c_centreOf (pR [.int (iI (kr : Int))] D vwCl (vwTy cA cB cS) vwNw []) (qI (fun z => z = ((kr * 65536 + 32768 : Nat) : Int))) 0 0 (fun _ => False) := by
  refine Met.ofW (cc := bO_centreOf) (maxL := 1) (ret := (some .int)) (by decide +kernel) rfl ?_
  intro p e s m args below meth c s₁ B hml hv
  obtain ⟨rfl, hP, hKW⟩ := hv
  have hK := hKW.1
  have hN := hKW.2.2
  have hx := B.exec
  have hb := B.bytes
  have hr := B.returns
  have hts := atoms_spec (ws := wO_centreOf) B.pre
  have hown : s.vm.findClass "WindingRaster$Outline" = some m.cls := findClass_of_methodNamed B.named
  have hlocks := B.notSynchronized
  have hP : va_P D vwCl [] s.heap := hP
  have kc_61 := (hts _ (List.mem_cons_of_mem _ vm_135))
  have hl := lv_entry ([.int (iI (kr : Int))]) (n := 1) (Nat.le_of_ble_eq_true rfl)
  rw [lg_entry_eq]
  generalize (lg_sl ([.int (iI (kr : Int))]) ++ List.replicate (1 - (lg_sl ([.int (iI (kr : Int))])).length) Slot.unset).toArray = ls at hl ⊢
  have hl : lv_has ls 1 [(0, .int (iI (kr : Int)))] := hl
  generalize hQ : MQ below (qI (fun z => z = ((kr * 65536 + 32768 : Nat) : Int))) [.int (iI (kr : Int))].toArray s 0 0 (fun _ => False) = QQ
  refine lv_iload_n hx hb dO_centreOf_0 rfl (lv_at hl 0 rfl) ?_
  refine ii_bipush (n := 16) hx hb dO_centreOf_1 (by decide +kernel) ?_
  refine ii_ishl (z := (kr : Int) * 65536) hx hb dO_centreOf_3 (iI_shl16 _) ?_
  refine ii_ldc (n := 32768) hx hb hown kc_61 dO_centreOf_4 (by decide +kernel) ?_
  refine ii_iadd hx hb dO_centreOf_6 ?_
  rw [← hQ]
  exact rd_iret hx hb hr hlocks (by omega) dO_centreOf_7

def rm_c_stepAt : Room := { frames := 0, cells := 0, slots := 0, locals := 0 }
set_option maxHeartbeats 4000000 in
set_option maxRecDepth 100000 in
theorem c_stepAt (l : Launch) (D : va_G) (cA cB cS : ClassId) (oo : Nat) (ax : Nat) (ay : Nat) (an : Nat) (fX : Nat → Int) (fY : Nat → Int) (fN : Nat → Int) (np : Nat) (l0 : Nat) (pi : Nat) (yy : Int) (nj : Nat) (h1 : pi < 4096) (h2 : nj < 4096) (h3 : fN pi = (nj : Int)) (h4 : i32 (fY pi)) (h5 : i32 (fY nj)) (h6 : i32 yy) : Met l yO_stepAt wO_stepAt rm_c_stepAt (pR [.ref oo, .int (iI (pi : Int)), .int (iI yy)] D vwCl (vwTy cA cB cS) vwNw [(oo, .inr (1, [.ref ax, .ref ay, .ref an, .int (iI (np : Int)), .int (iI (l0 : Int))])), (ax, .inl (cA, 4096, .inl (iA fX))), (ay, .inl (cA, 4096, .inl (iA fY))), (an, .inl (cA, 4096, .inl (iA fN)))]) (qI (fun z => z = stZ (fY pi) (fY nj) yy)) 0 0 (fun _ => False) := by
  refine Met.ofW (cc := bO_stepAt) (maxL := 5) (ret := (some .int)) (by decide +kernel) rfl ?_
  intro p e s m args below meth c s₁ B hml hv
  obtain ⟨rfl, hP, hKW⟩ := hv
  have hK := hKW.1
  have hN := hKW.2.2
  have hx := B.exec
  have hb := B.bytes
  have hr := B.returns
  have hts := atoms_spec (ws := wO_stepAt) B.pre
  have hown : s.vm.findClass "WindingRaster$Outline" = some m.cls := findClass_of_methodNamed B.named
  have hlocks := B.notSynchronized
  have hP : va_P D vwCl [(oo, .inr (1, [.ref ax, .ref ay, .ref an, .int (iI (np : Int)), .int (iI (l0 : Int))])), (ax, .inl (cA, 4096, .inl (iA fX))), (ay, .inl (cA, 4096, .inl (iA fY))), (an, .inl (cA, 4096, .inl (iA fN)))] s.heap := hP
  have in_1 : ∀ w ∈ wsO, w ∈ wO_stepAt := fun w h => List.mem_cons_of_mem _ (in0_O w h)
  have fl_15 := (hts _ (List.mem_cons_of_mem _ vm_33))
  have fl_18 := (hts _ (List.mem_cons_of_mem _ vm_34))
  have hl := lv_entry ([.ref oo, .int (iI (pi : Int)), .int (iI yy)]) (n := 5) (Nat.le_of_ble_eq_true rfl)
  rw [lg_entry_eq]
  generalize (lg_sl ([.ref oo, .int (iI (pi : Int)), .int (iI yy)]) ++ List.replicate (5 - (lg_sl ([.ref oo, .int (iI (pi : Int)), .int (iI yy)])).length) Slot.unset).toArray = ls at hl ⊢
  have hl : lv_has ls 5 [(0, .ref oo), (1, .int (iI (pi : Int))), (2, .int (iI yy))] := hl
  generalize hQ : MQ below (qI (fun z => z = stZ (fY pi) (fY nj) yy)) [.ref oo, .int (iI (pi : Int)), .int (iI yy)].toArray s 0 0 (fun _ => False) = QQ
  refine lv_aload_n hx hb dO_stepAt_0 rfl (lv_at hl 0 rfl) ?_
  refine va_get (ci := 1) (v := .ref ay) (C := "WindingRaster$Outline") (T := TO) (N := 5) hx hb hts in_1 hown hK hP 0 rfl rfl 1 (by decide) fl_15 (fun _ h9 => h9) rfl dO_stepAt_1 ?_
  refine lv_iload_n hx hb dO_stepAt_4 rfl (lv_at hl 1 rfl) ?_
  refine ii_iald hx hb hK hP 2 0 rfl rfl pi rfl (by omega) (by omega) dO_stepAt_5 ?_
  refine lv_istore_n (lv' := [(3, .int (iI (fY pi))), (0, .ref oo), (1, .int (iI (pi : Int))), (2, .int (iI yy))]) hx hb dO_stepAt_6 rfl hl (by decide) rfl (fun ls hl => ?_)
  refine lv_aload_n hx hb dO_stepAt_7 rfl (lv_at hl 1 rfl) ?_
  refine va_get (ci := 1) (v := .ref ay) (C := "WindingRaster$Outline") (T := TO) (N := 5) hx hb hts in_1 hown hK hP 0 rfl rfl 1 (by decide) fl_15 (fun _ h9 => h9) rfl dO_stepAt_8 ?_
  refine lv_aload_n hx hb dO_stepAt_11 rfl (lv_at hl 1 rfl) ?_
  refine va_get (ci := 1) (v := .ref an) (C := "WindingRaster$Outline") (T := TO) (N := 5) hx hb hts in_1 hown hK hP 0 rfl rfl 2 (by decide) fl_18 (fun _ h9 => h9) rfl dO_stepAt_12 ?_
  refine lv_iload_n hx hb dO_stepAt_15 rfl (lv_at hl 2 rfl) ?_
  refine ii_iald hx hb hK hP 3 0 rfl rfl pi rfl (by omega) (by omega) dO_stepAt_16 ?_
  refine ii_top (y := (nj : Int)) h3 ?_
  refine ii_iald hx hb hK hP 2 0 rfl rfl nj rfl (by omega) (by omega) dO_stepAt_17 ?_
  refine lv_istore (lv' := [(4, .int (iI (fY nj))), (3, .int (iI (fY pi))), (0, .ref oo), (1, .int (iI (pi : Int))), (2, .int (iI yy))]) hx hb dO_stepAt_18 hl (by decide) rfl (fun ls hl => ?_)
  refine lv_iload_n hx hb dO_stepAt_20 rfl (lv_at hl 1 rfl) ?_
  refine lv_iload_n hx hb dO_stepAt_21 rfl (lv_at hl 4 rfl) ?_
  refine ii_icmp_gt (tgt := 33) hx hb dO_stepAt_22 (by decide) (by omega) (by omega) (fun c22 => ?_) (fun c22 => ?_)
  · refine lv_iload hx hb dO_stepAt_33 (lv_at hl 0 rfl) ?_
    refine lv_iload_n hx hb dO_stepAt_35 rfl (lv_at hl 4 rfl) ?_
    refine ii_icmp_gt (tgt := 48) hx hb dO_stepAt_36 (by decide) (by omega) (by omega) (fun c36 => ?_) (fun c36 => ?_)
    · refine ii_iconst (n := 0) hx hb dO_stepAt_48 ?_
      rw [← hQ]
      exact rd_iret hx hb hr hlocks (by have h9 := stZ_cases (fY pi) (fY nj) yy; omega) dO_stepAt_49
    · refine lv_iload_n hx hb dO_stepAt_39 rfl (lv_at hl 4 rfl) ?_
      refine lv_iload_n hx hb dO_stepAt_40 rfl (lv_at hl 1 rfl) ?_
      refine ii_icmp_ge (tgt := 48) hx hb dO_stepAt_41 (by decide) (by omega) (by omega) (fun c41 => ?_) (fun c41 => ?_)
      · refine ii_iconst (n := 0) hx hb dO_stepAt_48 ?_
        rw [← hQ]
        exact rd_iret hx hb hr hlocks (by have h9 := stZ_cases (fY pi) (fY nj) yy; omega) dO_stepAt_49
      · refine ii_iconst (n := (-1)) hx hb dO_stepAt_44 ?_
        refine lv_goto (tgt := 49) hx hb dO_stepAt_45 (by decide) ?_
        rw [← hQ]
        exact rd_iret hx hb hr hlocks (by have h9 := stZ_cases (fY pi) (fY nj) yy; omega) dO_stepAt_49
  · refine lv_iload_n hx hb dO_stepAt_25 rfl (lv_at hl 4 rfl) ?_
    refine lv_iload hx hb dO_stepAt_26 (lv_at hl 0 rfl) ?_
    refine ii_icmp_ge (tgt := 33) hx hb dO_stepAt_28 (by decide) (by omega) (by omega) (fun c28 => ?_) (fun c28 => ?_)
    · refine lv_iload hx hb dO_stepAt_33 (lv_at hl 0 rfl) ?_
      refine lv_iload_n hx hb dO_stepAt_35 rfl (lv_at hl 4 rfl) ?_
      refine ii_icmp_gt (tgt := 48) hx hb dO_stepAt_36 (by decide) (by omega) (by omega) (fun c36 => ?_) (fun c36 => ?_)
      · refine ii_iconst (n := 0) hx hb dO_stepAt_48 ?_
        rw [← hQ]
        exact rd_iret hx hb hr hlocks (by have h9 := stZ_cases (fY pi) (fY nj) yy; omega) dO_stepAt_49
      · refine lv_iload_n hx hb dO_stepAt_39 rfl (lv_at hl 4 rfl) ?_
        refine lv_iload_n hx hb dO_stepAt_40 rfl (lv_at hl 1 rfl) ?_
        refine ii_icmp_ge (tgt := 48) hx hb dO_stepAt_41 (by decide) (by omega) (by omega) (fun c41 => ?_) (fun c41 => ?_)
        · refine ii_iconst (n := 0) hx hb dO_stepAt_48 ?_
          rw [← hQ]
          exact rd_iret hx hb hr hlocks (by have h9 := stZ_cases (fY pi) (fY nj) yy; omega) dO_stepAt_49
        · refine ii_iconst (n := (-1)) hx hb dO_stepAt_44 ?_
          refine lv_goto (tgt := 49) hx hb dO_stepAt_45 (by decide) ?_
          rw [← hQ]
          exact rd_iret hx hb hr hlocks (by have h9 := stZ_cases (fY pi) (fY nj) yy; omega) dO_stepAt_49
    · refine ii_iconst (n := 1) hx hb dO_stepAt_31 ?_
      rw [← hQ]
      exact rd_iret hx hb hr hlocks (by have h9 := stZ_cases (fY pi) (fY nj) yy; omega) dO_stepAt_32
end
section
def rm_c_floorDiv : Room := { frames := 0, cells := 0, slots := 0, locals := 0 }
set_option maxHeartbeats 4000000 in
set_option maxRecDepth 100000 in
theorem c_floorDiv (l : Launch) (D : va_G) (cA cB cS : ClassId) (x1 : Int) (x2 : Int) (h1 : -4611686018427387904 ≤ x1 ∧ x1 ≤ 4611686018427387904) (h2 : i64 x2) (h3 : ¬ x2 = 0) : Met l yJM_floorDiv wJM_floorDiv rm_c_floorDiv (pR [.long (lI x1), .long (lI x2)] D vwCl (vwTy cA cB cS) vwNw []) (qL (fun z => z = x1.fdiv x2)) 0 0 (fun _ => False) := by
  refine ofWJ (cc := bJM_floorDiv) (maxL := 6) (ret := (some .long)) (by decide +kernel) rfl ?_
  intro p e s m args below meth c s₁ B hml hv
  obtain ⟨rfl, hP, hKW⟩ := hv
  have hK := hKW.1
  have hN := hKW.2.2
  have hx := B.exec
  have hb := B.bytes
  have hr := B.returns
  have hts := atoms_spec (ws := wJM_floorDiv) B.pre
  have hown : s.vm.findClass "java/lang/Math" = some m.cls := findClass_of_methodNamed B.named
  have hlocks := B.notSynchronized
  have hP : va_P D vwCl [] s.heap := hP
  have hl := lv_entry ([.long (lI x1), .long (lI x2)]) (n := 6) (Nat.le_of_ble_eq_true rfl)
  rw [lg_entry_eq]
  generalize (lg_sl ([.long (lI x1), .long (lI x2)]) ++ List.replicate (6 - (lg_sl ([.long (lI x1), .long (lI x2)])).length) Slot.unset).toArray = ls at hl ⊢
  have hl : lv_has ls 6 [(0, .long (lI x1)), (2, .long (lI x2))] := hl
  generalize hQ : MQ below (qL (fun z => z = x1.fdiv x2)) [.long (lI x1), .long (lI x2)].toArray s 0 0 (fun _ => False) = QQ
  obtain ⟨fa1, fa2, fa3⟩ := fd_td (x := x1) (y := x2) h3
  have hb0 : (x1.tdiv x2).natAbs ≤ x1.natAbs := by rw [Int.natAbs_tdiv]; exact Nat.div_le_self _ _
  have hb1 : (x1.tdiv x2 * x2).natAbs ≤ x1.natAbs := by rw [Int.natAbs_mul, Int.natAbs_tdiv]; exact Nat.div_mul_le_self _ _
  refine lv_lload_n hx hb dJM_floorDiv_0 rfl (lv_at hl 0 rfl) ?_
  refine lv_lload_n hx hb dJM_floorDiv_1 rfl (lv_at hl 1 rfl) ?_
  refine ii_ldiv (z := x1.tdiv x2) hx hb dJM_floorDiv_2 (lI_ne0 (by omega) h3) (lI_tdiv (by omega) (by omega)) ?_
  refine lv_lstore (lv' := [(4, .long (lI (x1.tdiv x2))), (0, .long (lI x1)), (2, .long (lI x2))]) hx hb dJM_floorDiv_3 hl (by decide) rfl (fun ls hl => ?_)
  refine lv_lload_n hx hb dJM_floorDiv_5 rfl (lv_at hl 1 rfl) ?_
  refine lv_lload_n hx hb dJM_floorDiv_6 rfl (lv_at hl 2 rfl) ?_
  refine ii_lxor hx hb dJM_floorDiv_7 (by omega) (by omega) (fun zx_1 hzx_1 gzx_1 => ?_)
  refine ii_lconst (z := 0) hx hb dJM_floorDiv_8 (by decide +kernel) ?_
  refine ii_lcmp hx hb dJM_floorDiv_9 (by omega) (by omega) (fun zc_2 hzc_2 => ?_)
  refine ii_if_ge (tgt := 27) hx hb dJM_floorDiv_10 (by decide) (by omega) (fun c10 => ?_) (fun c10 => ?_)
  · refine lv_lload hx hb dJM_floorDiv_27 (lv_at hl 0 rfl) ?_
    rw [← hQ]
    exact rd_lret hx hb hr hlocks (by first | (rw [fa1 (by omega)]) | (rw [fa2 (by omega)])) dJM_floorDiv_29
  · refine lv_lload hx hb dJM_floorDiv_13 (lv_at hl 0 rfl) ?_
    refine lv_lload_n hx hb dJM_floorDiv_15 rfl (lv_at hl 2 rfl) ?_
    refine ii_lmul hx hb dJM_floorDiv_16 ?_
    refine lv_lload_n hx hb dJM_floorDiv_17 rfl (lv_at hl 1 rfl) ?_
    refine ii_lcmp hx hb dJM_floorDiv_18 (by omega) (by omega) (fun zc_3 hzc_3 => ?_)
    refine ii_if_eq (tgt := 27) hx hb dJM_floorDiv_19 (by decide) (by omega) (fun c19 => ?_) (fun c19 => ?_)
    · refine lv_lload hx hb dJM_floorDiv_27 (lv_at hl 0 rfl) ?_
      rw [← hQ]
      exact rd_lret hx hb hr hlocks (by first | (rw [fa1 (by omega)]) | (rw [fa2 (by omega)])) dJM_floorDiv_29
    · refine lv_lload hx hb dJM_floorDiv_22 (lv_at hl 0 rfl) ?_
      refine ii_lconst (z := 1) hx hb dJM_floorDiv_24 (by decide +kernel) ?_
      refine ii_lsub hx hb dJM_floorDiv_25 ?_
      rw [← hQ]
      exact rd_lret hx hb hr hlocks (by rw [fa3 (by omega) (by omega)]) dJM_floorDiv_26

def rm_c_afill : Room := { frames := 0, cells := 0, slots := 0, locals := 0 }
set_option maxHeartbeats 4000000 in
set_option maxRecDepth 100000 in
theorem c_afill (l : Launch) (D : va_G) (cA cB cS : ClassId) (fa : Nat) (fl : Nat) (fF : Nat → Int) (fv : Int) (h1 : fl < 2147483647) (sz : Nat) : Met l yJA_fill wJA_fill rm_c_afill (pW [.ref fa, .int (iI fv)] D vwCl (vwTy cA cB cS) vwNw [(fa, .inl (cA, fl, .inl (iA fF)))] sz) (qV (S := (Nat → Int)) (fun fG : (Nat → Int) => ∀ k, k < fl → fG k = fv) D vwCl [(fa, .inl (cA, fl, .inl (iA fF)))] sz (fun fG : (Nat → Int) => [(fa, .inl (cA, fl, .inl (iA fG)))])) 0 0 (va_A [(fa, .inl (cA, fl, .inl (iA fF)))] sz) := by
  refine ofWJ (cc := bJA_fill) (maxL := 4) (ret := none) (by decide +kernel) rfl ?_
  intro p e s m args below meth c s₁ B hml hv
  obtain ⟨rfl, hsz, hP, hKW, hD0⟩ := hv
  have hK := hKW.1
  have hN := hKW.2.2
  have hx := B.exec
  have hb := B.bytes
  have hr := B.returns
  have hts := atoms_spec (ws := wJA_fill) B.pre
  have hown : s.vm.findClass "java/util/Arrays" = some m.cls := findClass_of_methodNamed B.named
  have hlocks := B.notSynchronized
  subst hsz
  have hD := hD0.self (sz := s.heap.size)
  obtain ⟨A, hAe⟩ : ∃ A, va_A [(fa, .inl (cA, fl, .inl (iA fF)))] s.heap.size = A := ⟨_, rfl⟩
  rw [hAe] at hD
  have hA : ∀ q : Nat, s.heap.size ≤ q → A q := fun q h => by rw [← hAe]; exact Or.inr h
  have hS : va_S A s.heap s.heap [] := va_S.rf
  have hP : va_P D vwCl [(fa, .inl (cA, fl, .inl (iA fF)))] s.heap := hP
  have hl := lv_entry ([.ref fa, .int (iI fv)]) (n := 4) (Nat.le_of_ble_eq_true rfl)
  rw [lg_entry_eq]
  generalize (lg_sl ([.ref fa, .int (iI fv)]) ++ List.replicate (4 - (lg_sl ([.ref fa, .int (iI fv)])).length) Slot.unset).toArray = ls at hl ⊢
  have hl : lv_has ls 4 [(0, .ref fa), (1, .int (iI fv))] := hl
  generalize hQ : MQ below (qV (S := (Nat → Int)) (fun fG : (Nat → Int) => ∀ k, k < fl → fG k = fv) D vwCl [(fa, .inl (cA, fl, .inl (iA fF)))] s.heap.size (fun fG : (Nat → Int) => [(fa, .inl (cA, fl, .inl (iA fG)))])) [.ref fa, .int (iI fv)].toArray s 0 0 (va_A [(fa, .inl (cA, fl, .inl (iA fF)))] s.heap.size) = QQ
  refine ii_iconst (n := 0) hx hb dJA_fill_0 ?_
  refine lv_istore_n (lv' := [(2, .int (iI 0)), (0, .ref fa), (1, .int (iI fv))]) hx hb dJA_fill_1 rfl hl (by decide) rfl (fun ls hl => ?_)
  refine lv_aload_n hx hb dJA_fill_2 rfl (lv_at hl 1 rfl) ?_
  refine ii_alen hx hb hK hP 0 0 rfl rfl dJA_fill_3 ?_
  refine lv_istore_n (lv' := [(3, .int (iI (fl : Int))), (2, .int (iI 0)), (0, .ref fa), (1, .int (iI fv))]) hx hb dJA_fill_4 rfl hl (by decide) rfl (fun ls hl => ?_)
  have lp5 : ∀ (n_ : Nat) (i : Nat) (fJ : Nat → Int), (i ≤ fl) → (∀ k, k < i → fJ k = fv) → (fl - i) < n_ → ∀ (H : Heap) (locs : List Loc), va_P D vwCl [(fa, .inl (cA, fl, .inl (iA fJ)))] H → va_D A [(fa, .inl (cA, fl, .inl (iA fJ)))] → va_S A s.heap H locs → ∀ ls : Array Slot, lv_has ls 4 [(2, .int (iI (i : Int))), (3, .int (iI (fl : Int))), (0, .ref fa), (1, .int (iI fv))] → W p l e (headSpec wJA_fill rm_c_afill).room s m [.ref fa, .int (iI fv)].toArray below meth c H locs 0 0 QQ (F0 m 5 ls []) := by
    intro n_
    induction n_ with
    | zero =>
      intro i fJ i1 i2 hm_
      exact absurd hm_ (Nat.not_lt_zero _)
    | succ n_ ih_lp5 =>
      intro i fJ i1 i2 hm_lp5 H locs hP hD hS ls hl
      refine lv_iload_n hx hb dJA_fill_5 rfl (lv_at hl 0 rfl) ?_
      refine lv_iload_n hx hb dJA_fill_6 rfl (lv_at hl 1 rfl) ?_
      refine ii_icmp_ge (tgt := 20) hx hb dJA_fill_7 (by decide) (by omega) (by omega) (fun c7 => ?_) (fun c7 => ?_)
      · rw [← hQ]
        exact wr_vret fJ hx hb hr hlocks hAe (hP.sub [0] rfl) (hD.sub [0] (by decide) rfl) hS (fun k hk => i2 k (by omega)) dJA_fill_20
      · refine lv_aload_n hx hb dJA_fill_10 rfl (lv_at hl 2 rfl) ?_
        refine lv_iload_n hx hb dJA_fill_11 rfl (lv_at hl 0 rfl) ?_
        refine lv_iload_n hx hb dJA_fill_12 rfl (lv_at hl 3 rfl) ?_
        refine ii_iast hx hb hK hP hD hS 0 0 rfl rfl i rfl (by omega) (by omega) dJA_fill_13 (fun H locs hP hD hS => ?_)
        have hP : va_P D vwCl [(fa, .inl (cA, fl, .inl (iA (uZ fJ i fv))))] H := hP
        have hD : va_D A [(fa, .inl (cA, fl, .inl (iA (uZ fJ i fv))))] := hD
        refine lv_iinc (v := iI ((i + 1 : Nat) : Int)) (lv' := [(2, .int (iI ((i + 1 : Nat) : Int))), (3, .int (iI (fl : Int))), (0, .ref fa), (1, .int (iI fv))]) hx hb dJA_fill_14 hl (k := 0) rfl (iI_inc _ 1 (by omega)) (by decide) rfl (fun ls hl => ?_)
        refine lv_goto (tgt := 5) hx hb dJA_fill_17 (by decide) ?_
        exact ih_lp5 (i + 1) (uZ fJ i fv) (by omega) (fun k hk => by unfold uZ; split; (next h => rfl); (next h => exact i2 k (by omega))) (by omega) _ _ (hP.sub [0] rfl) (hD.sub [0] (by decide) rfl) hS _ (lv_sub hl [0, 1, 2, 3] rfl)
  exact lp5 (fl - 0 + 1) 0 fF (by omega) (fun k hk => absurd hk (Nat.not_lt_zero _)) (Nat.lt_succ_self _) _ _ (hP.sub [0] rfl) (hD.sub [0] (by decide) rfl) hS _ (lv_sub hl [1, 0, 2, 3] rfl)
end
section
def rm_c_firstColumn : Room := { frames := 1, cells := 0, slots := 0, locals := 25 }
set_option maxHeartbeats 4000000 in
set_option maxRecDepth 100000 in
theorem c_firstColumn (l : Launch) (D : va_G) (cA cB cS : ClassId) (oo : Nat) (ax : Nat) (ay : Nat) (an : Nat) (fX : Nat → Int) (fY : Nat → Int) (fN : Nat → Int) (np : Nat) (l0 : Nat) (pi : Nat) (yy : Int) (nj : Nat) (h1 : pi < 4096) (h2 : nj < 4096) (h3 : fN pi = (nj : Int)) (h4 : -536870912 ≤ fX pi ∧ fX pi ≤ 536870912) (h5 : -536870912 ≤ fY pi ∧ fY pi ≤ 536870912) (h6 : -536870912 ≤ fX nj ∧ fX nj ≤ 536870912) (h7 : -536870912 ≤ fY nj ∧ fY nj ≤ 536870912) (h8 : 0 ≤ yy ∧ yy ≤ 16842752) (h9 : (fY pi ≤ yy ∧ yy < fY nj) ∨ (fY nj ≤ yy ∧ yy < fY pi)) : Met l yO_firstColumn wO_firstColumn rm_c_firstColumn (pR [.ref oo, .int (iI (pi : Int)), .int (iI yy)] D vwCl (vwTy cA cB cS) vwNw [(oo, .inr (1, [.ref ax, .ref ay, .ref an, .int (iI (np : Int)), .int (iI (l0 : Int))])), (ax, .inl (cA, 4096, .inl (iA fX))), (ay, .inl (cA, 4096, .inl (iA fY))), (an, .inl (cA, 4096, .inl (iA fN)))]) (qI (fun z => z = coZ (fX pi) (fY pi) (fX nj) (fY nj) yy)) 0 0 (fun _ => False) := by
  refine Met.ofW (cc := bO_firstColumn) (maxL := 13) (ret := (some .int)) (by decide +kernel) rfl ?_
  intro p e s m args below meth c s₁ B hml hv
  obtain ⟨rfl, hP, hKW⟩ := hv
  have hK := hKW.1
  have hN := hKW.2.2
  have hx := B.exec
  have hb := B.bytes
  have hr := B.returns
  have hts := atoms_spec (ws := wO_firstColumn) B.pre
  have hown : s.vm.findClass "WindingRaster$Outline" = some m.cls := findClass_of_methodNamed B.named
  have hlocks := B.notSynchronized
  have hP : va_P D vwCl [(oo, .inr (1, [.ref ax, .ref ay, .ref an, .int (iI (np : Int)), .int (iI (l0 : Int))])), (ax, .inl (cA, 4096, .inl (iA fX))), (ay, .inl (cA, 4096, .inl (iA fY))), (an, .inl (cA, 4096, .inl (iA fN)))] s.heap := hP
  have in_1 : ∀ w ∈ wsO, w ∈ wO_firstColumn := fun w h => List.mem_cons_of_mem _ (in0_O w h)
  have fl_9 := (hts _ (List.mem_cons_of_mem _ vm_32))
  have fl_15 := (hts _ (List.mem_cons_of_mem _ vm_33))
  have fl_18 := (hts _ (List.mem_cons_of_mem _ vm_34))
  have kc_66 := (hts _ (List.mem_cons_of_mem _ vm_145))
  have hl := lv_entry ([.ref oo, .int (iI (pi : Int)), .int (iI yy)]) (n := 13) (Nat.le_of_ble_eq_true rfl)
  rw [lg_entry_eq]
  generalize (lg_sl ([.ref oo, .int (iI (pi : Int)), .int (iI yy)]) ++ List.replicate (13 - (lg_sl ([.ref oo, .int (iI (pi : Int)), .int (iI yy)])).length) Slot.unset).toArray = ls at hl ⊢
  have hl : lv_has ls 13 [(0, .ref oo), (1, .int (iI (pi : Int))), (2, .int (iI yy))] := hl
  generalize hQ : MQ below (qI (fun z => z = coZ (fX pi) (fY pi) (fX nj) (fY nj) yy)) [.ref oo, .int (iI (pi : Int)), .int (iI yy)].toArray s 0 0 (fun _ => False) = QQ
  have hq1 := coZ_rng h4 h6 h9
  unfold coZ at hq1
  have hq2 := prod_rng (u := -(fX nj - fX pi)) (v := yy - fY pi) (by omega) (by omega)
  refine lv_aload_n hx hb dO_firstColumn_0 rfl (lv_at hl 0 rfl) ?_
  refine va_get (ci := 1) (v := .ref ax) (C := "WindingRaster$Outline") (T := TO) (N := 5) hx hb hts in_1 hown hK hP 0 rfl rfl 0 (by decide) fl_9 (fun _ h9 => h9) rfl dO_firstColumn_1 ?_
  refine lv_iload_n hx hb dO_firstColumn_4 rfl (lv_at hl 1 rfl) ?_
  refine ii_iald hx hb hK hP 1 0 rfl rfl pi rfl (by omega) (by omega) dO_firstColumn_5 ?_
  refine ii_i2l hx hb dO_firstColumn_6 (by omega) ?_
  refine lv_lstore_n (lv' := [(3, .long (lI (fX pi))), (0, .ref oo), (1, .int (iI (pi : Int))), (2, .int (iI yy))]) hx hb dO_firstColumn_7 rfl hl (by decide) rfl (fun ls hl => ?_)
  refine lv_aload_n hx hb dO_firstColumn_8 rfl (lv_at hl 1 rfl) ?_
  refine va_get (ci := 1) (v := .ref ay) (C := "WindingRaster$Outline") (T := TO) (N := 5) hx hb hts in_1 hown hK hP 0 rfl rfl 1 (by decide) fl_15 (fun _ h9 => h9) rfl dO_firstColumn_9 ?_
  refine lv_iload_n hx hb dO_firstColumn_12 rfl (lv_at hl 2 rfl) ?_
  refine ii_iald hx hb hK hP 2 0 rfl rfl pi rfl (by omega) (by omega) dO_firstColumn_13 ?_
  refine ii_i2l hx hb dO_firstColumn_14 (by omega) ?_
  refine lv_lstore (lv' := [(5, .long (lI (fY pi))), (3, .long (lI (fX pi))), (0, .ref oo), (1, .int (iI (pi : Int))), (2, .int (iI yy))]) hx hb dO_firstColumn_15 hl (by decide) rfl (fun ls hl => ?_)
  refine lv_aload_n hx hb dO_firstColumn_17 rfl (lv_at hl 2 rfl) ?_
  refine va_get (ci := 1) (v := .ref ax) (C := "WindingRaster$Outline") (T := TO) (N := 5) hx hb hts in_1 hown hK hP 0 rfl rfl 0 (by decide) fl_9 (fun _ h9 => h9) rfl dO_firstColumn_18 ?_
  refine lv_aload_n hx hb dO_firstColumn_21 rfl (lv_at hl 2 rfl) ?_
  refine va_get (ci := 1) (v := .ref an) (C := "WindingRaster$Outline") (T := TO) (N := 5) hx hb hts in_1 hown hK hP 0 rfl rfl 2 (by decide) fl_18 (fun _ h9 => h9) rfl dO_firstColumn_22 ?_
  refine lv_iload_n hx hb dO_firstColumn_25 rfl (lv_at hl 3 rfl) ?_
  refine ii_iald hx hb hK hP 3 0 rfl rfl pi rfl (by omega) (by omega) dO_firstColumn_26 ?_
  refine ii_top (y := (nj : Int)) h3 ?_
  refine ii_iald hx hb hK hP 1 0 rfl rfl nj rfl (by omega) (by omega) dO_firstColumn_27 ?_
  refine ii_i2l hx hb dO_firstColumn_28 (by omega) ?_
  refine lv_lload_n hx hb dO_firstColumn_29 rfl (lv_at hl 1 rfl) ?_
  refine ii_lsub hx hb dO_firstColumn_30 ?_
  refine lv_lstore (lv' := [(7, .long (lI ((fX nj) - (fX pi)))), (5, .long (lI (fY pi))), (3, .long (lI (fX pi))), (0, .ref oo), (1, .int (iI (pi : Int))), (2, .int (iI yy))]) hx hb dO_firstColumn_31 hl (by decide) rfl (fun ls hl => ?_)
  refine lv_aload_n hx hb dO_firstColumn_33 rfl (lv_at hl 3 rfl) ?_
  refine va_get (ci := 1) (v := .ref ay) (C := "WindingRaster$Outline") (T := TO) (N := 5) hx hb hts in_1 hown hK hP 0 rfl rfl 1 (by decide) fl_15 (fun _ h9 => h9) rfl dO_firstColumn_34 ?_
  refine lv_aload_n hx hb dO_firstColumn_37 rfl (lv_at hl 3 rfl) ?_
  refine va_get (ci := 1) (v := .ref an) (C := "WindingRaster$Outline") (T := TO) (N := 5) hx hb hts in_1 hown hK hP 0 rfl rfl 2 (by decide) fl_18 (fun _ h9 => h9) rfl dO_firstColumn_38 ?_
  refine lv_iload_n hx hb dO_firstColumn_41 rfl (lv_at hl 4 rfl) ?_
  refine ii_iald hx hb hK hP 3 0 rfl rfl pi rfl (by omega) (by omega) dO_firstColumn_42 ?_
  refine ii_top (y := (nj : Int)) h3 ?_
  refine ii_iald hx hb hK hP 2 0 rfl rfl nj rfl (by omega) (by omega) dO_firstColumn_43 ?_
  refine ii_i2l hx hb dO_firstColumn_44 (by omega) ?_
  refine lv_lload hx hb dO_firstColumn_45 (lv_at hl 1 rfl) ?_
  refine ii_lsub hx hb dO_firstColumn_47 ?_
  refine lv_lstore (lv' := [(9, .long (lI ((fY nj) - (fY pi)))), (7, .long (lI ((fX nj) - (fX pi)))), (5, .long (lI (fY pi))), (3, .long (lI (fX pi))), (0, .ref oo), (1, .int (iI (pi : Int))), (2, .int (iI yy))]) hx hb dO_firstColumn_48 hl (by decide) rfl (fun ls hl => ?_)
  refine lv_lload hx hb dO_firstColumn_50 (lv_at hl 0 rfl) ?_
  refine ii_lconst (z := 0) hx hb dO_firstColumn_52 (by decide +kernel) ?_
  refine ii_lcmp hx hb dO_firstColumn_53 (by omega) (by omega) (fun zc_1 hzc_1 => ?_)
  refine ii_if_ne (tgt := 61) hx hb dO_firstColumn_54 (by decide) (by omega) (fun c54 => ?_) (fun c54 => ?_)
  · refine lv_lload_n hx hb dO_firstColumn_61 rfl (lv_at hl 3 rfl) ?_
    refine lv_lload hx hb dO_firstColumn_62 (lv_at hl 1 rfl) ?_
    refine ii_lneg hx hb dO_firstColumn_64 ?_
    refine lv_iload_n hx hb dO_firstColumn_65 rfl (lv_at hl 6 rfl) ?_
    refine ii_i2l hx hb dO_firstColumn_66 (by omega) ?_
    refine lv_lload hx hb dO_firstColumn_67 (lv_at hl 2 rfl) ?_
    refine ii_lsub hx hb dO_firstColumn_69 ?_
    refine ii_lmul hx hb dO_firstColumn_70 ?_
    refine lv_lload hx hb dO_firstColumn_71 (lv_at hl 0 rfl) ?_
    refine cs_l (va_runS (As := [.long (lI ((-((fX nj) - (fX pi))) * (yy - (fY pi)))), .long (lI ((fY nj) - (fY pi)))]) (rest := [.long (lI (fX pi))]) ⟨hx, hb, hml, hown, hts⟩ (c_floorDiv l D cA cB cS ((-((fX nj) - (fX pi))) * (yy - (fY pi))) ((fY nj) - (fY pi)) (by omega) (by omega) (by omega)) ⟨(callB_of 2 hts (gIn vm_144) rfl rfl rfl (hts _ (List.mem_cons_of_mem _ vm_2)) (hts _ (List.mem_cons_of_mem _ vm_142)) (by decide +kernel) ⟨Nat.le_of_ble_eq_true rfl, Nat.le_of_ble_eq_true rfl⟩), (hts _ (List.mem_cons_of_mem _ vm_143))⟩ (pR.pre (hP.sub [] rfl) hKW) rfl rfl hl.1 rfl (lv_room (Nat.le_of_ble_eq_true rfl)) dO_firstColumn_73 ⟨Nat.le_of_ble_eq_true rfl, Nat.le_of_ble_eq_true rfl⟩) (fun z_2 hz_2 => ?_)
    subst hz_2
    refine ii_lsub hx hb dO_firstColumn_76 ?_
    refine lv_lstore (lv' := [(11, .long (lI ((fX pi) - (((-((fX nj) - (fX pi))) * (yy - (fY pi))).fdiv ((fY nj) - (fY pi)))))), (9, .long (lI ((fY nj) - (fY pi)))), (7, .long (lI ((fX nj) - (fX pi)))), (5, .long (lI (fY pi))), (3, .long (lI (fX pi))), (0, .ref oo), (1, .int (iI (pi : Int))), (2, .int (iI yy))]) hx hb dO_firstColumn_77 hl (by decide) rfl (fun ls hl => ?_)
    refine lv_lload hx hb dO_firstColumn_79 (lv_at hl 0 rfl) ?_
    refine ii_ldc2 (n := 32768) hx hb hown kc_66 dO_firstColumn_81 (by decide +kernel) ?_
    refine ii_ladd hx hb dO_firstColumn_84 ?_
    refine ii_lconst (z := 1) hx hb dO_firstColumn_85 (by decide +kernel) ?_
    refine ii_lsub hx hb dO_firstColumn_86 ?_
    refine ii_bipush (n := 16) hx hb dO_firstColumn_87 (by decide +kernel) ?_
    refine ii_lshr (z := ((((fX pi) - (((-((fX nj) - (fX pi))) * (yy - (fY pi))).fdiv ((fY nj) - (fY pi)))) + 32768) - 1) / 65536) hx hb dO_firstColumn_89 (lI_shr16 (by omega)) ?_
    refine ii_l2i hx hb dO_firstColumn_90 ?_
    rw [← hQ]
    exact rd_iret hx hb hr hlocks (by unfold coZ; omega) dO_firstColumn_91
  · exfalso; omega

def rm_c_windingAt : Room := { frames := 2, cells := 0, slots := 0, locals := 57 }
set_option maxHeartbeats 4000000 in
set_option maxRecDepth 100000 in
theorem c_windingAt (l : Launch) (D : va_G) (cA cB cS : ClassId) (oo : Nat) (ax : Nat) (ay : Nat) (an : Nat) (fX : Nat → Int) (fY : Nat → Int) (fN : Nat → Int) (np : Nat) (l0 : Nat) (kc : Nat) (kr : Nat) (h1 : np ≤ 4096) (h2 : kr < 256) (h3 : kc < 256) (h5 : ∀ i, i < np → (-536870912 ≤ fX i ∧ fX i ≤ 536870912) ∧ (-536870912 ≤ fY i ∧ fY i ≤ 536870912)) (h6 : ∀ i, i < np → 0 ≤ fN i ∧ fN i < (np : Int)) : Met l yO_windingAt wO_windingAt rm_c_windingAt (pR [.ref oo, .int (iI (kc : Int)), .int (iI (kr : Int))] D vwCl (vwTy cA cB cS) vwNw [(oo, .inr (1, [.ref ax, .ref ay, .ref an, .int (iI (np : Int)), .int (iI (l0 : Int))])), (ax, .inl (cA, 4096, .inl (iA fX))), (ay, .inl (cA, 4096, .inl (iA fY))), (an, .inl (cA, 4096, .inl (iA fN)))]) (qI (fun z => z = wiZ fX fY fN np ((kr * 65536 + 32768 : Nat) : Int) (kc : Int))) 0 0 (fun _ => False) := by
  refine Met.ofW (cc := bO_windingAt) (maxL := 7) (ret := (some .int)) (by decide +kernel) rfl ?_
  intro p e s m args below meth c s₁ B hml hv
  obtain ⟨rfl, hP, hKW⟩ := hv
  have hK := hKW.1
  have hN := hKW.2.2
  have hx := B.exec
  have hb := B.bytes
  have hr := B.returns
  have hts := atoms_spec (ws := wO_windingAt) B.pre
  have hown : s.vm.findClass "WindingRaster$Outline" = some m.cls := findClass_of_methodNamed B.named
  have hlocks := B.notSynchronized
  have hP : va_P D vwCl [(oo, .inr (1, [.ref ax, .ref ay, .ref an, .int (iI (np : Int)), .int (iI (l0 : Int))])), (ax, .inl (cA, 4096, .inl (iA fX))), (ay, .inl (cA, 4096, .inl (iA fY))), (an, .inl (cA, 4096, .inl (iA fN)))] s.heap := hP
  have in_1 : ∀ w ∈ wsO, w ∈ wO_windingAt := fun w h => List.mem_cons_of_mem _ (in0_O w h)
  have fl_21 := (hts _ (List.mem_cons_of_mem _ vm_35))
  have hl := lv_entry ([.ref oo, .int (iI (kc : Int)), .int (iI (kr : Int))]) (n := 7) (Nat.le_of_ble_eq_true rfl)
  rw [lg_entry_eq]
  generalize (lg_sl ([.ref oo, .int (iI (kc : Int)), .int (iI (kr : Int))]) ++ List.replicate (7 - (lg_sl ([.ref oo, .int (iI (kc : Int)), .int (iI (kr : Int))])).length) Slot.unset).toArray = ls at hl ⊢
  have hl : lv_has ls 7 [(0, .ref oo), (1, .int (iI (kc : Int))), (2, .int (iI (kr : Int)))] := hl
  generalize hQ : MQ below (qI (fun z => z = wiZ fX fY fN np ((kr * 65536 + 32768 : Nat) : Int) (kc : Int))) [.ref oo, .int (iI (kc : Int)), .int (iI (kr : Int))].toArray s 0 0 (fun _ => False) = QQ
  refine lv_iload_n hx hb dO_windingAt_0 rfl (lv_at hl 2 rfl) ?_
  refine cs_i (va_runS (As := [.int (iI (kr : Int))]) (rest := []) ⟨hx, hb, hml, hown, hts⟩ (c_centreOf l D cA cB cS kr) ⟨(callB_of 1 hts (gIn vm_134) rfl rfl rfl (hts _ (List.mem_cons_of_mem _ vm_4)) (hts _ (List.mem_cons_of_mem _ vm_132)) (by decide +kernel) ⟨Nat.le_of_ble_eq_true rfl, Nat.le_of_ble_eq_true rfl⟩), (hts _ (List.mem_cons_of_mem _ vm_133))⟩ (pR.pre (hP.sub [] rfl) hKW) rfl rfl hl.1 rfl (lv_room (Nat.le_of_ble_eq_true rfl)) dO_windingAt_1 ⟨Nat.le_of_ble_eq_true rfl, Nat.le_of_ble_eq_true rfl⟩) (fun z_1 hz_1 => ?_)
  subst hz_1
  refine lv_istore_n (lv' := [(3, .int (iI ((kr * 65536 + 32768 : Nat) : Int))), (0, .ref oo), (1, .int (iI (kc : Int))), (2, .int (iI (kr : Int)))]) hx hb dO_windingAt_4 rfl hl (by decide) rfl (fun ls hl => ?_)
  refine ii_iconst (n := 0) hx hb dO_windingAt_5 ?_
  refine lv_istore (lv' := [(4, .int (iI 0)), (3, .int (iI ((kr * 65536 + 32768 : Nat) : Int))), (0, .ref oo), (1, .int (iI (kc : Int))), (2, .int (iI (kr : Int)))]) hx hb dO_windingAt_6 hl (by decide) rfl (fun ls hl => ?_)
  refine ii_iconst (n := 0) hx hb dO_windingAt_8 ?_
  refine lv_istore (lv' := [(5, .int (iI 0)), (4, .int (iI 0)), (3, .int (iI ((kr * 65536 + 32768 : Nat) : Int))), (0, .ref oo), (1, .int (iI (kc : Int))), (2, .int (iI (kr : Int)))]) hx hb dO_windingAt_9 hl (by decide) rfl (fun ls hl => ?_)
  have lp11 : ∀ (n_ : Nat) (i : Nat) (sm_ : Int), (i ≤ np) → (sm_ = wiZ fX fY fN i ((kr * 65536 + 32768 : Nat) : Int) (kc : Int)) → (np - i) < n_ → ∀ ls : Array Slot, lv_has ls 7 [(5, .int (iI (i : Int))), (4, .int (iI sm_)), (3, .int (iI ((kr * 65536 + 32768 : Nat) : Int))), (0, .ref oo), (1, .int (iI (kc : Int))), (2, .int (iI (kr : Int)))] → W p l e (headSpec wO_windingAt rm_c_windingAt).room s m [.ref oo, .int (iI (kc : Int)), .int (iI (kr : Int))].toArray below meth c s.heap [] 0 0 QQ (F0 m 11 ls []) := by
    intro n_
    induction n_ with
    | zero =>
      intro i sm_ i1 i2 hm_
      exact absurd hm_ (Nat.not_lt_zero _)
    | succ n_ ih_lp11 =>
      intro i sm_ i1 i2 hm_lp11 ls hl
      refine lv_iload hx hb dO_windingAt_11 (lv_at hl 0 rfl) ?_
      refine lv_aload_n hx hb dO_windingAt_13 rfl (lv_at hl 3 rfl) ?_
      refine va_get (ci := 1) (v := .int (iI (np : Int))) (C := "WindingRaster$Outline") (T := TO) (N := 5) hx hb hts in_1 hown hK hP 0 rfl rfl 3 (by decide) fl_21 (fun _ h9 => h9) rfl dO_windingAt_14 ?_
      refine ii_icmp_ge (tgt := 58) hx hb dO_windingAt_17 (by decide) (by omega) (by omega) (fun c17 => ?_) (fun c17 => ?_)
      · refine lv_iload hx hb dO_windingAt_58 (lv_at hl 1 rfl) ?_
        rw [← hQ]
        exact rd_iret hx hb hr hlocks (by rw [i2, show i = np by omega]) dO_windingAt_60
      · have g5 := h5 i (by omega)
        have g6 := h6 i (by omega)
        obtain ⟨nj, hnj⟩ : ∃ nj : Nat, fN i = (nj : Int) := ⟨(fN i).toNat, by omega⟩
        have g7 := h5 nj (by omega)
        have ej : (fN i).toNat = nj := by omega
        refine lv_aload_n hx hb dO_windingAt_20 rfl (lv_at hl 3 rfl) ?_
        refine lv_iload hx hb dO_windingAt_21 (lv_at hl 0 rfl) ?_
        refine lv_iload_n hx hb dO_windingAt_23 rfl (lv_at hl 2 rfl) ?_
        refine cs_i (va_runV (As := [.int (iI (i : Int)), .int (iI ((kr * 65536 + 32768 : Nat) : Int))]) (rest := []) ⟨hx, hb, hml, hown, hts⟩ (c_stepAt l D cA cB cS oo ax ay an fX fY fN np l0 i ((kr * 65536 + 32768 : Nat) : Int) nj (by omega) (by omega) hnj (by omega) (by omega) (by omega)) ⟨(callB_of 2 hts (gIn vm_138) rfl rfl rfl (hts _ (List.mem_cons_of_mem _ vm_4)) (hts _ (List.mem_cons_of_mem _ vm_136)) (by decide +kernel) ⟨Nat.le_of_ble_eq_true rfl, Nat.le_of_ble_eq_true rfl⟩), (hts _ (List.mem_cons_of_mem _ vm_137)), (hts _ (List.mem_cons_of_mem _ vm_392))⟩ (pR.preV (va_recv hK hP (ci := 1) (q0 := 0) rfl rfl) (hP.sub [0, 1, 2, 3] rfl) hKW) rfl rfl hl.1 rfl (lv_room (Nat.le_of_ble_eq_true rfl)) dO_windingAt_24 ⟨Nat.le_of_ble_eq_true rfl, Nat.le_of_ble_eq_true rfl⟩) (fun z_2 hz_2 => ?_)
        subst hz_2
        have g8 := stZ_cases (fY i) (fY nj) ((kr * 65536 + 32768 : Nat) : Int)
        refine lv_istore (lv' := [(6, .int (iI (stZ (fY i) (fY nj) ((kr * 65536 + 32768 : Nat) : Int)))), (5, .int (iI (i : Int))), (4, .int (iI sm_)), (3, .int (iI ((kr * 65536 + 32768 : Nat) : Int))), (0, .ref oo), (1, .int (iI (kc : Int))), (2, .int (iI (kr : Int)))]) hx hb dO_windingAt_27 hl (by decide) rfl (fun ls hl => ?_)
        refine lv_iload hx hb dO_windingAt_29 (lv_at hl 0 rfl) ?_
        refine ii_if_eq (tgt := 52) hx hb dO_windingAt_31 (by decide) (by omega) (fun c31 => ?_) (fun c31 => ?_)
        · refine lv_iinc (v := iI ((i + 1 : Nat) : Int)) (lv' := [(5, .int (iI ((i + 1 : Nat) : Int))), (6, .int (iI (stZ (fY i) (fY nj) ((kr * 65536 + 32768 : Nat) : Int)))), (4, .int (iI sm_)), (3, .int (iI ((kr * 65536 + 32768 : Nat) : Int))), (0, .ref oo), (1, .int (iI (kc : Int))), (2, .int (iI (kr : Int)))]) hx hb dO_windingAt_52 hl (k := 1) rfl (iI_inc _ 1 (by omega)) (by decide) rfl (fun ls hl => ?_)
          refine lv_goto (tgt := 11) hx hb dO_windingAt_55 (by decide) ?_
          exact ih_lp11 (i + 1) sm_ (by omega) (by have e1 := wiZ_succ fX fY fN i ((kr * 65536 + 32768 : Nat) : Int) (kc : Int); rw [ej] at e1; have e2 := ctZ_cases (fX i) (fY i) (fX nj) (fY nj) ((kr * 65536 + 32768 : Nat) : Int) (kc : Int); omega) (by omega) _ (lv_sub hl [0, 2, 3, 4, 5, 6] rfl)
        · refine lv_aload_n hx hb dO_windingAt_34 rfl (lv_at hl 4 rfl) ?_
          refine lv_iload hx hb dO_windingAt_35 (lv_at hl 1 rfl) ?_
          refine lv_iload_n hx hb dO_windingAt_37 rfl (lv_at hl 3 rfl) ?_
          refine cs_i (va_runV (As := [.int (iI (i : Int)), .int (iI ((kr * 65536 + 32768 : Nat) : Int))]) (rest := []) ⟨hx, hb, hml, hown, hts⟩ (c_firstColumn l D cA cB cS oo ax ay an fX fY fN np l0 i ((kr * 65536 + 32768 : Nat) : Int) nj (by omega) (by omega) hnj g5.1 g5.2 g7.1 g7.2 (by omega) (by have h8 := stZ_cases (fY i) (fY nj) ((kr * 65536 + 32768 : Nat) : Int); omega)) ⟨(callB_of 2 hts (gIn vm_141) rfl rfl rfl (hts _ (List.mem_cons_of_mem _ vm_4)) (hts _ (List.mem_cons_of_mem _ vm_139)) (by decide +kernel) ⟨Nat.le_of_ble_eq_true rfl, Nat.le_of_ble_eq_true rfl⟩), (hts _ (List.mem_cons_of_mem _ vm_140)), (hts _ (List.mem_cons_of_mem _ vm_393))⟩ (pR.preV (va_recv hK hP (ci := 1) (q0 := 0) rfl rfl) (hP.sub [0, 1, 2, 3] rfl) hKW) rfl rfl hl.1 rfl (lv_room (Nat.le_of_ble_eq_true rfl)) dO_windingAt_38 ⟨Nat.le_of_ble_eq_true rfl, Nat.le_of_ble_eq_true rfl⟩) (fun z_3 hz_3 => ?_)
          subst hz_3
          have g9 := coZ_rng (a := fX i) (b := fY i) (c := fX nj) (d := fY nj) (y := ((kr * 65536 + 32768 : Nat) : Int)) g5.1 g7.1 (by omega)
          refine lv_iload_n hx hb dO_windingAt_41 rfl (lv_at hl 5 rfl) ?_
          refine ii_icmp_gt (tgt := 52) hx hb dO_windingAt_42 (by decide) (by omega) (by omega) (fun c42 => ?_) (fun c42 => ?_)
          · refine lv_iinc (v := iI ((i + 1 : Nat) : Int)) (lv' := [(5, .int (iI ((i + 1 : Nat) : Int))), (6, .int (iI (stZ (fY i) (fY nj) ((kr * 65536 + 32768 : Nat) : Int)))), (4, .int (iI sm_)), (3, .int (iI ((kr * 65536 + 32768 : Nat) : Int))), (0, .ref oo), (1, .int (iI (kc : Int))), (2, .int (iI (kr : Int)))]) hx hb dO_windingAt_52 hl (k := 1) rfl (iI_inc _ 1 (by omega)) (by decide) rfl (fun ls hl => ?_)
            refine lv_goto (tgt := 11) hx hb dO_windingAt_55 (by decide) ?_
            exact ih_lp11 (i + 1) sm_ (by omega) (by have e1 := wiZ_succ fX fY fN i ((kr * 65536 + 32768 : Nat) : Int) (kc : Int); rw [ej] at e1; have e2 := ctZ_cases (fX i) (fY i) (fX nj) (fY nj) ((kr * 65536 + 32768 : Nat) : Int) (kc : Int); omega) (by omega) _ (lv_sub hl [0, 2, 3, 4, 5, 6] rfl)
          · refine lv_iload hx hb dO_windingAt_45 (lv_at hl 2 rfl) ?_
            refine lv_iload hx hb dO_windingAt_47 (lv_at hl 0 rfl) ?_
            refine ii_iadd hx hb dO_windingAt_49 ?_
            refine lv_istore (lv' := [(4, .int (iI (sm_ + (stZ (fY i) (fY nj) ((kr * 65536 + 32768 : Nat) : Int))))), (6, .int (iI (stZ (fY i) (fY nj) ((kr * 65536 + 32768 : Nat) : Int)))), (5, .int (iI (i : Int))), (3, .int (iI ((kr * 65536 + 32768 : Nat) : Int))), (0, .ref oo), (1, .int (iI (kc : Int))), (2, .int (iI (kr : Int)))]) hx hb dO_windingAt_50 hl (by decide) rfl (fun ls hl => ?_)
            refine lv_iinc (v := iI ((i + 1 : Nat) : Int)) (lv' := [(5, .int (iI ((i + 1 : Nat) : Int))), (4, .int (iI (sm_ + (stZ (fY i) (fY nj) ((kr * 65536 + 32768 : Nat) : Int))))), (6, .int (iI (stZ (fY i) (fY nj) ((kr * 65536 + 32768 : Nat) : Int)))), (3, .int (iI ((kr * 65536 + 32768 : Nat) : Int))), (0, .ref oo), (1, .int (iI (kc : Int))), (2, .int (iI (kr : Int)))]) hx hb dO_windingAt_52 hl (k := 2) rfl (iI_inc _ 1 (by omega)) (by decide) rfl (fun ls hl => ?_)
            refine lv_goto (tgt := 11) hx hb dO_windingAt_55 (by decide) ?_
            exact ih_lp11 (i + 1) (sm_ + (stZ (fY i) (fY nj) ((kr * 65536 + 32768 : Nat) : Int))) (by omega) (by have e1 := wiZ_succ fX fY fN i ((kr * 65536 + 32768 : Nat) : Int) (kc : Int); rw [ej] at e1; have e2 := ctZ_cases (fX i) (fY i) (fX nj) (fY nj) ((kr * 65536 + 32768 : Nat) : Int) (kc : Int); omega) (by omega) _ (lv_sub hl [0, 1, 3, 4, 5, 6] rfl)
  exact lp11 (np - 0 + 1) 0 0 (by omega) rfl (Nat.lt_succ_self _) _ (lv_sub hl [0, 1, 2, 3, 4, 5] rfl)

def rm_c_windRow : Room := { frames := 2, cells := 0, slots := 0, locals := 57 }
set_option maxHeartbeats 4000000 in
set_option maxRecDepth 100000 in
theorem c_windRow (l : Launch) (D : va_G) (cA cB cS : ClassId) (oo : Nat) (ax : Nat) (ay : Nat) (an : Nat) (fX : Nat → Int) (fY : Nat → Int) (fN : Nat → Int) (np : Nat) (l0 : Nat) (aw : Nat) (cs : Nat) (fW : Nat → Int) (kr : Nat) (h1 : np ≤ 4096) (h2 : kr < 256) (h3 : 0 < cs ∧ cs ≤ 256) (h5 : ∀ i, i < np → (-536870912 ≤ fX i ∧ fX i ≤ 536870912) ∧ (-536870912 ≤ fY i ∧ fY i ≤ 536870912)) (h6 : ∀ i, i < np → 0 ≤ fN i ∧ fN i < (np : Int)) (sz : Nat) : Met l yO_windRow wO_windRow rm_c_windRow (pW [.ref oo, .int (iI (kr : Int)), .ref aw] D vwCl (vwTy cA cB cS) vwNw [(oo, .inr (1, [.ref ax, .ref ay, .ref an, .int (iI (np : Int)), .int (iI (l0 : Int))])), (ax, .inl (cA, 4096, .inl (iA fX))), (ay, .inl (cA, 4096, .inl (iA fY))), (an, .inl (cA, 4096, .inl (iA fN))), (aw, .inl (cA, cs, .inl (iA fW)))] sz) (qW (S := (Nat → Int)) (fun (z : Int) (fG : (Nat → Int)) => (z = 0 ∨ z = 1) ∧ (∀ k, k < cs → fG k = wiZ fX fY fN np ((kr * 65536 + 32768 : Nat) : Int) (k : Int)) ∧ (z = 0 → ∀ k : Int, wiZ fX fY fN np ((kr * 65536 + 32768 : Nat) : Int) k = 0)) D vwCl [(oo, .inr (1, [.ref ax, .ref ay, .ref an, .int (iI (np : Int)), .int (iI (l0 : Int))])), (ax, .inl (cA, 4096, .inl (iA fX))), (ay, .inl (cA, 4096, .inl (iA fY))), (an, .inl (cA, 4096, .inl (iA fN))), (aw, .inl (cA, cs, .inl (iA fW)))] sz (fun fG : (Nat → Int) => [(oo, .inr (1, [.ref ax, .ref ay, .ref an, .int (iI (np : Int)), .int (iI (l0 : Int))])), (ax, .inl (cA, 4096, .inl (iA fX))), (ay, .inl (cA, 4096, .inl (iA fY))), (an, .inl (cA, 4096, .inl (iA fN))), (aw, .inl (cA, cs, .inl (iA fG)))])) 0 0 (va_A [(oo, .inr (1, [.ref ax, .ref ay, .ref an, .int (iI (np : Int)), .int (iI (l0 : Int))])), (ax, .inl (cA, 4096, .inl (iA fX))), (ay, .inl (cA, 4096, .inl (iA fY))), (an, .inl (cA, 4096, .inl (iA fN))), (aw, .inl (cA, cs, .inl (iA fW)))] sz) := by
  refine Met.ofW (cc := bO_windRow) (maxL := 8) (ret := (some .boolean)) (by decide +kernel) rfl ?_
  intro p e s m args below meth c s₁ B hml hv
  obtain ⟨rfl, hsz, hP, hKW, hD0⟩ := hv
  have hK := hKW.1
  have hN := hKW.2.2
  have hx := B.exec
  have hb := B.bytes
  have hr := B.returns
  have hts := atoms_spec (ws := wO_windRow) B.pre
  have hown : s.vm.findClass "WindingRaster$Outline" = some m.cls := findClass_of_methodNamed B.named
  have hlocks := B.notSynchronized
  subst hsz
  have hD := hD0.self (sz := s.heap.size)
  obtain ⟨A, hAe⟩ : ∃ A, va_A [(oo, .inr (1, [.ref ax, .ref ay, .ref an, .int (iI (np : Int)), .int (iI (l0 : Int))])), (ax, .inl (cA, 4096, .inl (iA fX))), (ay, .inl (cA, 4096, .inl (iA fY))), (an, .inl (cA, 4096, .inl (iA fN))), (aw, .inl (cA, cs, .inl (iA fW)))] s.heap.size = A := ⟨_, rfl⟩
  rw [hAe] at hD
  have hA : ∀ q : Nat, s.heap.size ≤ q → A q := fun q h => by rw [← hAe]; exact Or.inr h
  have hS : va_S A s.heap s.heap [] := va_S.rf
  have hP : va_P D vwCl [(oo, .inr (1, [.ref ax, .ref ay, .ref an, .int (iI (np : Int)), .int (iI (l0 : Int))])), (ax, .inl (cA, 4096, .inl (iA fX))), (ay, .inl (cA, 4096, .inl (iA fY))), (an, .inl (cA, 4096, .inl (iA fN))), (aw, .inl (cA, cs, .inl (iA fW)))] s.heap := hP
  have in_1 : ∀ w ∈ wsO, w ∈ wO_windRow := fun w h => List.mem_cons_of_mem _ (in0_O w h)
  have fl_21 := (hts _ (List.mem_cons_of_mem _ vm_35))
  have ml_56 := (hts _ (List.mem_cons_of_mem _ vm_166))
  have ms_max := (hts _ (List.mem_cons_of_mem _ vm_22))
  have mi_math := (hts _ (List.mem_cons_of_mem _ vm_2))
  have mc_max := (hts _ (List.mem_cons_of_mem _ vx_max))
  have hl := lv_entry ([.ref oo, .int (iI (kr : Int)), .ref aw]) (n := 8) (Nat.le_of_ble_eq_true rfl)
  rw [lg_entry_eq]
  generalize (lg_sl ([.ref oo, .int (iI (kr : Int)), .ref aw]) ++ List.replicate (8 - (lg_sl ([.ref oo, .int (iI (kr : Int)), .ref aw])).length) Slot.unset).toArray = ls at hl ⊢
  have hl : lv_has ls 8 [(0, .ref oo), (1, .int (iI (kr : Int))), (2, .ref aw)] := hl
  generalize hQ : MQ below (qW (S := (Nat → Int)) (fun (z : Int) (fG : (Nat → Int)) => (z = 0 ∨ z = 1) ∧ (∀ k, k < cs → fG k = wiZ fX fY fN np ((kr * 65536 + 32768 : Nat) : Int) (k : Int)) ∧ (z = 0 → ∀ k : Int, wiZ fX fY fN np ((kr * 65536 + 32768 : Nat) : Int) k = 0)) D vwCl [(oo, .inr (1, [.ref ax, .ref ay, .ref an, .int (iI (np : Int)), .int (iI (l0 : Int))])), (ax, .inl (cA, 4096, .inl (iA fX))), (ay, .inl (cA, 4096, .inl (iA fY))), (an, .inl (cA, 4096, .inl (iA fN))), (aw, .inl (cA, cs, .inl (iA fW)))] s.heap.size (fun fG : (Nat → Int) => [(oo, .inr (1, [.ref ax, .ref ay, .ref an, .int (iI (np : Int)), .int (iI (l0 : Int))])), (ax, .inl (cA, 4096, .inl (iA fX))), (ay, .inl (cA, 4096, .inl (iA fY))), (an, .inl (cA, 4096, .inl (iA fN))), (aw, .inl (cA, cs, .inl (iA fG)))])) [.ref oo, .int (iI (kr : Int)), .ref aw].toArray s 0 0 (va_A [(oo, .inr (1, [.ref ax, .ref ay, .ref an, .int (iI (np : Int)), .int (iI (l0 : Int))])), (ax, .inl (cA, 4096, .inl (iA fX))), (ay, .inl (cA, 4096, .inl (iA fY))), (an, .inl (cA, 4096, .inl (iA fN))), (aw, .inl (cA, cs, .inl (iA fW)))] s.heap.size) = QQ
  refine lv_iload_n hx hb dO_windRow_0 rfl (lv_at hl 1 rfl) ?_
  refine cs_i (va_runS (As := [.int (iI (kr : Int))]) (rest := []) ⟨hx, hb, hml, hown, hts⟩ (c_centreOf l D cA cB cS kr) ⟨(callB_of 1 hts (gIn vm_134) rfl rfl rfl (hts _ (List.mem_cons_of_mem _ vm_4)) (hts _ (List.mem_cons_of_mem _ vm_132)) (by decide +kernel) ⟨Nat.le_of_ble_eq_true rfl, Nat.le_of_ble_eq_true rfl⟩), (hts _ (List.mem_cons_of_mem _ vm_133))⟩ (pR.pre (hP.sub [] rfl) hKW) rfl rfl hl.1 rfl (lv_room (Nat.le_of_ble_eq_true rfl)) dO_windRow_1 ⟨Nat.le_of_ble_eq_true rfl, Nat.le_of_ble_eq_true rfl⟩) (fun z_1 hz_1 => ?_)
  subst hz_1
  refine lv_istore_n (lv' := [(3, .int (iI ((kr * 65536 + 32768 : Nat) : Int))), (0, .ref oo), (1, .int (iI (kr : Int))), (2, .ref aw)]) hx hb dO_windRow_4 rfl hl (by decide) rfl (fun ls hl => ?_)
  refine ii_iconst (n := 0) hx hb dO_windRow_5 ?_
  refine lv_istore (lv' := [(4, .int (iI 0)), (3, .int (iI ((kr * 65536 + 32768 : Nat) : Int))), (0, .ref oo), (1, .int (iI (kr : Int))), (2, .ref aw)]) hx hb dO_windRow_6 hl (by decide) rfl (fun ls hl => ?_)
  refine lv_aload_n hx hb dO_windRow_8 rfl (lv_at hl 4 rfl) ?_
  refine ii_iconst (n := 0) hx hb dO_windRow_9 ?_
  refine cw_v (wc := [(aw, .inl (cA, cs, .inl (iA fW)))]) (wr := [(oo, .inr (1, [.ref ax, .ref ay, .ref an, .int (iI (np : Int)), .int (iI (l0 : Int))])), (ax, .inl (cA, 4096, .inl (iA fX))), (ay, .inl (cA, 4096, .inl (iA fY))), (an, .inl (cA, 4096, .inl (iA fN)))]) hP hD hS hA [4] [0, 1, 2, 3] rfl rfl (by decide) (by decide) (va_runS (As := [.ref aw, .int (iI 0)]) (rest := []) ⟨hx, hb, hml, hown, hts⟩ (c_afill l D cA cB cS aw cs fW 0 (by omega) _) ⟨(callB_of 2 hts (gIn vm_26) rfl rfl rfl (hts _ (List.mem_cons_of_mem _ vm_3)) (hts _ (List.mem_cons_of_mem _ vm_165)) (by decide +kernel) ⟨Nat.le_of_ble_eq_true rfl, Nat.le_of_ble_eq_true rfl⟩), (hts _ (List.mem_cons_of_mem _ vm_25))⟩ (pW.pre (hP.sub [4] rfl) (hD.sub [4] (by decide) rfl) hKW) rfl rfl hl.1 rfl (lv_room (Nat.le_of_ble_eq_true rfl)) dO_windRow_10 ⟨Nat.le_of_ble_eq_true rfl, Nat.le_of_ble_eq_true rfl⟩) (fun u_2 H locs hzf hP hD hS => ?_)
  obtain ⟨fU, rfl⟩ : ∃ z_, z_ = u_2 := ⟨_, rfl⟩
  try dsimp only at hzf
  have hP : va_P D vwCl [(oo, .inr (1, [.ref ax, .ref ay, .ref an, .int (iI (np : Int)), .int (iI (l0 : Int))])), (ax, .inl (cA, 4096, .inl (iA fX))), (ay, .inl (cA, 4096, .inl (iA fY))), (an, .inl (cA, 4096, .inl (iA fN))), (aw, .inl (cA, cs, .inl (iA fU)))] H := hP
  have hD : va_D A [(oo, .inr (1, [.ref ax, .ref ay, .ref an, .int (iI (np : Int)), .int (iI (l0 : Int))])), (ax, .inl (cA, 4096, .inl (iA fX))), (ay, .inl (cA, 4096, .inl (iA fY))), (an, .inl (cA, 4096, .inl (iA fN))), (aw, .inl (cA, cs, .inl (iA fU)))] := hD
  have hfU := hzf
  refine ii_iconst (n := 0) hx hb dO_windRow_13 ?_
  refine lv_istore (lv' := [(5, .int (iI 0)), (4, .int (iI 0)), (3, .int (iI ((kr * 65536 + 32768 : Nat) : Int))), (0, .ref oo), (1, .int (iI (kr : Int))), (2, .ref aw)]) hx hb dO_windRow_14 hl (by decide) rfl (fun ls hl => ?_)
  have lp16 : ∀ (n_ : Nat) (i : Nat) (cr : Int) (fV : Nat → Int), (i ≤ np) → (cr = 0 ∨ cr = 1) → (∀ k : Nat, k < cs → sm fV (k + 1) = wiZ fX fY fN i ((kr * 65536 + 32768 : Nat) : Int) (k : Int)) → (cr = 0 → ∀ k : Int, wiZ fX fY fN i ((kr * 65536 + 32768 : Nat) : Int) k = 0) → (np - i) < n_ → ∀ (H : Heap) (locs : List Loc), va_P D vwCl [(oo, .inr (1, [.ref ax, .ref ay, .ref an, .int (iI (np : Int)), .int (iI (l0 : Int))])), (ax, .inl (cA, 4096, .inl (iA fX))), (ay, .inl (cA, 4096, .inl (iA fY))), (an, .inl (cA, 4096, .inl (iA fN))), (aw, .inl (cA, cs, .inl (iA fV)))] H → va_D A [(oo, .inr (1, [.ref ax, .ref ay, .ref an, .int (iI (np : Int)), .int (iI (l0 : Int))])), (ax, .inl (cA, 4096, .inl (iA fX))), (ay, .inl (cA, 4096, .inl (iA fY))), (an, .inl (cA, 4096, .inl (iA fN))), (aw, .inl (cA, cs, .inl (iA fV)))] → va_S A s.heap H locs → ∀ ls : Array Slot, lv_has ls 8 [(5, .int (iI (i : Int))), (4, .int (iI cr)), (3, .int (iI ((kr * 65536 + 32768 : Nat) : Int))), (0, .ref oo), (1, .int (iI (kr : Int))), (2, .ref aw)] → W p l e (headSpec wO_windRow rm_c_windRow).room s m [.ref oo, .int (iI (kr : Int)), .ref aw].toArray below meth c H locs 0 0 QQ (F0 m 16 ls []) := by
    intro n_
    induction n_ with
    | zero =>
      intro i cr fV i1 i2 i3 i4 hm_
      exact absurd hm_ (Nat.not_lt_zero _)
    | succ n_ ih_lp16 =>
      intro i cr fV i1 i2 i3 i4 hm_lp16 H locs hP hD hS ls hl
      refine lv_iload hx hb dO_windRow_16 (lv_at hl 0 rfl) ?_
      refine lv_aload_n hx hb dO_windRow_18 rfl (lv_at hl 3 rfl) ?_
      refine va_get (ci := 1) (v := .int (iI (np : Int))) (C := "WindingRaster$Outline") (T := TO) (N := 5) hx hb hts in_1 hown hK hP 0 rfl rfl 3 (by decide) fl_21 (fun _ h9 => h9) rfl dO_windRow_19 ?_
      refine ii_icmp_ge (tgt := 77) hx hb dO_windRow_22 (by decide) (by omega) (by omega) (fun c22 => ?_) (fun c22 => ?_)
      · refine ii_iconst (n := 1) hx hb dO_windRow_77 ?_
        refine lv_istore (lv' := [(5, .int (iI 1)), (4, .int (iI cr)), (3, .int (iI ((kr * 65536 + 32768 : Nat) : Int))), (0, .ref oo), (1, .int (iI (kr : Int))), (2, .ref aw)]) hx hb dO_windRow_78 hl (by decide) rfl (fun ls hl => ?_)
        have lp80 : ∀ (n_ : Nat) (j : Nat) (fV2 : Nat → Int), (1 ≤ j ∧ j ≤ cs) → (∀ k, k < j → fV2 k = sm fV (k + 1)) → (∀ k, j ≤ k → fV2 k = fV k) → (cs - j) < n_ → ∀ (H : Heap) (locs : List Loc), va_P D vwCl [(oo, .inr (1, [.ref ax, .ref ay, .ref an, .int (iI (np : Int)), .int (iI (l0 : Int))])), (ax, .inl (cA, 4096, .inl (iA fX))), (ay, .inl (cA, 4096, .inl (iA fY))), (an, .inl (cA, 4096, .inl (iA fN))), (aw, .inl (cA, cs, .inl (iA fV2)))] H → va_D A [(oo, .inr (1, [.ref ax, .ref ay, .ref an, .int (iI (np : Int)), .int (iI (l0 : Int))])), (ax, .inl (cA, 4096, .inl (iA fX))), (ay, .inl (cA, 4096, .inl (iA fY))), (an, .inl (cA, 4096, .inl (iA fN))), (aw, .inl (cA, cs, .inl (iA fV2)))] → va_S A s.heap H locs → ∀ ls : Array Slot, lv_has ls 8 [(5, .int (iI (j : Int))), (4, .int (iI cr)), (3, .int (iI ((kr * 65536 + 32768 : Nat) : Int))), (0, .ref oo), (1, .int (iI (kr : Int))), (2, .ref aw)] → W p l e (headSpec wO_windRow rm_c_windRow).room s m [.ref oo, .int (iI (kr : Int)), .ref aw].toArray below meth c H locs 0 0 QQ (F0 m 80 ls []) := by
          intro n_
          induction n_ with
          | zero =>
            intro j fV2 j1 j2 j3 hm_
            exact absurd hm_ (Nat.not_lt_zero _)
          | succ n_ ih_lp80 =>
            intro j fV2 j1 j2 j3 hm_lp80 H locs hP hD hS ls hl
            refine lv_iload hx hb dO_windRow_80 (lv_at hl 0 rfl) ?_
            refine lv_aload_n hx hb dO_windRow_82 rfl (lv_at hl 5 rfl) ?_
            refine ii_alen hx hb hK hP 4 0 rfl rfl dO_windRow_83 ?_
            refine ii_icmp_ge (tgt := 106) hx hb dO_windRow_84 (by decide) (by omega) (by omega) (fun c84 => ?_) (fun c84 => ?_)
            · refine lv_iload hx hb dO_windRow_106 (lv_at hl 1 rfl) ?_
              rw [← hQ]
              exact wr_zret fV2 hx hb hr hlocks (nar_b (by omega)) hAe (hP.sub [0, 1, 2, 3, 4] rfl) (hD.sub [0, 1, 2, 3, 4] (by decide) rfl) hS ⟨i2, fun k hk => by rw [j2 k (by omega), i3 k hk, show i = np by omega], fun h k => by have e3 := i4 h k; rw [show i = np by omega] at e3; exact e3⟩ dO_windRow_108
            · refine lv_aload_n hx hb dO_windRow_87 rfl (lv_at hl 5 rfl) ?_
              refine lv_iload hx hb dO_windRow_88 (lv_at hl 0 rfl) ?_
              refine lv_dup2_11 hx hb dO_windRow_90 rfl rfl ?_
              refine ii_iald hx hb hK hP 4 0 rfl rfl j rfl (by omega) (by omega) dO_windRow_91 ?_
              refine lv_aload_n hx hb dO_windRow_92 rfl (lv_at hl 5 rfl) ?_
              refine lv_iload hx hb dO_windRow_93 (lv_at hl 0 rfl) ?_
              refine ii_iconst (n := 1) hx hb dO_windRow_95 ?_
              refine ii_isub hx hb dO_windRow_96 ?_
              refine ii_iald hx hb hK hP 4 0 rfl rfl (j - 1) (by omega) (by omega) (by omega) dO_windRow_97 ?_
              refine ii_iadd hx hb dO_windRow_98 ?_
              refine ii_iast hx hb hK hP hD hS 4 0 rfl rfl j rfl (by omega) (by omega) dO_windRow_99 (fun H locs hP hD hS => ?_)
              have hP : va_P D vwCl [(oo, .inr (1, [.ref ax, .ref ay, .ref an, .int (iI (np : Int)), .int (iI (l0 : Int))])), (ax, .inl (cA, 4096, .inl (iA fX))), (ay, .inl (cA, 4096, .inl (iA fY))), (an, .inl (cA, 4096, .inl (iA fN))), (aw, .inl (cA, cs, .inl (iA (uZ fV2 j ((fV2 j) + (fV2 (j - 1)))))))] H := hP
              have hD : va_D A [(oo, .inr (1, [.ref ax, .ref ay, .ref an, .int (iI (np : Int)), .int (iI (l0 : Int))])), (ax, .inl (cA, 4096, .inl (iA fX))), (ay, .inl (cA, 4096, .inl (iA fY))), (an, .inl (cA, 4096, .inl (iA fN))), (aw, .inl (cA, cs, .inl (iA (uZ fV2 j ((fV2 j) + (fV2 (j - 1)))))))] := hD
              refine lv_iinc (v := iI ((j + 1 : Nat) : Int)) (lv' := [(5, .int (iI ((j + 1 : Nat) : Int))), (4, .int (iI cr)), (3, .int (iI ((kr * 65536 + 32768 : Nat) : Int))), (0, .ref oo), (1, .int (iI (kr : Int))), (2, .ref aw)]) hx hb dO_windRow_100 hl (k := 0) rfl (iI_inc _ 1 (by omega)) (by decide) rfl (fun ls hl => ?_)
              refine lv_goto (tgt := 80) hx hb dO_windRow_103 (by decide) ?_
              exact ih_lp80 (j + 1) (uZ fV2 j ((fV2 j) + (fV2 (j - 1)))) (by omega) (fun k hk => by unfold uZ; split; (next h => rw [h, j3 j (Nat.le_refl _), j2 (j - 1) (by omega), show j - 1 + 1 = j by omega]; show _ = sm fV j + fV j; omega); (next h => exact j2 k (by omega))) (fun k hk => by unfold uZ; rw [if_neg (by omega)]; exact j3 k (by omega)) (by omega) _ _ (hP.sub [0, 1, 2, 3, 4] rfl) (hD.sub [0, 1, 2, 3, 4] (by decide) rfl) hS _ (lv_sub hl [0, 1, 2, 3, 4, 5] rfl)
        exact lp80 (cs - 1 + 1) 1 fV (by omega) (fun k hk => by rw [show k = 0 by omega]; show fV 0 = 0 + fV 0; omega) (fun _ _ => rfl) (Nat.lt_succ_self _) _ _ (hP.sub [0, 1, 2, 3, 4] rfl) (hD.sub [0, 1, 2, 3, 4] (by decide) rfl) hS _ (lv_sub hl [0, 1, 2, 3, 4, 5] rfl)
      · have g5 := h5 i (by omega)
        have g6 := h6 i (by omega)
        obtain ⟨nj, hnj⟩ : ∃ nj : Nat, fN i = (nj : Int) := ⟨(fN i).toNat, by omega⟩
        have g7 := h5 nj (by omega)
        have ej : (fN i).toNat = nj := by omega
        refine lv_aload_n hx hb dO_windRow_25 rfl (lv_at hl 3 rfl) ?_
        refine lv_iload hx hb dO_windRow_26 (lv_at hl 0 rfl) ?_
        refine lv_iload_n hx hb dO_windRow_28 rfl (lv_at hl 2 rfl) ?_
        refine cs_i (va_runV (As := [.int (iI (i : Int)), .int (iI ((kr * 65536 + 32768 : Nat) : Int))]) (rest := []) ⟨hx, hb, hml, hown, hts⟩ (c_stepAt l D cA cB cS oo ax ay an fX fY fN np l0 i ((kr * 65536 + 32768 : Nat) : Int) nj (by omega) (by omega) hnj (by omega) (by omega) (by omega)) ⟨(callB_of 2 hts (gIn vm_138) rfl rfl rfl (hts _ (List.mem_cons_of_mem _ vm_4)) (hts _ (List.mem_cons_of_mem _ vm_136)) (by decide +kernel) ⟨Nat.le_of_ble_eq_true rfl, Nat.le_of_ble_eq_true rfl⟩), (hts _ (List.mem_cons_of_mem _ vm_137)), (hts _ (List.mem_cons_of_mem _ vm_392))⟩ (pR.preV (va_recv hK hP (ci := 1) (q0 := 0) rfl rfl) (hP.sub [0, 1, 2, 3] rfl) hKW) rfl rfl hl.1 rfl (lv_room (Nat.le_of_ble_eq_true rfl)) dO_windRow_29 ⟨Nat.le_of_ble_eq_true rfl, Nat.le_of_ble_eq_true rfl⟩) (fun z_3 hz_3 => ?_)
        subst hz_3
        have g8 := stZ_cases (fY i) (fY nj) ((kr * 65536 + 32768 : Nat) : Int)
        refine lv_istore (lv' := [(6, .int (iI (stZ (fY i) (fY nj) ((kr * 65536 + 32768 : Nat) : Int)))), (5, .int (iI (i : Int))), (4, .int (iI cr)), (3, .int (iI ((kr * 65536 + 32768 : Nat) : Int))), (0, .ref oo), (1, .int (iI (kr : Int))), (2, .ref aw)]) hx hb dO_windRow_32 hl (by decide) rfl (fun ls hl => ?_)
        refine lv_iload hx hb dO_windRow_34 (lv_at hl 0 rfl) ?_
        refine ii_if_eq (tgt := 71) hx hb dO_windRow_36 (by decide) (by omega) (fun c36 => ?_) (fun c36 => ?_)
        · refine lv_iinc (v := iI ((i + 1 : Nat) : Int)) (lv' := [(5, .int (iI ((i + 1 : Nat) : Int))), (6, .int (iI (stZ (fY i) (fY nj) ((kr * 65536 + 32768 : Nat) : Int)))), (4, .int (iI cr)), (3, .int (iI ((kr * 65536 + 32768 : Nat) : Int))), (0, .ref oo), (1, .int (iI (kr : Int))), (2, .ref aw)]) hx hb dO_windRow_71 hl (k := 1) rfl (iI_inc _ 1 (by omega)) (by decide) rfl (fun ls hl => ?_)
          refine lv_goto (tgt := 16) hx hb dO_windRow_74 (by decide) ?_
          exact ih_lp16 (i + 1) cr fV (by omega) (by omega) (fun k hk => by have e1 := wiZ_succ fX fY fN i ((kr * 65536 + 32768 : Nat) : Int) (k : Int); rw [ej] at e1; have e2 := ctZ_cases (fX i) (fY i) (fX nj) (fY nj) ((kr * 65536 + 32768 : Nat) : Int) (k : Int); have e3 := i3 k hk; omega) (fun h k => by have e1 := wiZ_succ fX fY fN i ((kr * 65536 + 32768 : Nat) : Int) k; rw [ej] at e1; have e2 := ctZ_cases (fX i) (fY i) (fX nj) (fY nj) ((kr * 65536 + 32768 : Nat) : Int) k; have e3 := i4 h k; omega) (by omega) _ _ (hP.sub [0, 1, 2, 3, 4] rfl) (hD.sub [0, 1, 2, 3, 4] (by decide) rfl) hS _ (lv_sub hl [0, 2, 3, 4, 5, 6] rfl)
        · refine ii_iconst (n := 1) hx hb dO_windRow_39 ?_
          refine lv_istore (lv' := [(4, .int (iI 1)), (6, .int (iI (stZ (fY i) (fY nj) ((kr * 65536 + 32768 : Nat) : Int)))), (5, .int (iI (i : Int))), (3, .int (iI ((kr * 65536 + 32768 : Nat) : Int))), (0, .ref oo), (1, .int (iI (kr : Int))), (2, .ref aw)]) hx hb dO_windRow_40 hl (by decide) rfl (fun ls hl => ?_)
          refine ii_iconst (n := 0) hx hb dO_windRow_42 ?_
          refine lv_aload_n hx hb dO_windRow_43 rfl (lv_at hl 4 rfl) ?_
          refine lv_iload hx hb dO_windRow_44 (lv_at hl 2 rfl) ?_
          refine lv_iload_n hx hb dO_windRow_46 rfl (lv_at hl 3 rfl) ?_
          refine cs_i (va_runV (As := [.int (iI (i : Int)), .int (iI ((kr * 65536 + 32768 : Nat) : Int))]) (rest := [.int (iI 0)]) ⟨hx, hb, hml, hown, hts⟩ (c_firstColumn l D cA cB cS oo ax ay an fX fY fN np l0 i ((kr * 65536 + 32768 : Nat) : Int) nj (by omega) (by omega) hnj g5.1 g5.2 g7.1 g7.2 (by omega) (by have h8 := stZ_cases (fY i) (fY nj) ((kr * 65536 + 32768 : Nat) : Int); omega)) ⟨(callB_of 2 hts (gIn vm_141) rfl rfl rfl (hts _ (List.mem_cons_of_mem _ vm_4)) (hts _ (List.mem_cons_of_mem _ vm_139)) (by decide +kernel) ⟨Nat.le_of_ble_eq_true rfl, Nat.le_of_ble_eq_true rfl⟩), (hts _ (List.mem_cons_of_mem _ vm_140)), (hts _ (List.mem_cons_of_mem _ vm_393))⟩ (pR.preV (va_recv hK hP (ci := 1) (q0 := 0) rfl rfl) (hP.sub [0, 1, 2, 3] rfl) hKW) rfl rfl hl.1 rfl (lv_room (Nat.le_of_ble_eq_true rfl)) dO_windRow_47 ⟨Nat.le_of_ble_eq_true rfl, Nat.le_of_ble_eq_true rfl⟩) (fun z_4 hz_4 => ?_)
          subst hz_4
          have g9 := coZ_rng (a := fX i) (b := fY i) (c := fX nj) (d := fY nj) (y := ((kr * 65536 + 32768 : Nat) : Int)) g5.1 g7.1 (by omega)
          refine ii_mmax hx hb (hml.trans hl.1.symm) hown ml_56 ms_max mi_math mc_max (Nat.le_of_ble_eq_true rfl) (Nat.le_of_ble_eq_true rfl) (Nat.le_of_ble_eq_true rfl) (Nat.le_of_ble_eq_true rfl) (by omega) (by omega) dO_windRow_50 ?_
          obtain ⟨q, hq⟩ : ∃ q : Nat, max 0 (coZ (fX i) (fY i) (fX nj) (fY nj) ((kr * 65536 + 32768 : Nat) : Int)) = (q : Int) := ⟨(max 0 (coZ (fX i) (fY i) (fX nj) (fY nj) ((kr * 65536 + 32768 : Nat) : Int))).toNat, by omega⟩
          refine ii_top (y := (q : Int)) hq ?_
          refine lv_istore (lv' := [(7, .int (iI (q : Int))), (4, .int (iI 1)), (6, .int (iI (stZ (fY i) (fY nj) ((kr * 65536 + 32768 : Nat) : Int)))), (5, .int (iI (i : Int))), (3, .int (iI ((kr * 65536 + 32768 : Nat) : Int))), (0, .ref oo), (1, .int (iI (kr : Int))), (2, .ref aw)]) hx hb dO_windRow_53 hl (by decide) rfl (fun ls hl => ?_)
          refine lv_iload hx hb dO_windRow_55 (lv_at hl 0 rfl) ?_
          refine lv_aload_n hx hb dO_windRow_57 rfl (lv_at hl 7 rfl) ?_
          refine ii_alen hx hb hK hP 4 0 rfl rfl dO_windRow_58 ?_
          refine ii_icmp_ge (tgt := 71) hx hb dO_windRow_59 (by decide) (by omega) (by omega) (fun c59 => ?_) (fun c59 => ?_)
          · refine lv_iinc (v := iI ((i + 1 : Nat) : Int)) (lv' := [(5, .int (iI ((i + 1 : Nat) : Int))), (7, .int (iI (q : Int))), (4, .int (iI 1)), (6, .int (iI (stZ (fY i) (fY nj) ((kr * 65536 + 32768 : Nat) : Int)))), (3, .int (iI ((kr * 65536 + 32768 : Nat) : Int))), (0, .ref oo), (1, .int (iI (kr : Int))), (2, .ref aw)]) hx hb dO_windRow_71 hl (k := 3) rfl (iI_inc _ 1 (by omega)) (by decide) rfl (fun ls hl => ?_)
            refine lv_goto (tgt := 16) hx hb dO_windRow_74 (by decide) ?_
            exact ih_lp16 (i + 1) 1 fV (by omega) (by omega) (fun k hk => by have e1 := wiZ_succ fX fY fN i ((kr * 65536 + 32768 : Nat) : Int) (k : Int); rw [ej] at e1; have e2 := ctZ_cases (fX i) (fY i) (fX nj) (fY nj) ((kr * 65536 + 32768 : Nat) : Int) (k : Int); have e3 := i3 k hk; omega) (fun h => absurd h (by decide)) (by omega) _ _ (hP.sub [0, 1, 2, 3, 4] rfl) (hD.sub [0, 1, 2, 3, 4] (by decide) rfl) hS _ (lv_sub hl [0, 2, 4, 5, 6, 7] rfl)
          · refine lv_aload_n hx hb dO_windRow_62 rfl (lv_at hl 7 rfl) ?_
            refine lv_iload hx hb dO_windRow_63 (lv_at hl 0 rfl) ?_
            refine lv_dup2_11 hx hb dO_windRow_65 rfl rfl ?_
            refine ii_iald hx hb hK hP 4 0 rfl rfl q rfl (by omega) (by omega) dO_windRow_66 ?_
            refine lv_iload hx hb dO_windRow_67 (lv_at hl 2 rfl) ?_
            refine ii_iadd hx hb dO_windRow_69 ?_
            refine ii_iast hx hb hK hP hD hS 4 0 rfl rfl q rfl (by omega) (by omega) dO_windRow_70 (fun H locs hP hD hS => ?_)
            have hP : va_P D vwCl [(oo, .inr (1, [.ref ax, .ref ay, .ref an, .int (iI (np : Int)), .int (iI (l0 : Int))])), (ax, .inl (cA, 4096, .inl (iA fX))), (ay, .inl (cA, 4096, .inl (iA fY))), (an, .inl (cA, 4096, .inl (iA fN))), (aw, .inl (cA, cs, .inl (iA (uZ fV q ((fV q) + (stZ (fY i) (fY nj) ((kr * 65536 + 32768 : Nat) : Int)))))))] H := hP
            have hD : va_D A [(oo, .inr (1, [.ref ax, .ref ay, .ref an, .int (iI (np : Int)), .int (iI (l0 : Int))])), (ax, .inl (cA, 4096, .inl (iA fX))), (ay, .inl (cA, 4096, .inl (iA fY))), (an, .inl (cA, 4096, .inl (iA fN))), (aw, .inl (cA, cs, .inl (iA (uZ fV q ((fV q) + (stZ (fY i) (fY nj) ((kr * 65536 + 32768 : Nat) : Int)))))))] := hD
            refine lv_iinc (v := iI ((i + 1 : Nat) : Int)) (lv' := [(5, .int (iI ((i + 1 : Nat) : Int))), (7, .int (iI (q : Int))), (4, .int (iI 1)), (6, .int (iI (stZ (fY i) (fY nj) ((kr * 65536 + 32768 : Nat) : Int)))), (3, .int (iI ((kr * 65536 + 32768 : Nat) : Int))), (0, .ref oo), (1, .int (iI (kr : Int))), (2, .ref aw)]) hx hb dO_windRow_71 hl (k := 3) rfl (iI_inc _ 1 (by omega)) (by decide) rfl (fun ls hl => ?_)
            refine lv_goto (tgt := 16) hx hb dO_windRow_74 (by decide) ?_
            exact ih_lp16 (i + 1) 1 (uZ fV q ((fV q) + (stZ (fY i) (fY nj) ((kr * 65536 + 32768 : Nat) : Int)))) (by omega) (by omega) (fun k hk => by have e1 := wiZ_succ fX fY fN i ((kr * 65536 + 32768 : Nat) : Int) (k : Int); rw [ej] at e1; have e2 := ctZ_cases (fX i) (fY i) (fX nj) (fY nj) ((kr * 65536 + 32768 : Nat) : Int) (k : Int); have e3 := i3 k hk; have e4 := sm_uZ fV q (stZ (fY i) (fY nj) ((kr * 65536 + 32768 : Nat) : Int)) (k + 1); split at e4 <;> omega) (fun h => absurd h (by decide)) (by omega) _ _ (hP.sub [0, 1, 2, 3, 4] rfl) (hD.sub [0, 1, 2, 3, 4] (by decide) rfl) hS _ (lv_sub hl [0, 2, 4, 5, 6, 7] rfl)
  exact lp16 (np - 0 + 1) 0 0 fU (by omega) (by omega) (fun k hk => by rw [sm_zero (fun j hj => hfU j (by omega))]; rfl) (fun _ _ => rfl) (Nat.lt_succ_self _) _ _ (hP.sub [0, 1, 2, 3, 4] rfl) (hD.sub [0, 1, 2, 3, 4] (by decide) rfl) hS _ (lv_sub hl [0, 1, 2, 3, 4, 5] rfl)
end
section
def rm_c_RunList_init : Room := { frames := 1, cells := 1, slots := 32768, locals := 21 }
set_option maxHeartbeats 4000000 in
set_option maxRecDepth 100000 in
theorem c_RunList_init (l : Launch) (D : va_G) (cA cB cS : ClassId) (pl : Nat) (rm0 : Nat) (h1 : rm0 ≤ 32768) (sz : Nat) : Met l yL_init wL_init rm_c_RunList_init (pW [.ref pl, .int (iI (rm0 : Int))] D vwCl (vwTy cA cB cS) vwNw [(pl, .inr (3, [.null, .int (iI 0)]))] sz) (qV (S := Nat) (fun ap : Nat => True) D vwCl [(pl, .inr (3, [.null, .int (iI 0)]))] sz (fun ap : Nat => [(pl, .inr (3, [.ref ap, .int (iI 0)])), (ap, .inl (cA, rm0, .inl (iA (fun _ => 0))))])) 1 32768 (va_A [(pl, .inr (3, [.null, .int (iI 0)]))] sz) := by
  refine Met.ofW (cc := bL_init) (maxL := 2) (ret := none) (by decide +kernel) rfl ?_
  intro p e s m args below meth c s₁ B hml hv
  obtain ⟨rfl, hsz, hP, hKW, hD0⟩ := hv
  have hK := hKW.1
  have hN := hKW.2.2
  have hx := B.exec
  have hb := B.bytes
  have hr := B.returns
  have hts := atoms_spec (ws := wL_init) B.pre
  have hown : s.vm.findClass "WindingRaster$RunList" = some m.cls := findClass_of_methodNamed B.named
  have hlocks := B.notSynchronized
  subst hsz
  have hD := hD0.self (sz := s.heap.size)
  obtain ⟨A, hAe⟩ : ∃ A, va_A [(pl, .inr (3, [.null, .int (iI 0)]))] s.heap.size = A := ⟨_, rfl⟩
  rw [hAe] at hD
  have hA : ∀ q : Nat, s.heap.size ≤ q → A q := fun q h => by rw [← hAe]; exact Or.inr h
  have hS : va_S A s.heap s.heap [] := va_S.rf
  have hP : va_P D vwCl [(pl, .inr (3, [.null, .int (iI 0)]))] s.heap := hP
  have ml_1 := (hts _ (List.mem_cons_of_mem _ vm_63))
  have oi_i := (hts _ (List.mem_cons_of_mem _ vm_16))
  have oi_c := (hts _ (List.mem_cons_of_mem _ vx_obj))
  have ml_7 := (hts _ (List.mem_cons_of_mem _ vm_64))
  have ms_max := (hts _ (List.mem_cons_of_mem _ vm_22))
  have mi_math := (hts _ (List.mem_cons_of_mem _ vm_2))
  have mc_max := (hts _ (List.mem_cons_of_mem _ vx_max))
  have hari := (hts _ (List.mem_cons_of_mem _ vm_42))
  have in_3 : ∀ w ∈ wsL, w ∈ wL_init := fun w h => List.mem_cons_of_mem _ (in0_L w h)
  have fl_13 := (hts _ (List.mem_cons_of_mem _ vm_65))
  have hin : meth.name = "<init>" := (name_of_methodNamed B.named B.method).1
  have hl := lv_entry ([.ref pl, .int (iI (rm0 : Int))]) (n := 2) (Nat.le_of_ble_eq_true rfl)
  rw [lg_entry_eq]
  generalize (lg_sl ([.ref pl, .int (iI (rm0 : Int))]) ++ List.replicate (2 - (lg_sl ([.ref pl, .int (iI (rm0 : Int))])).length) Slot.unset).toArray = ls at hl ⊢
  have hl : lv_has ls 2 [(0, .ref pl), (1, .int (iI (rm0 : Int)))] := hl
  generalize hQ : MQ below (qV (S := Nat) (fun ap : Nat => True) D vwCl [(pl, .inr (3, [.null, .int (iI 0)]))] s.heap.size (fun ap : Nat => [(pl, .inr (3, [.ref ap, .int (iI 0)])), (ap, .inl (cA, rm0, .inl (iA (fun _ => 0))))])) [.ref pl, .int (iI (rm0 : Int))].toArray s 1 32768 (va_A [(pl, .inr (3, [.null, .int (iI 0)]))] s.heap.size) = QQ
  refine lv_aload_n hx hb dL_init_0 rfl (lv_at hl 0 rfl) ?_
  refine W.objInit hx hb hown ml_1 oi_i oi_c rfl (by rw [hml]; exact hl.1) rfl dL_init_1 (Nat.le_of_ble_eq_true rfl) (Nat.le_of_ble_eq_true rfl) ?_
  refine W.eq (g2 := F0 m 4 ls []) rfl ?_
  refine lv_aload_n hx hb dL_init_4 rfl (lv_at hl 0 rfl) ?_
  refine ii_iconst (n := 0) hx hb dL_init_5 ?_
  refine lv_iload_n hx hb dL_init_6 rfl (lv_at hl 1 rfl) ?_
  refine ii_mmax hx hb (hml.trans hl.1.symm) hown ml_7 ms_max mi_math mc_max (Nat.le_of_ble_eq_true rfl) (Nat.le_of_ble_eq_true rfl) (Nat.le_of_ble_eq_true rfl) (Nat.le_of_ble_eq_true rfl) (by omega) (by omega) dL_init_7 ?_
  refine ii_top (y := (rm0 : Int)) (by omega) ?_
  refine ii_newa hx hb hari hK hP hD hS hA 0 rfl rm0 rfl (by omega) (by decide) (by show 0 + rm0 ≤ 32768; omega) dL_init_10 (fun ap H hP hD hS => ?_)
  refine W.widen (k := 1) (n := 32768) (by omega) (by omega) ?_
  have hP : va_P D vwCl [(pl, .inr (3, [.null, .int (iI 0)])), (ap, .inl (cA, rm0, .inl (iA (fun _ => 0))))] H := hP
  have hD : va_D A [(pl, .inr (3, [.null, .int (iI 0)])), (ap, .inl (cA, rm0, .inl (iA (fun _ => 0))))] := hD
  refine va_putF (ci := 3) (v := .ref ap) (ty := (.array .int)) (C := "WindingRaster$RunList") (T := TL) (N := 2) hx hb hts in_3 tL tL_ok nL hown hK hP hD hS 0 rfl rfl 0 (by decide) fl_13 (fun _ h9 => h9) rfl hin rfl (by decide +kernel) rfl rfl (Nat.le_of_ble_eq_true rfl) dL_init_12 (fun H locs hP hD hS => ?_)
  have hP : va_P D vwCl [(pl, .inr (3, [.ref ap, .int (iI 0)])), (ap, .inl (cA, rm0, .inl (iA (fun _ => 0))))] H := hP
  have hD : va_D A [(pl, .inr (3, [.ref ap, .int (iI 0)])), (ap, .inl (cA, rm0, .inl (iA (fun _ => 0))))] := hD
  rw [← hQ]
  exact wr_vret ap hx hb hr hlocks hAe (hP.sub [0, 1] rfl) (hD.sub [0, 1] (by decide) rfl) hS trivial dL_init_15

def rm_c_add : Room := { frames := 0, cells := 0, slots := 0, locals := 0 }
set_option maxHeartbeats 4000000 in
set_option maxRecDepth 100000 in
theorem c_add (l : Launch) (D : va_G) (cA cB cS : ClassId) (pl : Nat) (ap : Nat) (fP : Nat → Int) (pn : Nat) (pm : Nat) (rn : Nat) (h1 : pn < pm) (h2 : pm < 2147483648) (sz : Nat) : Met l yL_add wL_add rm_c_add (pW [.ref pl, .int (iI (rn : Int))] D vwCl (vwTy cA cB cS) vwNw [(pl, .inr (3, [.ref ap, .int (iI (pn : Int))])), (ap, .inl (cA, pm, .inl (iA fP)))] sz) (qV (S := Unit) (fun _ : Unit => True) D vwCl [(pl, .inr (3, [.ref ap, .int (iI (pn : Int))])), (ap, .inl (cA, pm, .inl (iA fP)))] sz (fun _ : Unit => [(pl, .inr (3, [.ref ap, .int (iI ((pn + 1 : Nat) : Int))])), (ap, .inl (cA, pm, .inl (iA (uZ fP pn (rn : Int)))))])) 0 0 (va_A [(pl, .inr (3, [.ref ap, .int (iI (pn : Int))])), (ap, .inl (cA, pm, .inl (iA fP)))] sz) := by
  refine Met.ofW (cc := bL_add) (maxL := 2) (ret := none) (by decide +kernel) rfl ?_
  intro p e s m args below meth c s₁ B hml hv
  obtain ⟨rfl, hsz, hP, hKW, hD0⟩ := hv
  have hK := hKW.1
  have hN := hKW.2.2
  have hx := B.exec
  have hb := B.bytes
  have hr := B.returns
  have hts := atoms_spec (ws := wL_add) B.pre
  have hown : s.vm.findClass "WindingRaster$RunList" = some m.cls := findClass_of_methodNamed B.named
  have hlocks := B.notSynchronized
  subst hsz
  have hD := hD0.self (sz := s.heap.size)
  obtain ⟨A, hAe⟩ : ∃ A, va_A [(pl, .inr (3, [.ref ap, .int (iI (pn : Int))])), (ap, .inl (cA, pm, .inl (iA fP)))] s.heap.size = A := ⟨_, rfl⟩
  rw [hAe] at hD
  have hA : ∀ q : Nat, s.heap.size ≤ q → A q := fun q h => by rw [← hAe]; exact Or.inr h
  have hS : va_S A s.heap s.heap [] := va_S.rf
  have hP : va_P D vwCl [(pl, .inr (3, [.ref ap, .int (iI (pn : Int))])), (ap, .inl (cA, pm, .inl (iA fP)))] s.heap := hP
  have in_3 : ∀ w ∈ wsL, w ∈ wL_add := fun w h => List.mem_cons_of_mem _ (in0_L w h)
  have fl_19 := (hts _ (List.mem_cons_of_mem _ vm_66))
  have fl_13 := (hts _ (List.mem_cons_of_mem _ vm_65))
  have hl := lv_entry ([.ref pl, .int (iI (rn : Int))]) (n := 2) (Nat.le_of_ble_eq_true rfl)
  rw [lg_entry_eq]
  generalize (lg_sl ([.ref pl, .int (iI (rn : Int))]) ++ List.replicate (2 - (lg_sl ([.ref pl, .int (iI (rn : Int))])).length) Slot.unset).toArray = ls at hl ⊢
  have hl : lv_has ls 2 [(0, .ref pl), (1, .int (iI (rn : Int)))] := hl
  generalize hQ : MQ below (qV (S := Unit) (fun _ : Unit => True) D vwCl [(pl, .inr (3, [.ref ap, .int (iI (pn : Int))])), (ap, .inl (cA, pm, .inl (iA fP)))] s.heap.size (fun _ : Unit => [(pl, .inr (3, [.ref ap, .int (iI ((pn + 1 : Nat) : Int))])), (ap, .inl (cA, pm, .inl (iA (uZ fP pn (rn : Int)))))])) [.ref pl, .int (iI (rn : Int))].toArray s 0 0 (va_A [(pl, .inr (3, [.ref ap, .int (iI (pn : Int))])), (ap, .inl (cA, pm, .inl (iA fP)))] s.heap.size) = QQ
  refine lv_aload_n hx hb dL_add_0 rfl (lv_at hl 0 rfl) ?_
  refine va_get (ci := 3) (v := .int (iI (pn : Int))) (C := "WindingRaster$RunList") (T := TL) (N := 2) hx hb hts in_3 hown hK hP 0 rfl rfl 1 (by decide) fl_19 (fun _ h9 => h9) rfl dL_add_1 ?_
  refine lv_aload_n hx hb dL_add_4 rfl (lv_at hl 0 rfl) ?_
  refine va_get (ci := 3) (v := .ref ap) (C := "WindingRaster$RunList") (T := TL) (N := 2) hx hb hts in_3 hown hK hP 0 rfl rfl 0 (by decide) fl_13 (fun _ h9 => h9) rfl dL_add_5 ?_
  refine ii_alen hx hb hK hP 1 0 rfl rfl dL_add_8 ?_
  refine ii_icmp_ge (tgt := 32) hx hb dL_add_9 (by decide) (by omega) (by omega) (fun c9 => ?_) (fun c9 => ?_)
  · exfalso; omega
  · refine lv_aload_n hx hb dL_add_12 rfl (lv_at hl 0 rfl) ?_
    refine va_get (ci := 3) (v := .ref ap) (C := "WindingRaster$RunList") (T := TL) (N := 2) hx hb hts in_3 hown hK hP 0 rfl rfl 0 (by decide) fl_13 (fun _ h9 => h9) rfl dL_add_13 ?_
    refine lv_aload_n hx hb dL_add_16 rfl (lv_at hl 0 rfl) ?_
    refine va_get (ci := 3) (v := .int (iI (pn : Int))) (C := "WindingRaster$RunList") (T := TL) (N := 2) hx hb hts in_3 hown hK hP 0 rfl rfl 1 (by decide) fl_19 (fun _ h9 => h9) rfl dL_add_17 ?_
    refine lv_iload_n hx hb dL_add_20 rfl (lv_at hl 1 rfl) ?_
    refine ii_iast hx hb hK hP hD hS 1 0 rfl rfl pn rfl (by omega) (by omega) dL_add_21 (fun H locs hP hD hS => ?_)
    have hP : va_P D vwCl [(pl, .inr (3, [.ref ap, .int (iI (pn : Int))])), (ap, .inl (cA, pm, .inl (iA (uZ fP pn (rn : Int)))))] H := hP
    have hD : va_D A [(pl, .inr (3, [.ref ap, .int (iI (pn : Int))])), (ap, .inl (cA, pm, .inl (iA (uZ fP pn (rn : Int)))))] := hD
    refine lv_aload_n hx hb dL_add_22 rfl (lv_at hl 0 rfl) ?_
    refine lv_dup hx hb dL_add_23 rfl ?_
    refine va_get (ci := 3) (v := .int (iI (pn : Int))) (C := "WindingRaster$RunList") (T := TL) (N := 2) hx hb hts in_3 hown hK hP 0 rfl rfl 1 (by decide) fl_19 (fun _ h9 => h9) rfl dL_add_24 ?_
    refine ii_iconst (n := 1) hx hb dL_add_27 ?_
    refine ii_iadd hx hb dL_add_28 ?_
    refine ii_top (y := ((pn + 1 : Nat) : Int)) (by push_cast; rfl) ?_
    refine va_put (ci := 3) (v := .int (iI ((pn + 1 : Nat) : Int))) (ty := .int) (C := "WindingRaster$RunList") (T := TL) (N := 2) hx hb hts in_3 tL tL_ok nL hown hK hP hD hS 0 rfl rfl 1 (by decide) fl_19 (fun _ h9 => h9) rfl (by decide +kernel) rfl rfl (Nat.le_of_ble_eq_true rfl) dL_add_29 (fun H locs hP hD hS => ?_)
    have hP : va_P D vwCl [(pl, .inr (3, [.ref ap, .int (iI ((pn + 1 : Nat) : Int))])), (ap, .inl (cA, pm, .inl (iA (uZ fP pn (rn : Int)))))] H := hP
    have hD : va_D A [(pl, .inr (3, [.ref ap, .int (iI ((pn + 1 : Nat) : Int))])), (ap, .inl (cA, pm, .inl (iA (uZ fP pn (rn : Int)))))] := hD
    rw [← hQ]
    exact wr_vret () hx hb hr hlocks hAe (hP.sub [0, 1] rfl) (hD.sub [0, 1] (by decide) rfl) hS trivial dL_add_32

def rm_c_ClipPile_init : Room := { frames := 1, cells := 2, slots := 24013, locals := 22 }
set_option maxHeartbeats 4000000 in
set_option maxRecDepth 100000 in
theorem c_ClipPile_init (l : Launch) (D : va_G) (cA cB cS : ClassId) (cp : Nat) (cs : Nat) (rs : Nat) (h1 : cs ≤ 256) (h2 : rs ≤ 256) (sz : Nat) : Met l yC_init wC_init rm_c_ClipPile_init (pW [.ref cp, .int (iI (cs : Int)), .int (iI (rs : Int))] D vwCl (vwTy cA cB cS) vwNw [(cp, .inr (2, [.null, .null, .int (iI 0), .int (iI 0)]))] sz) (qV (S := Nat × Nat × (Nat → Int)) (fun u : Nat × Nat × (Nat → Int) => ∀ k : Nat, k < rs → u.2.2 k = ((enc (k, 0, cs) : Nat) : Int)) D vwCl [(cp, .inr (2, [.null, .null, .int (iI 0), .int (iI 0)]))] sz (fun u : Nat × Nat × (Nat → Int) => [(cp, .inr (2, [.ref u.1, .ref u.2.1, .int (iI 0), .int (iI (rs : Int))])), (u.1, .inl (cA, 24000, .inl (iA u.2.2))), (u.2.1, .inl (cA, 13, .inl (iA (fun _ => 0))))])) 2 24013 (va_A [(cp, .inr (2, [.null, .null, .int (iI 0), .int (iI 0)]))] sz) := by
  refine Met.ofW (cc := bC_init) (maxL := 4) (ret := none) (by decide +kernel) rfl ?_
  intro p e s m args below meth c s₁ B hml hv
  obtain ⟨rfl, hsz, hP, hKW, hD0⟩ := hv
  have hK := hKW.1
  have hN := hKW.2.2
  have hx := B.exec
  have hb := B.bytes
  have hr := B.returns
  have hts := atoms_spec (ws := wC_init) B.pre
  have hown : s.vm.findClass "WindingRaster$ClipPile" = some m.cls := findClass_of_methodNamed B.named
  have hlocks := B.notSynchronized
  subst hsz
  have hD := hD0.self (sz := s.heap.size)
  obtain ⟨A, hAe⟩ : ∃ A, va_A [(cp, .inr (2, [.null, .null, .int (iI 0), .int (iI 0)]))] s.heap.size = A := ⟨_, rfl⟩
  rw [hAe] at hD
  have hA : ∀ q : Nat, s.heap.size ≤ q → A q := fun q h => by rw [← hAe]; exact Or.inr h
  have hS : va_S A s.heap s.heap [] := va_S.rf
  have hP : va_P D vwCl [(cp, .inr (2, [.null, .null, .int (iI 0), .int (iI 0)]))] s.heap := hP
  have ml_3 := (hts _ (List.mem_cons_of_mem _ vm_47))
  have oi_i := (hts _ (List.mem_cons_of_mem _ vm_16))
  have oi_c := (hts _ (List.mem_cons_of_mem _ vx_obj))
  have hari := (hts _ (List.mem_cons_of_mem _ vm_42))
  have in_2 : ∀ w ∈ wsC, w ∈ wC_init := fun w h => List.mem_cons_of_mem _ (in0_C w h)
  have fl_9 := (hts _ (List.mem_cons_of_mem _ vm_51))
  have hin : meth.name = "<init>" := (name_of_methodNamed B.named B.method).1
  have fl_15 := (hts _ (List.mem_cons_of_mem _ vm_52))
  have ml_24 := (hts _ (List.mem_cons_of_mem _ vm_50))
  have ms_min := (hts _ (List.mem_cons_of_mem _ vm_19))
  have mi_math := (hts _ (List.mem_cons_of_mem _ vm_2))
  have mc_min := (hts _ (List.mem_cons_of_mem _ vx_min))
  have fl_30 := (hts _ (List.mem_cons_of_mem _ vm_54))
  have hl := lv_entry ([.ref cp, .int (iI (cs : Int)), .int (iI (rs : Int))]) (n := 4) (Nat.le_of_ble_eq_true rfl)
  rw [lg_entry_eq]
  generalize (lg_sl ([.ref cp, .int (iI (cs : Int)), .int (iI (rs : Int))]) ++ List.replicate (4 - (lg_sl ([.ref cp, .int (iI (cs : Int)), .int (iI (rs : Int))])).length) Slot.unset).toArray = ls at hl ⊢
  have hl : lv_has ls 4 [(0, .ref cp), (1, .int (iI (cs : Int))), (2, .int (iI (rs : Int)))] := hl
  generalize hQ : MQ below (qV (S := Nat × Nat × (Nat → Int)) (fun u : Nat × Nat × (Nat → Int) => ∀ k : Nat, k < rs → u.2.2 k = ((enc (k, 0, cs) : Nat) : Int)) D vwCl [(cp, .inr (2, [.null, .null, .int (iI 0), .int (iI 0)]))] s.heap.size (fun u : Nat × Nat × (Nat → Int) => [(cp, .inr (2, [.ref u.1, .ref u.2.1, .int (iI 0), .int (iI (rs : Int))])), (u.1, .inl (cA, 24000, .inl (iA u.2.2))), (u.2.1, .inl (cA, 13, .inl (iA (fun _ => 0))))])) [.ref cp, .int (iI (cs : Int)), .int (iI (rs : Int))].toArray s 2 24013 (va_A [(cp, .inr (2, [.null, .null, .int (iI 0), .int (iI 0)]))] s.heap.size) = QQ
  refine lv_aload_n hx hb dC_init_0 rfl (lv_at hl 0 rfl) ?_
  refine W.objInit hx hb hown ml_3 oi_i oi_c rfl (by rw [hml]; exact hl.1) rfl dC_init_1 (Nat.le_of_ble_eq_true rfl) (Nat.le_of_ble_eq_true rfl) ?_
  refine W.eq (g2 := F0 m 4 ls []) rfl ?_
  refine lv_aload_n hx hb dC_init_4 rfl (lv_at hl 0 rfl) ?_
  refine ii_sipush (n := 24000) hx hb dC_init_5 (by decide +kernel) ?_
  refine ii_newa hx hb hari hK hP hD hS hA 0 rfl 24000 (by omega) (by omega) (by decide) (by decide) dC_init_8 (fun ai H hP hD hS => ?_)
  refine W.widen (k := 1) (n := 24000) (by omega) (by omega) ?_
  have hP : va_P D vwCl [(cp, .inr (2, [.null, .null, .int (iI 0), .int (iI 0)])), (ai, .inl (cA, 24000, .inl (iA (fun _ => 0))))] H := hP
  have hD : va_D A [(cp, .inr (2, [.null, .null, .int (iI 0), .int (iI 0)])), (ai, .inl (cA, 24000, .inl (iA (fun _ => 0))))] := hD
  refine va_putF (ci := 2) (v := .ref ai) (ty := (.array .int)) (C := "WindingRaster$ClipPile") (T := TC) (N := 4) hx hb hts in_2 tC tC_ok nC hown hK hP hD hS 0 rfl rfl 0 (by decide) fl_9 (fun _ h9 => h9) rfl hin rfl (by decide +kernel) rfl rfl (Nat.le_of_ble_eq_true rfl) dC_init_10 (fun H locs hP hD hS => ?_)
  have hP : va_P D vwCl [(cp, .inr (2, [.ref ai, .null, .int (iI 0), .int (iI 0)])), (ai, .inl (cA, 24000, .inl (iA (fun _ => 0))))] H := hP
  have hD : va_D A [(cp, .inr (2, [.ref ai, .null, .int (iI 0), .int (iI 0)])), (ai, .inl (cA, 24000, .inl (iA (fun _ => 0))))] := hD
  refine lv_aload_n hx hb dC_init_13 rfl (lv_at hl 0 rfl) ?_
  refine ii_bipush (n := 13) hx hb dC_init_14 (by decide +kernel) ?_
  refine ii_newa hx hb hari hK hP hD hS hA 0 rfl 13 (by omega) (by omega) (by decide) (by decide) dC_init_16 (fun at_ H hP hD hS => ?_)
  refine W.widen (k := 2) (n := 24013) (by omega) (by omega) ?_
  have hP : va_P D vwCl [(cp, .inr (2, [.ref ai, .null, .int (iI 0), .int (iI 0)])), (ai, .inl (cA, 24000, .inl (iA (fun _ => 0)))), (at_, .inl (cA, 13, .inl (iA (fun _ => 0))))] H := hP
  have hD : va_D A [(cp, .inr (2, [.ref ai, .null, .int (iI 0), .int (iI 0)])), (ai, .inl (cA, 24000, .inl (iA (fun _ => 0)))), (at_, .inl (cA, 13, .inl (iA (fun _ => 0))))] := hD
  refine va_putF (ci := 2) (v := .ref at_) (ty := (.array .int)) (C := "WindingRaster$ClipPile") (T := TC) (N := 4) hx hb hts in_2 tC tC_ok nC hown hK hP hD hS 0 rfl rfl 1 (by decide) fl_15 (fun _ h9 => h9) rfl hin rfl (by decide +kernel) rfl rfl (Nat.le_of_ble_eq_true rfl) dC_init_18 (fun H locs hP hD hS => ?_)
  have hP : va_P D vwCl [(cp, .inr (2, [.ref ai, .ref at_, .int (iI 0), .int (iI 0)])), (ai, .inl (cA, 24000, .inl (iA (fun _ => 0)))), (at_, .inl (cA, 13, .inl (iA (fun _ => 0))))] H := hP
  have hD : va_D A [(cp, .inr (2, [.ref ai, .ref at_, .int (iI 0), .int (iI 0)])), (ai, .inl (cA, 24000, .inl (iA (fun _ => 0)))), (at_, .inl (cA, 13, .inl (iA (fun _ => 0))))] := hD
  refine ii_iconst (n := 0) hx hb dC_init_21 ?_
  refine lv_istore_n (lv' := [(3, .int (iI 0)), (0, .ref cp), (1, .int (iI (cs : Int))), (2, .int (iI (rs : Int)))]) hx hb dC_init_22 rfl hl (by decide) rfl (fun ls hl => ?_)
  have lp23 : ∀ (n_ : Nat) (i : Nat) (fJ : Nat → Int), (i ≤ rs) → (∀ k : Nat, k < i → fJ k = ((enc (k, 0, cs) : Nat) : Int)) → (rs - i) < n_ → ∀ (H : Heap) (locs : List Loc), va_P D vwCl [(cp, .inr (2, [.ref ai, .ref at_, .int (iI 0), .int (iI 0)])), (ai, .inl (cA, 24000, .inl (iA fJ))), (at_, .inl (cA, 13, .inl (iA (fun _ => 0))))] H → va_D A [(cp, .inr (2, [.ref ai, .ref at_, .int (iI 0), .int (iI 0)])), (ai, .inl (cA, 24000, .inl (iA fJ))), (at_, .inl (cA, 13, .inl (iA (fun _ => 0))))] → va_S A s.heap H locs → ∀ ls : Array Slot, lv_has ls 4 [(3, .int (iI (i : Int))), (0, .ref cp), (1, .int (iI (cs : Int))), (2, .int (iI (rs : Int)))] → W p l e (headSpec wC_init rm_c_ClipPile_init).room s m [.ref cp, .int (iI (cs : Int)), .int (iI (rs : Int))].toArray below meth c H locs 2 24013 QQ (F0 m 23 ls []) := by
    intro n_
    induction n_ with
    | zero =>
      intro i fJ i1 i2 hm_
      exact absurd hm_ (Nat.not_lt_zero _)
    | succ n_ ih_lp23 =>
      intro i fJ i1 i2 hm_lp23 H locs hP hD hS ls hl
      refine lv_iload_n hx hb dC_init_23 rfl (lv_at hl 0 rfl) ?_
      refine lv_iload_n hx hb dC_init_24 rfl (lv_at hl 3 rfl) ?_
      refine ii_icmp_ge (tgt := 53) hx hb dC_init_25 (by decide) (by omega) (by omega) (fun c25 => ?_) (fun c25 => ?_)
      · refine lv_aload_n hx hb dC_init_53 rfl (lv_at hl 1 rfl) ?_
        refine lv_iload_n hx hb dC_init_54 rfl (lv_at hl 3 rfl) ?_
        refine ii_sipush (n := 24000) hx hb dC_init_55 (by decide +kernel) ?_
        refine ii_mmin hx hb (hml.trans hl.1.symm) hown ml_24 ms_min mi_math mc_min (Nat.le_of_ble_eq_true rfl) (Nat.le_of_ble_eq_true rfl) (Nat.le_of_ble_eq_true rfl) (Nat.le_of_ble_eq_true rfl) (by omega) (by omega) dC_init_58 ?_
        refine ii_top (y := (rs : Int)) (by omega) ?_
        refine va_put (ci := 2) (v := .int (iI (rs : Int))) (ty := .int) (C := "WindingRaster$ClipPile") (T := TC) (N := 4) hx hb hts in_2 tC tC_ok nC hown hK hP hD hS 0 rfl rfl 3 (by decide) fl_30 (fun _ h9 => h9) rfl (by decide +kernel) rfl rfl (Nat.le_of_ble_eq_true rfl) dC_init_61 (fun H locs hP hD hS => ?_)
        have hP : va_P D vwCl [(cp, .inr (2, [.ref ai, .ref at_, .int (iI 0), .int (iI (rs : Int))])), (ai, .inl (cA, 24000, .inl (iA fJ))), (at_, .inl (cA, 13, .inl (iA (fun _ => 0))))] H := hP
        have hD : va_D A [(cp, .inr (2, [.ref ai, .ref at_, .int (iI 0), .int (iI (rs : Int))])), (ai, .inl (cA, 24000, .inl (iA fJ))), (at_, .inl (cA, 13, .inl (iA (fun _ => 0))))] := hD
        rw [← hQ]
        exact wr_vret (ai, at_, fJ) hx hb hr hlocks hAe (hP.sub [0, 1, 2] rfl) (hD.sub [0, 1, 2] (by decide) rfl) hS (fun k hk => i2 k (by omega)) dC_init_64
      · refine lv_iload_n hx hb dC_init_28 rfl (lv_at hl 0 rfl) ?_
        refine ii_sipush (n := 24000) hx hb dC_init_29 (by decide +kernel) ?_
        refine ii_icmp_ge (tgt := 53) hx hb dC_init_32 (by decide) (by omega) (by omega) (fun c32 => ?_) (fun c32 => ?_)
        · exfalso; omega
        · refine lv_aload_n hx hb dC_init_35 rfl (lv_at hl 1 rfl) ?_
          refine va_get (ci := 2) (v := .ref ai) (C := "WindingRaster$ClipPile") (T := TC) (N := 4) hx hb hts in_2 hown hK hP 0 rfl rfl 0 (by decide) fl_9 (fun _ h9 => h9) rfl dC_init_36 ?_
          refine lv_iload_n hx hb dC_init_39 rfl (lv_at hl 0 rfl) ?_
          refine lv_iload_n hx hb dC_init_40 rfl (lv_at hl 0 rfl) ?_
          refine ii_iconst (n := 0) hx hb dC_init_41 ?_
          refine lv_iload_n hx hb dC_init_42 rfl (lv_at hl 2 rfl) ?_
          refine cs_i (va_runSN (As := [.int (iI (i : Int)), .int (iI 0), .int (iI (cs : Int))]) (rest := [.int (iI (i : Int)), .ref ai]) ⟨hx, hb, hml, hown, hts⟩ (c_of l D cA cB cS i 0 cs (by omega) (by omega) (by omega)) ⟨(va_cnB 3 hts (gIn vm_49) rfl rfl rfl (hN _ vn_3) (hts _ (List.mem_cons_of_mem _ vm_6)) (by decide +kernel) ⟨Nat.le_of_ble_eq_true rfl, Nat.le_of_ble_eq_true rfl⟩), (hts _ (List.mem_cons_of_mem _ vm_48)), trivial⟩ (pR.pre (hP.sub [] rfl) hKW) rfl rfl hl.1 rfl (lv_room (Nat.le_of_ble_eq_true rfl)) dC_init_43 ⟨Nat.le_of_ble_eq_true rfl, Nat.le_of_ble_eq_true rfl⟩) (fun z_1 hz_1 => ?_)
          subst hz_1
          refine ii_iast hx hb hK hP hD hS 1 0 rfl rfl i rfl (by omega) (by omega) dC_init_46 (fun H locs hP hD hS => ?_)
          have hP : va_P D vwCl [(cp, .inr (2, [.ref ai, .ref at_, .int (iI 0), .int (iI 0)])), (ai, .inl (cA, 24000, .inl (iA (uZ fJ i ((i * 262144 + 0 * 512 + cs : Nat) : Int))))), (at_, .inl (cA, 13, .inl (iA (fun _ => 0))))] H := hP
          have hD : va_D A [(cp, .inr (2, [.ref ai, .ref at_, .int (iI 0), .int (iI 0)])), (ai, .inl (cA, 24000, .inl (iA (uZ fJ i ((i * 262144 + 0 * 512 + cs : Nat) : Int))))), (at_, .inl (cA, 13, .inl (iA (fun _ => 0))))] := hD
          refine lv_iinc (v := iI ((i + 1 : Nat) : Int)) (lv' := [(3, .int (iI ((i + 1 : Nat) : Int))), (0, .ref cp), (1, .int (iI (cs : Int))), (2, .int (iI (rs : Int)))]) hx hb dC_init_47 hl (k := 0) rfl (iI_inc _ 1 (by omega)) (by decide) rfl (fun ls hl => ?_)
          refine lv_goto (tgt := 23) hx hb dC_init_50 (by decide) ?_
          exact ih_lp23 (i + 1) (uZ fJ i ((i * 262144 + 0 * 512 + cs : Nat) : Int)) (by omega) (fun k hk => by unfold uZ; split; (next h => rw [h]; rfl); (next h => exact i2 k (by omega))) (by omega) _ _ (hP.sub [0, 1, 2] rfl) (hD.sub [0, 1, 2] (by decide) rfl) hS _ (lv_sub hl [0, 1, 2, 3] rfl)
  exact lp23 (rs - 0 + 1) 0 (fun _ => 0) (by omega) (fun k hk => absurd hk (Nat.not_lt_zero _)) (Nat.lt_succ_self _) _ _ (hP.sub [0, 1, 2] rfl) (hD.sub [0, 1, 2] (by decide) rfl) hS _ (lv_sub hl [0, 1, 2, 3] rfl)

def rm_c_start : Room := { frames := 0, cells := 0, slots := 0, locals := 0 }
set_option maxHeartbeats 4000000 in
set_option maxRecDepth 100000 in
theorem c_start (l : Launch) (D : va_G) (cA cB cS : ClassId) (cp : Nat) (ai : Nat) (at_ : Nat) (fI : Nat → Int) (fS : Nat → Int) (sv : Nat) (en : Nat) (st0 : Nat) (h1 : sv ≤ 12) (h2 : fS sv = (st0 : Int)) : Met l yC_start wC_start rm_c_start (pR [.ref cp] D vwCl (vwTy cA cB cS) vwNw [(cp, .inr (2, [.ref ai, .ref at_, .int (iI (sv : Int)), .int (iI (en : Int))])), (ai, .inl (cA, 24000, .inl (iA fI))), (at_, .inl (cA, 13, .inl (iA fS)))]) (qI (fun z => z = (st0 : Int))) 0 0 (fun _ => False) := by
  refine Met.ofW (cc := bC_start) (maxL := 1) (ret := (some .int)) (by decide +kernel) rfl ?_
  intro p e s m args below meth c s₁ B hml hv
  obtain ⟨rfl, hP, hKW⟩ := hv
  have hK := hKW.1
  have hN := hKW.2.2
  have hx := B.exec
  have hb := B.bytes
  have hr := B.returns
  have hts := atoms_spec (ws := wC_start) B.pre
  have hown : s.vm.findClass "WindingRaster$ClipPile" = some m.cls := findClass_of_methodNamed B.named
  have hlocks := B.notSynchronized
  have hP : va_P D vwCl [(cp, .inr (2, [.ref ai, .ref at_, .int (iI (sv : Int)), .int (iI (en : Int))])), (ai, .inl (cA, 24000, .inl (iA fI))), (at_, .inl (cA, 13, .inl (iA fS)))] s.heap := hP
  have in_2 : ∀ w ∈ wsC, w ∈ wC_start := fun w h => List.mem_cons_of_mem _ (in0_C w h)
  have fl_15 := (hts _ (List.mem_cons_of_mem _ vm_52))
  have fl_34 := (hts _ (List.mem_cons_of_mem _ vm_53))
  have hl := lv_entry ([.ref cp]) (n := 1) (Nat.le_of_ble_eq_true rfl)
  rw [lg_entry_eq]
  generalize (lg_sl ([.ref cp]) ++ List.replicate (1 - (lg_sl ([.ref cp])).length) Slot.unset).toArray = ls at hl ⊢
  have hl : lv_has ls 1 [(0, .ref cp)] := hl
  generalize hQ : MQ below (qI (fun z => z = (st0 : Int))) [.ref cp].toArray s 0 0 (fun _ => False) = QQ
  refine lv_aload_n hx hb dC_start_0 rfl (lv_at hl 0 rfl) ?_
  refine va_get (ci := 2) (v := .ref at_) (C := "WindingRaster$ClipPile") (T := TC) (N := 4) hx hb hts in_2 hown hK hP 0 rfl rfl 1 (by decide) fl_15 (fun _ h9 => h9) rfl dC_start_1 ?_
  refine lv_aload_n hx hb dC_start_4 rfl (lv_at hl 0 rfl) ?_
  refine va_get (ci := 2) (v := .int (iI (sv : Int))) (C := "WindingRaster$ClipPile") (T := TC) (N := 4) hx hb hts in_2 hown hK hP 0 rfl rfl 2 (by decide) fl_34 (fun _ h9 => h9) rfl dC_start_5 ?_
  refine ii_iald hx hb hK hP 2 0 rfl rfl sv rfl (by omega) (by omega) dC_start_8 ?_
  refine ii_top (y := (st0 : Int)) h2 ?_
  rw [← hQ]
  exact rd_iret hx hb hr hlocks (by omega) dC_start_9

def rm_c_push : Room := { frames := 1, cells := 0, slots := 0, locals := 48 }
set_option maxHeartbeats 4000000 in
set_option maxRecDepth 100000 in
theorem c_push (l : Launch) (D : va_G) (cA cB cS : ClassId) (cp : Nat) (ai : Nat) (at_ : Nat) (fI : Nat → Int) (fS : Nat → Int) (sv : Nat) (en : Nat) (st0 : Nat) (h1 : sv ≤ 12) (h2 : fS sv = (st0 : Int)) (h3 : st0 ≤ en) (h4 : en ≤ 24000) (sz : Nat) : Met l yC_push wC_push rm_c_push (pW [.ref cp] D vwCl (vwTy cA cB cS) vwNw [(cp, .inr (2, [.ref ai, .ref at_, .int (iI (sv : Int)), .int (iI (en : Int))])), (ai, .inl (cA, 24000, .inl (iA fI))), (at_, .inl (cA, 13, .inl (iA fS)))] sz) (qW (S := (Nat → Int) × (Nat → Int) × Nat × Nat) (fun (z : Int) (u : (Nat → Int) × (Nat → Int) × Nat × Nat) => (z = 0 ∧ (12 ≤ sv ∨ 24000 < en + (en - st0)) ∧ u.1 = fI ∧ u.2.1 = fS ∧ u.2.2.1 = sv ∧ u.2.2.2 = en) ∨ (z = 1 ∧ sv < 12 ∧ en + (en - st0) ≤ 24000 ∧ u.1 = va_cpy fI fI st0 en (en - st0) ∧ u.2.1 = uZ fS (sv + 1) (en : Int) ∧ u.2.2.1 = sv + 1 ∧ u.2.2.2 = en + (en - st0))) D vwCl [(cp, .inr (2, [.ref ai, .ref at_, .int (iI (sv : Int)), .int (iI (en : Int))])), (ai, .inl (cA, 24000, .inl (iA fI))), (at_, .inl (cA, 13, .inl (iA fS)))] sz (fun u : (Nat → Int) × (Nat → Int) × Nat × Nat => [(cp, .inr (2, [.ref ai, .ref at_, .int (iI ((u.2.2.1 : Nat) : Int)), .int (iI ((u.2.2.2 : Nat) : Int))])), (ai, .inl (cA, 24000, .inl (iA u.1))), (at_, .inl (cA, 13, .inl (iA u.2.1)))])) 0 0 (va_A [(cp, .inr (2, [.ref ai, .ref at_, .int (iI (sv : Int)), .int (iI (en : Int))])), (ai, .inl (cA, 24000, .inl (iA fI))), (at_, .inl (cA, 13, .inl (iA fS)))] sz) := by
  refine Met.ofW (cc := bC_push) (maxL := 2) (ret := (some .boolean)) (by decide +kernel) rfl ?_
  intro p e s m args below meth c s₁ B hml hv
  obtain ⟨rfl, hsz, hP, hKW, hD0⟩ := hv
  have hK := hKW.1
  have hN := hKW.2.2
  have hx := B.exec
  have hb := B.bytes
  have hr := B.returns
  have hts := atoms_spec (ws := wC_push) B.pre
  have hown : s.vm.findClass "WindingRaster$ClipPile" = some m.cls := findClass_of_methodNamed B.named
  have hlocks := B.notSynchronized
  subst hsz
  have hD := hD0.self (sz := s.heap.size)
  obtain ⟨A, hAe⟩ : ∃ A, va_A [(cp, .inr (2, [.ref ai, .ref at_, .int (iI (sv : Int)), .int (iI (en : Int))])), (ai, .inl (cA, 24000, .inl (iA fI))), (at_, .inl (cA, 13, .inl (iA fS)))] s.heap.size = A := ⟨_, rfl⟩
  rw [hAe] at hD
  have hA : ∀ q : Nat, s.heap.size ≤ q → A q := fun q h => by rw [← hAe]; exact Or.inr h
  have hS : va_S A s.heap s.heap [] := va_S.rf
  have hP : va_P D vwCl [(cp, .inr (2, [.ref ai, .ref at_, .int (iI (sv : Int)), .int (iI (en : Int))])), (ai, .inl (cA, 24000, .inl (iA fI))), (at_, .inl (cA, 13, .inl (iA fS)))] s.heap := hP
  have in_2 : ∀ w ∈ wsC, w ∈ wC_push := fun w h => List.mem_cons_of_mem _ (in0_C w h)
  have fl_30 := (hts _ (List.mem_cons_of_mem _ vm_54))
  have fl_34 := (hts _ (List.mem_cons_of_mem _ vm_53))
  have fl_9 := (hts _ (List.mem_cons_of_mem _ vm_51))
  have ml_41 := (hts _ (List.mem_cons_of_mem _ vm_193))
  have ac_n := (hts _ (List.mem_cons_of_mem _ vm_195))
  have ac_s := (hts _ (List.mem_cons_of_mem _ vm_194))
  have ac_i := (hts _ (List.mem_cons_of_mem _ vm_9))
  have fl_15 := (hts _ (List.mem_cons_of_mem _ vm_52))
  have hl := lv_entry ([.ref cp]) (n := 2) (Nat.le_of_ble_eq_true rfl)
  rw [lg_entry_eq]
  generalize (lg_sl ([.ref cp]) ++ List.replicate (2 - (lg_sl ([.ref cp])).length) Slot.unset).toArray = ls at hl ⊢
  have hl : lv_has ls 2 [(0, .ref cp)] := hl
  generalize hQ : MQ below (qW (S := (Nat → Int) × (Nat → Int) × Nat × Nat) (fun (z : Int) (u : (Nat → Int) × (Nat → Int) × Nat × Nat) => (z = 0 ∧ (12 ≤ sv ∨ 24000 < en + (en - st0)) ∧ u.1 = fI ∧ u.2.1 = fS ∧ u.2.2.1 = sv ∧ u.2.2.2 = en) ∨ (z = 1 ∧ sv < 12 ∧ en + (en - st0) ≤ 24000 ∧ u.1 = va_cpy fI fI st0 en (en - st0) ∧ u.2.1 = uZ fS (sv + 1) (en : Int) ∧ u.2.2.1 = sv + 1 ∧ u.2.2.2 = en + (en - st0))) D vwCl [(cp, .inr (2, [.ref ai, .ref at_, .int (iI (sv : Int)), .int (iI (en : Int))])), (ai, .inl (cA, 24000, .inl (iA fI))), (at_, .inl (cA, 13, .inl (iA fS)))] s.heap.size (fun u : (Nat → Int) × (Nat → Int) × Nat × Nat => [(cp, .inr (2, [.ref ai, .ref at_, .int (iI ((u.2.2.1 : Nat) : Int)), .int (iI ((u.2.2.2 : Nat) : Int))])), (ai, .inl (cA, 24000, .inl (iA u.1))), (at_, .inl (cA, 13, .inl (iA u.2.1)))])) [.ref cp].toArray s 0 0 (va_A [(cp, .inr (2, [.ref ai, .ref at_, .int (iI (sv : Int)), .int (iI (en : Int))])), (ai, .inl (cA, 24000, .inl (iA fI))), (at_, .inl (cA, 13, .inl (iA fS)))] s.heap.size) = QQ
  refine lv_aload_n hx hb dC_push_0 rfl (lv_at hl 0 rfl) ?_
  refine va_get (ci := 2) (v := .int (iI (en : Int))) (C := "WindingRaster$ClipPile") (T := TC) (N := 4) hx hb hts in_2 hown hK hP 0 rfl rfl 3 (by decide) fl_30 (fun _ h9 => h9) rfl dC_push_1 ?_
  refine lv_aload_n hx hb dC_push_4 rfl (lv_at hl 0 rfl) ?_
  refine cs_i (va_runV (As := []) (rest := [.int (iI (en : Int))]) ⟨hx, hb, hml, hown, hts⟩ (c_start l D cA cB cS cp ai at_ fI fS sv en st0 (by omega) h2) ⟨(callB_of 0 hts (gIn vm_160) rfl rfl rfl (hts _ (List.mem_cons_of_mem _ vm_5)) (hts _ (List.mem_cons_of_mem _ vm_192)) (by decide +kernel) ⟨Nat.le_of_ble_eq_true rfl, Nat.le_of_ble_eq_true rfl⟩), (hts _ (List.mem_cons_of_mem _ vm_159)), (hts _ (List.mem_cons_of_mem _ vm_395))⟩ (pR.preV (va_recv hK hP (ci := 2) (q0 := 0) rfl rfl) (hP.sub [0, 1, 2] rfl) hKW) rfl rfl hl.1 rfl (lv_room (Nat.le_of_ble_eq_true rfl)) dC_push_5 ⟨Nat.le_of_ble_eq_true rfl, Nat.le_of_ble_eq_true rfl⟩) (fun z_1 hz_1 => ?_)
  subst hz_1
  refine ii_isub hx hb dC_push_8 ?_
  refine ii_top (y := ((en - st0 : Nat) : Int)) (by omega) ?_
  refine lv_istore_n (lv' := [(1, .int (iI ((en - st0 : Nat) : Int))), (0, .ref cp)]) hx hb dC_push_9 rfl hl (by decide) rfl (fun ls hl => ?_)
  refine lv_aload_n hx hb dC_push_10 rfl (lv_at hl 1 rfl) ?_
  refine va_get (ci := 2) (v := .int (iI (sv : Int))) (C := "WindingRaster$ClipPile") (T := TC) (N := 4) hx hb hts in_2 hown hK hP 0 rfl rfl 2 (by decide) fl_34 (fun _ h9 => h9) rfl dC_push_11 ?_
  refine ii_bipush (n := 12) hx hb dC_push_14 (by decide +kernel) ?_
  refine ii_icmp_ge (tgt := 31) hx hb dC_push_16 (by decide) (by omega) (by omega) (fun c16 => ?_) (fun c16 => ?_)
  · refine ii_iconst (n := 0) hx hb dC_push_31 ?_
    rw [← hQ]
    exact wr_zret (fI, fS, sv, en) hx hb hr hlocks (nar_b (by omega)) hAe (hP.sub [0, 1, 2] rfl) (hD.sub [0, 1, 2] (by decide) rfl) hS (Or.inl ⟨rfl, by omega, rfl, rfl, rfl, rfl⟩) dC_push_32
  · refine lv_iload_n hx hb dC_push_19 rfl (lv_at hl 0 rfl) ?_
    refine ii_sipush (n := 24000) hx hb dC_push_20 (by decide +kernel) ?_
    refine lv_aload_n hx hb dC_push_23 rfl (lv_at hl 1 rfl) ?_
    refine va_get (ci := 2) (v := .int (iI (en : Int))) (C := "WindingRaster$ClipPile") (T := TC) (N := 4) hx hb hts in_2 hown hK hP 0 rfl rfl 3 (by decide) fl_30 (fun _ h9 => h9) rfl dC_push_24 ?_
    refine ii_isub hx hb dC_push_27 ?_
    refine ii_icmp_le (tgt := 33) hx hb dC_push_28 (by decide) (by omega) (by omega) (fun c28 => ?_) (fun c28 => ?_)
    · refine lv_aload_n hx hb dC_push_33 rfl (lv_at hl 1 rfl) ?_
      refine va_get (ci := 2) (v := .ref ai) (C := "WindingRaster$ClipPile") (T := TC) (N := 4) hx hb hts in_2 hown hK hP 0 rfl rfl 0 (by decide) fl_9 (fun _ h9 => h9) rfl dC_push_34 ?_
      refine lv_aload_n hx hb dC_push_37 rfl (lv_at hl 1 rfl) ?_
      refine cs_i (va_runV (As := []) (rest := [.ref ai]) ⟨hx, hb, hml, hown, hts⟩ (c_start l D cA cB cS cp ai at_ fI fS sv en st0 (by omega) h2) ⟨(callB_of 0 hts (gIn vm_160) rfl rfl rfl (hts _ (List.mem_cons_of_mem _ vm_5)) (hts _ (List.mem_cons_of_mem _ vm_192)) (by decide +kernel) ⟨Nat.le_of_ble_eq_true rfl, Nat.le_of_ble_eq_true rfl⟩), (hts _ (List.mem_cons_of_mem _ vm_159)), (hts _ (List.mem_cons_of_mem _ vm_395))⟩ (pR.preV (va_recv hK hP (ci := 2) (q0 := 0) rfl rfl) (hP.sub [0, 1, 2] rfl) hKW) rfl rfl hl.1 rfl (lv_room (Nat.le_of_ble_eq_true rfl)) dC_push_38 ⟨Nat.le_of_ble_eq_true rfl, Nat.le_of_ble_eq_true rfl⟩) (fun z_2 hz_2 => ?_)
      subst hz_2
      refine lv_aload_n hx hb dC_push_41 rfl (lv_at hl 1 rfl) ?_
      refine va_get (ci := 2) (v := .ref ai) (C := "WindingRaster$ClipPile") (T := TC) (N := 4) hx hb hts in_2 hown hK hP 0 rfl rfl 0 (by decide) fl_9 (fun _ h9 => h9) rfl dC_push_42 ?_
      refine lv_aload_n hx hb dC_push_45 rfl (lv_at hl 1 rfl) ?_
      refine va_get (ci := 2) (v := .int (iI (en : Int))) (C := "WindingRaster$ClipPile") (T := TC) (N := 4) hx hb hts in_2 hown hK hP 0 rfl rfl 3 (by decide) fl_30 (fun _ h9 => h9) rfl dC_push_46 ?_
      refine lv_iload_n hx hb dC_push_49 rfl (lv_at hl 0 rfl) ?_
      refine ii_copy hx hb (hml.trans hl.1.symm) hown ml_41 ac_n ac_s ac_i hK hP hD hS 1 1 0 rfl rfl rfl st0 en (en - st0) (by omega) (by omega) (by omega) (by omega) (by omega) (by omega) (by omega) (Nat.le_of_ble_eq_true rfl) (Nat.le_of_ble_eq_true rfl) dC_push_50 (fun H locs hP hD hS => ?_)
      have hP : va_P D vwCl [(cp, .inr (2, [.ref ai, .ref at_, .int (iI (sv : Int)), .int (iI (en : Int))])), (ai, .inl (cA, 24000, .inl (iA (va_cpy fI fI st0 en (en - st0))))), (at_, .inl (cA, 13, .inl (iA fS)))] H := hP
      have hD : va_D A [(cp, .inr (2, [.ref ai, .ref at_, .int (iI (sv : Int)), .int (iI (en : Int))])), (ai, .inl (cA, 24000, .inl (iA (va_cpy fI fI st0 en (en - st0))))), (at_, .inl (cA, 13, .inl (iA fS)))] := hD
      refine lv_aload_n hx hb dC_push_53 rfl (lv_at hl 1 rfl) ?_
      refine lv_dup hx hb dC_push_54 rfl ?_
      refine va_get (ci := 2) (v := .int (iI (sv : Int))) (C := "WindingRaster$ClipPile") (T := TC) (N := 4) hx hb hts in_2 hown hK hP 0 rfl rfl 2 (by decide) fl_34 (fun _ h9 => h9) rfl dC_push_55 ?_
      refine ii_iconst (n := 1) hx hb dC_push_58 ?_
      refine ii_iadd hx hb dC_push_59 ?_
      refine ii_top (y := ((sv + 1 : Nat) : Int)) (by push_cast; rfl) ?_
      refine va_put (ci := 2) (v := .int (iI ((sv + 1 : Nat) : Int))) (ty := .int) (C := "WindingRaster$ClipPile") (T := TC) (N := 4) hx hb hts in_2 tC tC_ok nC hown hK hP hD hS 0 rfl rfl 2 (by decide) fl_34 (fun _ h9 => h9) rfl (by decide +kernel) rfl rfl (Nat.le_of_ble_eq_true rfl) dC_push_60 (fun H locs hP hD hS => ?_)
      have hP : va_P D vwCl [(cp, .inr (2, [.ref ai, .ref at_, .int (iI ((sv + 1 : Nat) : Int)), .int (iI (en : Int))])), (ai, .inl (cA, 24000, .inl (iA (va_cpy fI fI st0 en (en - st0))))), (at_, .inl (cA, 13, .inl (iA fS)))] H := hP
      have hD : va_D A [(cp, .inr (2, [.ref ai, .ref at_, .int (iI ((sv + 1 : Nat) : Int)), .int (iI (en : Int))])), (ai, .inl (cA, 24000, .inl (iA (va_cpy fI fI st0 en (en - st0))))), (at_, .inl (cA, 13, .inl (iA fS)))] := hD
      refine lv_aload_n hx hb dC_push_63 rfl (lv_at hl 1 rfl) ?_
      refine va_get (ci := 2) (v := .ref at_) (C := "WindingRaster$ClipPile") (T := TC) (N := 4) hx hb hts in_2 hown hK hP 0 rfl rfl 1 (by decide) fl_15 (fun _ h9 => h9) rfl dC_push_64 ?_
      refine lv_aload_n hx hb dC_push_67 rfl (lv_at hl 1 rfl) ?_
      refine va_get (ci := 2) (v := .int (iI ((sv + 1 : Nat) : Int))) (C := "WindingRaster$ClipPile") (T := TC) (N := 4) hx hb hts in_2 hown hK hP 0 rfl rfl 2 (by decide) fl_34 (fun _ h9 => h9) rfl dC_push_68 ?_
      refine lv_aload_n hx hb dC_push_71 rfl (lv_at hl 1 rfl) ?_
      refine va_get (ci := 2) (v := .int (iI (en : Int))) (C := "WindingRaster$ClipPile") (T := TC) (N := 4) hx hb hts in_2 hown hK hP 0 rfl rfl 3 (by decide) fl_30 (fun _ h9 => h9) rfl dC_push_72 ?_
      refine ii_iast hx hb hK hP hD hS 2 0 rfl rfl (sv + 1) rfl (by omega) (by omega) dC_push_75 (fun H locs hP hD hS => ?_)
      have hP : va_P D vwCl [(cp, .inr (2, [.ref ai, .ref at_, .int (iI ((sv + 1 : Nat) : Int)), .int (iI (en : Int))])), (ai, .inl (cA, 24000, .inl (iA (va_cpy fI fI st0 en (en - st0))))), (at_, .inl (cA, 13, .inl (iA (uZ fS (sv + 1) (en : Int)))))] H := hP
      have hD : va_D A [(cp, .inr (2, [.ref ai, .ref at_, .int (iI ((sv + 1 : Nat) : Int)), .int (iI (en : Int))])), (ai, .inl (cA, 24000, .inl (iA (va_cpy fI fI st0 en (en - st0))))), (at_, .inl (cA, 13, .inl (iA (uZ fS (sv + 1) (en : Int)))))] := hD
      refine lv_aload_n hx hb dC_push_76 rfl (lv_at hl 1 rfl) ?_
      refine lv_dup hx hb dC_push_77 rfl ?_
      refine va_get (ci := 2) (v := .int (iI (en : Int))) (C := "WindingRaster$ClipPile") (T := TC) (N := 4) hx hb hts in_2 hown hK hP 0 rfl rfl 3 (by decide) fl_30 (fun _ h9 => h9) rfl dC_push_78 ?_
      refine lv_iload_n hx hb dC_push_81 rfl (lv_at hl 0 rfl) ?_
      refine ii_iadd hx hb dC_push_82 ?_
      refine ii_top (y := ((en + (en - st0) : Nat) : Int)) (by push_cast; rfl) ?_
      refine va_put (ci := 2) (v := .int (iI ((en + (en - st0) : Nat) : Int))) (ty := .int) (C := "WindingRaster$ClipPile") (T := TC) (N := 4) hx hb hts in_2 tC tC_ok nC hown hK hP hD hS 0 rfl rfl 3 (by decide) fl_30 (fun _ h9 => h9) rfl (by decide +kernel) rfl rfl (Nat.le_of_ble_eq_true rfl) dC_push_83 (fun H locs hP hD hS => ?_)
      have hP : va_P D vwCl [(cp, .inr (2, [.ref ai, .ref at_, .int (iI ((sv + 1 : Nat) : Int)), .int (iI ((en + (en - st0) : Nat) : Int))])), (ai, .inl (cA, 24000, .inl (iA (va_cpy fI fI st0 en (en - st0))))), (at_, .inl (cA, 13, .inl (iA (uZ fS (sv + 1) (en : Int)))))] H := hP
      have hD : va_D A [(cp, .inr (2, [.ref ai, .ref at_, .int (iI ((sv + 1 : Nat) : Int)), .int (iI ((en + (en - st0) : Nat) : Int))])), (ai, .inl (cA, 24000, .inl (iA (va_cpy fI fI st0 en (en - st0))))), (at_, .inl (cA, 13, .inl (iA (uZ fS (sv + 1) (en : Int)))))] := hD
      refine ii_iconst (n := 1) hx hb dC_push_86 ?_
      rw [← hQ]
      exact wr_zret (va_cpy fI fI st0 en (en - st0), uZ fS (sv + 1) (en : Int), sv + 1, en + (en - st0)) hx hb hr hlocks (nar_b (by omega)) hAe (hP.sub [0, 1, 2] rfl) (hD.sub [0, 1, 2] (by decide) rfl) hS (Or.inr ⟨rfl, by omega, by omega, rfl, rfl, rfl, rfl⟩) dC_push_87
    · refine ii_iconst (n := 0) hx hb dC_push_31 ?_
      rw [← hQ]
      exact wr_zret (fI, fS, sv, en) hx hb hr hlocks (nar_b (by omega)) hAe (hP.sub [0, 1, 2] rfl) (hD.sub [0, 1, 2] (by decide) rfl) hS (Or.inl ⟨rfl, by omega, rfl, rfl, rfl, rfl⟩) dC_push_32

def rm_c_pop : Room := { frames := 1, cells := 0, slots := 0, locals := 20 }
set_option maxHeartbeats 4000000 in
set_option maxRecDepth 100000 in
theorem c_pop (l : Launch) (D : va_G) (cA cB cS : ClassId) (cp : Nat) (ai : Nat) (at_ : Nat) (fI : Nat → Int) (fS : Nat → Int) (sv : Nat) (en : Nat) (st0 : Nat) (h1 : sv ≤ 12) (h2 : fS sv = (st0 : Int)) (sz : Nat) : Met l yC_pop wC_pop rm_c_pop (pW [.ref cp] D vwCl (vwTy cA cB cS) vwNw [(cp, .inr (2, [.ref ai, .ref at_, .int (iI (sv : Int)), .int (iI (en : Int))])), (ai, .inl (cA, 24000, .inl (iA fI))), (at_, .inl (cA, 13, .inl (iA fS)))] sz) (qW (S := Nat × Nat) (fun (z : Int) (u : Nat × Nat) => (z = 0 ∧ sv = 0 ∧ u.1 = sv ∧ u.2 = en) ∨ (z = 1 ∧ 0 < sv ∧ u.1 = sv - 1 ∧ u.2 = st0)) D vwCl [(cp, .inr (2, [.ref ai, .ref at_, .int (iI (sv : Int)), .int (iI (en : Int))])), (ai, .inl (cA, 24000, .inl (iA fI))), (at_, .inl (cA, 13, .inl (iA fS)))] sz (fun u : Nat × Nat => [(cp, .inr (2, [.ref ai, .ref at_, .int (iI ((u.1 : Nat) : Int)), .int (iI ((u.2 : Nat) : Int))])), (ai, .inl (cA, 24000, .inl (iA fI))), (at_, .inl (cA, 13, .inl (iA fS)))])) 0 0 (va_A [(cp, .inr (2, [.ref ai, .ref at_, .int (iI (sv : Int)), .int (iI (en : Int))])), (ai, .inl (cA, 24000, .inl (iA fI))), (at_, .inl (cA, 13, .inl (iA fS)))] sz) := by
  refine Met.ofW (cc := bC_pop) (maxL := 1) (ret := (some .boolean)) (by decide +kernel) rfl ?_
  intro p e s m args below meth c s₁ B hml hv
  obtain ⟨rfl, hsz, hP, hKW, hD0⟩ := hv
  have hK := hKW.1
  have hN := hKW.2.2
  have hx := B.exec
  have hb := B.bytes
  have hr := B.returns
  have hts := atoms_spec (ws := wC_pop) B.pre
  have hown : s.vm.findClass "WindingRaster$ClipPile" = some m.cls := findClass_of_methodNamed B.named
  have hlocks := B.notSynchronized
  subst hsz
  have hD := hD0.self (sz := s.heap.size)
  obtain ⟨A, hAe⟩ : ∃ A, va_A [(cp, .inr (2, [.ref ai, .ref at_, .int (iI (sv : Int)), .int (iI (en : Int))])), (ai, .inl (cA, 24000, .inl (iA fI))), (at_, .inl (cA, 13, .inl (iA fS)))] s.heap.size = A := ⟨_, rfl⟩
  rw [hAe] at hD
  have hA : ∀ q : Nat, s.heap.size ≤ q → A q := fun q h => by rw [← hAe]; exact Or.inr h
  have hS : va_S A s.heap s.heap [] := va_S.rf
  have hP : va_P D vwCl [(cp, .inr (2, [.ref ai, .ref at_, .int (iI (sv : Int)), .int (iI (en : Int))])), (ai, .inl (cA, 24000, .inl (iA fI))), (at_, .inl (cA, 13, .inl (iA fS)))] s.heap := hP
  have in_2 : ∀ w ∈ wsC, w ∈ wC_pop := fun w h => List.mem_cons_of_mem _ (in0_C w h)
  have fl_34 := (hts _ (List.mem_cons_of_mem _ vm_53))
  have fl_30 := (hts _ (List.mem_cons_of_mem _ vm_54))
  have hl := lv_entry ([.ref cp]) (n := 1) (Nat.le_of_ble_eq_true rfl)
  rw [lg_entry_eq]
  generalize (lg_sl ([.ref cp]) ++ List.replicate (1 - (lg_sl ([.ref cp])).length) Slot.unset).toArray = ls at hl ⊢
  have hl : lv_has ls 1 [(0, .ref cp)] := hl
  generalize hQ : MQ below (qW (S := Nat × Nat) (fun (z : Int) (u : Nat × Nat) => (z = 0 ∧ sv = 0 ∧ u.1 = sv ∧ u.2 = en) ∨ (z = 1 ∧ 0 < sv ∧ u.1 = sv - 1 ∧ u.2 = st0)) D vwCl [(cp, .inr (2, [.ref ai, .ref at_, .int (iI (sv : Int)), .int (iI (en : Int))])), (ai, .inl (cA, 24000, .inl (iA fI))), (at_, .inl (cA, 13, .inl (iA fS)))] s.heap.size (fun u : Nat × Nat => [(cp, .inr (2, [.ref ai, .ref at_, .int (iI ((u.1 : Nat) : Int)), .int (iI ((u.2 : Nat) : Int))])), (ai, .inl (cA, 24000, .inl (iA fI))), (at_, .inl (cA, 13, .inl (iA fS)))])) [.ref cp].toArray s 0 0 (va_A [(cp, .inr (2, [.ref ai, .ref at_, .int (iI (sv : Int)), .int (iI (en : Int))])), (ai, .inl (cA, 24000, .inl (iA fI))), (at_, .inl (cA, 13, .inl (iA fS)))] s.heap.size) = QQ
  refine lv_aload_n hx hb dC_pop_0 rfl (lv_at hl 0 rfl) ?_
  refine va_get (ci := 2) (v := .int (iI (sv : Int))) (C := "WindingRaster$ClipPile") (T := TC) (N := 4) hx hb hts in_2 hown hK hP 0 rfl rfl 2 (by decide) fl_34 (fun _ h9 => h9) rfl dC_pop_1 ?_
  refine ii_if_gt (tgt := 9) hx hb dC_pop_4 (by decide) (by omega) (fun c4 => ?_) (fun c4 => ?_)
  · refine lv_aload_n hx hb dC_pop_9 rfl (lv_at hl 0 rfl) ?_
    refine lv_aload_n hx hb dC_pop_10 rfl (lv_at hl 0 rfl) ?_
    refine cs_i (va_runV (As := []) (rest := [.ref cp]) ⟨hx, hb, hml, hown, hts⟩ (c_start l D cA cB cS cp ai at_ fI fS sv en st0 (by omega) h2) ⟨(callB_of 0 hts (gIn vm_160) rfl rfl rfl (hts _ (List.mem_cons_of_mem _ vm_5)) (hts _ (List.mem_cons_of_mem _ vm_192)) (by decide +kernel) ⟨Nat.le_of_ble_eq_true rfl, Nat.le_of_ble_eq_true rfl⟩), (hts _ (List.mem_cons_of_mem _ vm_159)), (hts _ (List.mem_cons_of_mem _ vm_395))⟩ (pR.preV (va_recv hK hP (ci := 2) (q0 := 0) rfl rfl) (hP.sub [0, 1, 2] rfl) hKW) rfl rfl hl.1 rfl (lv_room (Nat.le_of_ble_eq_true rfl)) dC_pop_11 ⟨Nat.le_of_ble_eq_true rfl, Nat.le_of_ble_eq_true rfl⟩) (fun z_1 hz_1 => ?_)
    subst hz_1
    refine va_put (ci := 2) (v := .int (iI (st0 : Int))) (ty := .int) (C := "WindingRaster$ClipPile") (T := TC) (N := 4) hx hb hts in_2 tC tC_ok nC hown hK hP hD hS 0 rfl rfl 3 (by decide) fl_30 (fun _ h9 => h9) rfl (by decide +kernel) rfl rfl (Nat.le_of_ble_eq_true rfl) dC_pop_14 (fun H locs hP hD hS => ?_)
    have hP : va_P D vwCl [(cp, .inr (2, [.ref ai, .ref at_, .int (iI (sv : Int)), .int (iI (st0 : Int))])), (ai, .inl (cA, 24000, .inl (iA fI))), (at_, .inl (cA, 13, .inl (iA fS)))] H := hP
    have hD : va_D A [(cp, .inr (2, [.ref ai, .ref at_, .int (iI (sv : Int)), .int (iI (st0 : Int))])), (ai, .inl (cA, 24000, .inl (iA fI))), (at_, .inl (cA, 13, .inl (iA fS)))] := hD
    refine lv_aload_n hx hb dC_pop_17 rfl (lv_at hl 0 rfl) ?_
    refine lv_dup hx hb dC_pop_18 rfl ?_
    refine va_get (ci := 2) (v := .int (iI (sv : Int))) (C := "WindingRaster$ClipPile") (T := TC) (N := 4) hx hb hts in_2 hown hK hP 0 rfl rfl 2 (by decide) fl_34 (fun _ h9 => h9) rfl dC_pop_19 ?_
    refine ii_iconst (n := 1) hx hb dC_pop_22 ?_
    refine ii_isub hx hb dC_pop_23 ?_
    refine ii_top (y := ((sv - 1 : Nat) : Int)) (by omega) ?_
    refine va_put (ci := 2) (v := .int (iI ((sv - 1 : Nat) : Int))) (ty := .int) (C := "WindingRaster$ClipPile") (T := TC) (N := 4) hx hb hts in_2 tC tC_ok nC hown hK hP hD hS 0 rfl rfl 2 (by decide) fl_34 (fun _ h9 => h9) rfl (by decide +kernel) rfl rfl (Nat.le_of_ble_eq_true rfl) dC_pop_24 (fun H locs hP hD hS => ?_)
    have hP : va_P D vwCl [(cp, .inr (2, [.ref ai, .ref at_, .int (iI ((sv - 1 : Nat) : Int)), .int (iI (st0 : Int))])), (ai, .inl (cA, 24000, .inl (iA fI))), (at_, .inl (cA, 13, .inl (iA fS)))] H := hP
    have hD : va_D A [(cp, .inr (2, [.ref ai, .ref at_, .int (iI ((sv - 1 : Nat) : Int)), .int (iI (st0 : Int))])), (ai, .inl (cA, 24000, .inl (iA fI))), (at_, .inl (cA, 13, .inl (iA fS)))] := hD
    refine ii_iconst (n := 1) hx hb dC_pop_27 ?_
    rw [← hQ]
    exact wr_zret (sv - 1, st0) hx hb hr hlocks (nar_b (by omega)) hAe (hP.sub [0, 1, 2] rfl) (hD.sub [0, 1, 2] (by decide) rfl) hS (Or.inr ⟨rfl, by omega, rfl, rfl⟩) dC_pop_28
  · refine ii_iconst (n := 0) hx hb dC_pop_7 ?_
    rw [← hQ]
    exact wr_zret (sv, en) hx hb hr hlocks (nar_b (by omega)) hAe (hP.sub [0, 1, 2] rfl) (hD.sub [0, 1, 2] (by decide) rfl) hS (Or.inl ⟨rfl, by omega, rfl, rfl⟩) dC_pop_8

def rm_c_replace : Room := { frames := 1, cells := 0, slots := 0, locals := 48 }
set_option maxHeartbeats 4000000 in
set_option maxRecDepth 100000 in
theorem c_replace (l : Launch) (D : va_G) (cA cB cS : ClassId) (cp : Nat) (ai : Nat) (at_ : Nat) (fI : Nat → Int) (fS : Nat → Int) (sv : Nat) (en : Nat) (pl : Nat) (ap : Nat) (fP : Nat → Int) (pn : Nat) (pm : Nat) (st0 : Nat) (h1 : sv ≤ 12) (h2 : fS sv = (st0 : Int)) (h3 : st0 ≤ 24000) (h4 : pn ≤ pm) (h5 : pm < 2147483648) (sz : Nat) : Met l yC_replace wC_replace rm_c_replace (pW [.ref cp, .ref pl] D vwCl (vwTy cA cB cS) vwNw [(cp, .inr (2, [.ref ai, .ref at_, .int (iI (sv : Int)), .int (iI (en : Int))])), (ai, .inl (cA, 24000, .inl (iA fI))), (at_, .inl (cA, 13, .inl (iA fS))), (pl, .inr (3, [.ref ap, .int (iI (pn : Int))])), (ap, .inl (cA, pm, .inl (iA fP)))] sz) (qW (S := (Nat → Int) × Nat) (fun (z : Int) (u : (Nat → Int) × Nat) => (z = 0 ∧ 24000 < st0 + pn ∧ u.1 = fI ∧ u.2 = en) ∨ (z = 1 ∧ st0 + pn ≤ 24000 ∧ u.1 = va_cpy fP fI 0 st0 pn ∧ u.2 = st0 + pn)) D vwCl [(cp, .inr (2, [.ref ai, .ref at_, .int (iI (sv : Int)), .int (iI (en : Int))])), (ai, .inl (cA, 24000, .inl (iA fI))), (at_, .inl (cA, 13, .inl (iA fS))), (pl, .inr (3, [.ref ap, .int (iI (pn : Int))])), (ap, .inl (cA, pm, .inl (iA fP)))] sz (fun u : (Nat → Int) × Nat => [(cp, .inr (2, [.ref ai, .ref at_, .int (iI (sv : Int)), .int (iI ((u.2 : Nat) : Int))])), (ai, .inl (cA, 24000, .inl (iA u.1))), (at_, .inl (cA, 13, .inl (iA fS))), (pl, .inr (3, [.ref ap, .int (iI (pn : Int))])), (ap, .inl (cA, pm, .inl (iA fP)))])) 0 0 (va_A [(cp, .inr (2, [.ref ai, .ref at_, .int (iI (sv : Int)), .int (iI (en : Int))])), (ai, .inl (cA, 24000, .inl (iA fI))), (at_, .inl (cA, 13, .inl (iA fS))), (pl, .inr (3, [.ref ap, .int (iI (pn : Int))])), (ap, .inl (cA, pm, .inl (iA fP)))] sz) := by
  refine Met.ofW (cc := bC_replace) (maxL := 2) (ret := (some .boolean)) (by decide +kernel) rfl ?_
  intro p e s m args below meth c s₁ B hml hv
  obtain ⟨rfl, hsz, hP, hKW, hD0⟩ := hv
  have hK := hKW.1
  have hN := hKW.2.2
  have hx := B.exec
  have hb := B.bytes
  have hr := B.returns
  have hts := atoms_spec (ws := wC_replace) B.pre
  have hown : s.vm.findClass "WindingRaster$ClipPile" = some m.cls := findClass_of_methodNamed B.named
  have hlocks := B.notSynchronized
  subst hsz
  have hD := hD0.self (sz := s.heap.size)
  obtain ⟨A, hAe⟩ : ∃ A, va_A [(cp, .inr (2, [.ref ai, .ref at_, .int (iI (sv : Int)), .int (iI (en : Int))])), (ai, .inl (cA, 24000, .inl (iA fI))), (at_, .inl (cA, 13, .inl (iA fS))), (pl, .inr (3, [.ref ap, .int (iI (pn : Int))])), (ap, .inl (cA, pm, .inl (iA fP)))] s.heap.size = A := ⟨_, rfl⟩
  rw [hAe] at hD
  have hA : ∀ q : Nat, s.heap.size ≤ q → A q := fun q h => by rw [← hAe]; exact Or.inr h
  have hS : va_S A s.heap s.heap [] := va_S.rf
  have hP : va_P D vwCl [(cp, .inr (2, [.ref ai, .ref at_, .int (iI (sv : Int)), .int (iI (en : Int))])), (ai, .inl (cA, 24000, .inl (iA fI))), (at_, .inl (cA, 13, .inl (iA fS))), (pl, .inr (3, [.ref ap, .int (iI (pn : Int))])), (ap, .inl (cA, pm, .inl (iA fP)))] s.heap := hP
  have in_3 : ∀ w ∈ wsL, w ∈ wC_replace := fun w h => List.mem_cons_of_mem _ (in0_L w h)
  have fl_47 := va_Nw.use (A := [.ref cp, .ref pl].toArray) rfl (hN _ vn_10)
  have fl_52 := va_Nw.use (A := [.ref cp, .ref pl].toArray) rfl (hN _ vn_8)
  have in_2 : ∀ w ∈ wsC, w ∈ wC_replace := fun w h => List.mem_cons_of_mem _ (in0_C w h)
  have fl_9 := (hts _ (List.mem_cons_of_mem _ vm_51))
  have ml_41 := (hts _ (List.mem_cons_of_mem _ vm_193))
  have ac_n := (hts _ (List.mem_cons_of_mem _ vm_195))
  have ac_s := (hts _ (List.mem_cons_of_mem _ vm_194))
  have ac_i := (hts _ (List.mem_cons_of_mem _ vm_9))
  have fl_30 := (hts _ (List.mem_cons_of_mem _ vm_54))
  have hl := lv_entry ([.ref cp, .ref pl]) (n := 2) (Nat.le_of_ble_eq_true rfl)
  rw [lg_entry_eq]
  generalize (lg_sl ([.ref cp, .ref pl]) ++ List.replicate (2 - (lg_sl ([.ref cp, .ref pl])).length) Slot.unset).toArray = ls at hl ⊢
  have hl : lv_has ls 2 [(0, .ref cp), (1, .ref pl)] := hl
  generalize hQ : MQ below (qW (S := (Nat → Int) × Nat) (fun (z : Int) (u : (Nat → Int) × Nat) => (z = 0 ∧ 24000 < st0 + pn ∧ u.1 = fI ∧ u.2 = en) ∨ (z = 1 ∧ st0 + pn ≤ 24000 ∧ u.1 = va_cpy fP fI 0 st0 pn ∧ u.2 = st0 + pn)) D vwCl [(cp, .inr (2, [.ref ai, .ref at_, .int (iI (sv : Int)), .int (iI (en : Int))])), (ai, .inl (cA, 24000, .inl (iA fI))), (at_, .inl (cA, 13, .inl (iA fS))), (pl, .inr (3, [.ref ap, .int (iI (pn : Int))])), (ap, .inl (cA, pm, .inl (iA fP)))] s.heap.size (fun u : (Nat → Int) × Nat => [(cp, .inr (2, [.ref ai, .ref at_, .int (iI (sv : Int)), .int (iI ((u.2 : Nat) : Int))])), (ai, .inl (cA, 24000, .inl (iA u.1))), (at_, .inl (cA, 13, .inl (iA fS))), (pl, .inr (3, [.ref ap, .int (iI (pn : Int))])), (ap, .inl (cA, pm, .inl (iA fP)))])) [.ref cp, .ref pl].toArray s 0 0 (va_A [(cp, .inr (2, [.ref ai, .ref at_, .int (iI (sv : Int)), .int (iI (en : Int))])), (ai, .inl (cA, 24000, .inl (iA fI))), (at_, .inl (cA, 13, .inl (iA fS))), (pl, .inr (3, [.ref ap, .int (iI (pn : Int))])), (ap, .inl (cA, pm, .inl (iA fP)))] s.heap.size) = QQ
  refine lv_aload_n hx hb dC_replace_0 rfl (lv_at hl 1 rfl) ?_
  refine va_getN (ci := 3) (v := .int (iI (pn : Int))) (C := "WindingRaster$RunList") (T := TL) (N := 2) hx hb hts in_3 hown hK hP 3 rfl rfl 1 (by decide) fl_47 (fun _ h9 => h9) rfl dC_replace_1 ?_
  refine ii_sipush (n := 24000) hx hb dC_replace_4 (by decide +kernel) ?_
  refine lv_aload_n hx hb dC_replace_7 rfl (lv_at hl 0 rfl) ?_
  refine cs_i (va_runV (As := []) (rest := [.int (iI 24000), .int (iI (pn : Int))]) ⟨hx, hb, hml, hown, hts⟩ (c_start l D cA cB cS cp ai at_ fI fS sv en st0 (by omega) h2) ⟨(callB_of 0 hts (gIn vm_160) rfl rfl rfl (hts _ (List.mem_cons_of_mem _ vm_5)) (hts _ (List.mem_cons_of_mem _ vm_192)) (by decide +kernel) ⟨Nat.le_of_ble_eq_true rfl, Nat.le_of_ble_eq_true rfl⟩), (hts _ (List.mem_cons_of_mem _ vm_159)), (hts _ (List.mem_cons_of_mem _ vm_395))⟩ (pR.preV (va_recv hK hP (ci := 2) (q0 := 0) rfl rfl) (hP.sub [0, 1, 2] rfl) hKW) rfl rfl hl.1 rfl (lv_room (Nat.le_of_ble_eq_true rfl)) dC_replace_8 ⟨Nat.le_of_ble_eq_true rfl, Nat.le_of_ble_eq_true rfl⟩) (fun z_1 hz_1 => ?_)
  subst hz_1
  refine ii_isub hx hb dC_replace_11 ?_
  refine ii_icmp_le (tgt := 17) hx hb dC_replace_12 (by decide) (by omega) (by omega) (fun c12 => ?_) (fun c12 => ?_)
  · refine lv_aload_n hx hb dC_replace_17 rfl (lv_at hl 1 rfl) ?_
    refine va_getN (ci := 3) (v := .ref ap) (C := "WindingRaster$RunList") (T := TL) (N := 2) hx hb hts in_3 hown hK hP 3 rfl rfl 0 (by decide) fl_52 (fun _ h9 => h9) rfl dC_replace_18 ?_
    refine ii_iconst (n := 0) hx hb dC_replace_21 ?_
    refine lv_aload_n hx hb dC_replace_22 rfl (lv_at hl 0 rfl) ?_
    refine va_get (ci := 2) (v := .ref ai) (C := "WindingRaster$ClipPile") (T := TC) (N := 4) hx hb hts in_2 hown hK hP 0 rfl rfl 0 (by decide) fl_9 (fun _ h9 => h9) rfl dC_replace_23 ?_
    refine lv_aload_n hx hb dC_replace_26 rfl (lv_at hl 0 rfl) ?_
    refine cs_i (va_runV (As := []) (rest := [.ref ai, .int (iI 0), .ref ap]) ⟨hx, hb, hml, hown, hts⟩ (c_start l D cA cB cS cp ai at_ fI fS sv en st0 (by omega) h2) ⟨(callB_of 0 hts (gIn vm_160) rfl rfl rfl (hts _ (List.mem_cons_of_mem _ vm_5)) (hts _ (List.mem_cons_of_mem _ vm_192)) (by decide +kernel) ⟨Nat.le_of_ble_eq_true rfl, Nat.le_of_ble_eq_true rfl⟩), (hts _ (List.mem_cons_of_mem _ vm_159)), (hts _ (List.mem_cons_of_mem _ vm_395))⟩ (pR.preV (va_recv hK hP (ci := 2) (q0 := 0) rfl rfl) (hP.sub [0, 1, 2] rfl) hKW) rfl rfl hl.1 rfl (lv_room (Nat.le_of_ble_eq_true rfl)) dC_replace_27 ⟨Nat.le_of_ble_eq_true rfl, Nat.le_of_ble_eq_true rfl⟩) (fun z_2 hz_2 => ?_)
    subst hz_2
    refine lv_aload_n hx hb dC_replace_30 rfl (lv_at hl 1 rfl) ?_
    refine va_getN (ci := 3) (v := .int (iI (pn : Int))) (C := "WindingRaster$RunList") (T := TL) (N := 2) hx hb hts in_3 hown hK hP 3 rfl rfl 1 (by decide) fl_47 (fun _ h9 => h9) rfl dC_replace_31 ?_
    refine ii_copy hx hb (hml.trans hl.1.symm) hown ml_41 ac_n ac_s ac_i hK hP hD hS 4 1 0 rfl rfl rfl 0 st0 pn (by omega) (by omega) (by omega) (by omega) (by omega) (by omega) (by omega) (Nat.le_of_ble_eq_true rfl) (Nat.le_of_ble_eq_true rfl) dC_replace_34 (fun H locs hP hD hS => ?_)
    have hP : va_P D vwCl [(cp, .inr (2, [.ref ai, .ref at_, .int (iI (sv : Int)), .int (iI (en : Int))])), (ai, .inl (cA, 24000, .inl (iA (va_cpy fP fI 0 st0 pn)))), (at_, .inl (cA, 13, .inl (iA fS))), (pl, .inr (3, [.ref ap, .int (iI (pn : Int))])), (ap, .inl (cA, pm, .inl (iA fP)))] H := hP
    have hD : va_D A [(cp, .inr (2, [.ref ai, .ref at_, .int (iI (sv : Int)), .int (iI (en : Int))])), (ai, .inl (cA, 24000, .inl (iA (va_cpy fP fI 0 st0 pn)))), (at_, .inl (cA, 13, .inl (iA fS))), (pl, .inr (3, [.ref ap, .int (iI (pn : Int))])), (ap, .inl (cA, pm, .inl (iA fP)))] := hD
    refine lv_aload_n hx hb dC_replace_37 rfl (lv_at hl 0 rfl) ?_
    refine lv_aload_n hx hb dC_replace_38 rfl (lv_at hl 0 rfl) ?_
    refine cs_i (va_runV (As := []) (rest := [.ref cp]) ⟨hx, hb, hml, hown, hts⟩ (c_start l D cA cB cS cp ai at_ (va_cpy fP fI 0 st0 pn) fS sv en st0 (by omega) h2) ⟨(callB_of 0 hts (gIn vm_160) rfl rfl rfl (hts _ (List.mem_cons_of_mem _ vm_5)) (hts _ (List.mem_cons_of_mem _ vm_192)) (by decide +kernel) ⟨Nat.le_of_ble_eq_true rfl, Nat.le_of_ble_eq_true rfl⟩), (hts _ (List.mem_cons_of_mem _ vm_159)), (hts _ (List.mem_cons_of_mem _ vm_395))⟩ (pR.preV (va_recv hK hP (ci := 2) (q0 := 0) rfl rfl) (hP.sub [0, 1, 2] rfl) hKW) rfl rfl hl.1 rfl (lv_room (Nat.le_of_ble_eq_true rfl)) dC_replace_39 ⟨Nat.le_of_ble_eq_true rfl, Nat.le_of_ble_eq_true rfl⟩) (fun z_3 hz_3 => ?_)
    subst hz_3
    refine lv_aload_n hx hb dC_replace_42 rfl (lv_at hl 1 rfl) ?_
    refine va_getN (ci := 3) (v := .int (iI (pn : Int))) (C := "WindingRaster$RunList") (T := TL) (N := 2) hx hb hts in_3 hown hK hP 3 rfl rfl 1 (by decide) fl_47 (fun _ h9 => h9) rfl dC_replace_43 ?_
    refine ii_iadd hx hb dC_replace_46 ?_
    refine ii_top (y := ((st0 + pn : Nat) : Int)) (by push_cast; rfl) ?_
    refine va_put (ci := 2) (v := .int (iI ((st0 + pn : Nat) : Int))) (ty := .int) (C := "WindingRaster$ClipPile") (T := TC) (N := 4) hx hb hts in_2 tC tC_ok nC hown hK hP hD hS 0 rfl rfl 3 (by decide) fl_30 (fun _ h9 => h9) rfl (by decide +kernel) rfl rfl (Nat.le_of_ble_eq_true rfl) dC_replace_47 (fun H locs hP hD hS => ?_)
    have hP : va_P D vwCl [(cp, .inr (2, [.ref ai, .ref at_, .int (iI (sv : Int)), .int (iI ((st0 + pn : Nat) : Int))])), (ai, .inl (cA, 24000, .inl (iA (va_cpy fP fI 0 st0 pn)))), (at_, .inl (cA, 13, .inl (iA fS))), (pl, .inr (3, [.ref ap, .int (iI (pn : Int))])), (ap, .inl (cA, pm, .inl (iA fP)))] H := hP
    have hD : va_D A [(cp, .inr (2, [.ref ai, .ref at_, .int (iI (sv : Int)), .int (iI ((st0 + pn : Nat) : Int))])), (ai, .inl (cA, 24000, .inl (iA (va_cpy fP fI 0 st0 pn)))), (at_, .inl (cA, 13, .inl (iA fS))), (pl, .inr (3, [.ref ap, .int (iI (pn : Int))])), (ap, .inl (cA, pm, .inl (iA fP)))] := hD
    refine ii_iconst (n := 1) hx hb dC_replace_50 ?_
    rw [← hQ]
    exact wr_zret (va_cpy fP fI 0 st0 pn, st0 + pn) hx hb hr hlocks (nar_b (by omega)) hAe (hP.sub [0, 1, 2, 3, 4] rfl) (hD.sub [0, 1, 2, 3, 4] (by decide) rfl) hS (Or.inr ⟨rfl, by omega, rfl, rfl⟩) dC_replace_51
  · refine ii_iconst (n := 0) hx hb dC_replace_15 ?_
    rw [← hQ]
    exact wr_zret (fI, en) hx hb hr hlocks (nar_b (by omega)) hAe (hP.sub [0, 1, 2, 3, 4] rfl) (hD.sub [0, 1, 2, 3, 4] (by decide) rfl) hS (Or.inl ⟨rfl, by omega, rfl, rfl⟩) dC_replace_16

def rm_c_has : Room := { frames := 1, cells := 0, slots := 0, locals := 20 }
set_option maxHeartbeats 4000000 in
set_option maxRecDepth 100000 in
theorem c_has (l : Launch) (D : va_G) (cA cB cS : ClassId) (cp : Nat) (ai : Nat) (at_ : Nat) (fI : Nat → Int) (fS : Nat → Int) (sv : Nat) (en : Nat) (st0 : Nat) (kc : Nat) (kr : Nat) (L : List Run3) (cs : Nat) (rs : Nat) (h1 : sv ≤ 12) (h2 : fS sv = (st0 : Int)) (h3 : segL fI st0 L) (h4 : st0 + L.length = en) (h5 : ∀ x ∈ L, runOk cs rs x) (h6 : cs ≤ 256) (h7 : rs ≤ 256) (h8 : en ≤ 24000) (h9 : kc < 256 ∧ kr < 256) : Met l yC_has wC_has rm_c_has (pR [.ref cp, .int (iI (kc : Int)), .int (iI (kr : Int))] D vwCl (vwTy cA cB cS) vwNw [(cp, .inr (2, [.ref ai, .ref at_, .int (iI (sv : Int)), .int (iI (en : Int))])), (ai, .inl (cA, 24000, .inl (iA fI))), (at_, .inl (cA, 13, .inl (iA fS)))]) (qI (fun z => (z = 1 ∧ (memL L kr kc)) ∨ (z = 0 ∧ ¬ (memL L kr kc)))) 0 0 (fun _ => False) := by
  refine Met.ofW (cc := bC_has) (maxL := 5) (ret := (some .boolean)) (by decide +kernel) rfl ?_
  intro p e s m args below meth c s₁ B hml hv
  obtain ⟨rfl, hP, hKW⟩ := hv
  have hK := hKW.1
  have hN := hKW.2.2
  have hx := B.exec
  have hb := B.bytes
  have hr := B.returns
  have hts := atoms_spec (ws := wC_has) B.pre
  have hown : s.vm.findClass "WindingRaster$ClipPile" = some m.cls := findClass_of_methodNamed B.named
  have hlocks := B.notSynchronized
  have hP : va_P D vwCl [(cp, .inr (2, [.ref ai, .ref at_, .int (iI (sv : Int)), .int (iI (en : Int))])), (ai, .inl (cA, 24000, .inl (iA fI))), (at_, .inl (cA, 13, .inl (iA fS)))] s.heap := hP
  have in_2 : ∀ w ∈ wsC, w ∈ wC_has := fun w h => List.mem_cons_of_mem _ (in0_C w h)
  have fl_30 := (hts _ (List.mem_cons_of_mem _ vm_54))
  have fl_9 := (hts _ (List.mem_cons_of_mem _ vm_51))
  have hl := lv_entry ([.ref cp, .int (iI (kc : Int)), .int (iI (kr : Int))]) (n := 5) (Nat.le_of_ble_eq_true rfl)
  rw [lg_entry_eq]
  generalize (lg_sl ([.ref cp, .int (iI (kc : Int)), .int (iI (kr : Int))]) ++ List.replicate (5 - (lg_sl ([.ref cp, .int (iI (kc : Int)), .int (iI (kr : Int))])).length) Slot.unset).toArray = ls at hl ⊢
  have hl : lv_has ls 5 [(0, .ref cp), (1, .int (iI (kc : Int))), (2, .int (iI (kr : Int)))] := hl
  generalize hQ : MQ below (qI (fun z => (z = 1 ∧ (memL L kr kc)) ∨ (z = 0 ∧ ¬ (memL L kr kc)))) [.ref cp, .int (iI (kc : Int)), .int (iI (kr : Int))].toArray s 0 0 (fun _ => False) = QQ
  refine lv_aload_n hx hb dC_has_0 rfl (lv_at hl 0 rfl) ?_
  refine cs_i (va_runV (As := []) (rest := []) ⟨hx, hb, hml, hown, hts⟩ (c_start l D cA cB cS cp ai at_ fI fS sv en st0 (by omega) h2) ⟨(callB_of 0 hts (gIn vm_160) rfl rfl rfl (hts _ (List.mem_cons_of_mem _ vm_5)) (hts _ (List.mem_cons_of_mem _ vm_192)) (by decide +kernel) ⟨Nat.le_of_ble_eq_true rfl, Nat.le_of_ble_eq_true rfl⟩), (hts _ (List.mem_cons_of_mem _ vm_159)), (hts _ (List.mem_cons_of_mem _ vm_395))⟩ (pR.preV (va_recv hK hP (ci := 2) (q0 := 0) rfl rfl) (hP.sub [0, 1, 2] rfl) hKW) rfl rfl hl.1 rfl (lv_room (Nat.le_of_ble_eq_true rfl)) dC_has_1 ⟨Nat.le_of_ble_eq_true rfl, Nat.le_of_ble_eq_true rfl⟩) (fun z_1 hz_1 => ?_)
  subst hz_1
  refine lv_istore_n (lv' := [(3, .int (iI (st0 : Int))), (0, .ref cp), (1, .int (iI (kc : Int))), (2, .int (iI (kr : Int)))]) hx hb dC_has_4 rfl hl (by decide) rfl (fun ls hl => ?_)
  have lp5 : ∀ (n_ : Nat) (i : Nat) (T : List Run3), (segL fI i T) → (i + T.length = en) → (∀ x ∈ T, runOk cs rs x) → (memL L kr kc ↔ memL T kr kc) → (T.length) < n_ → ∀ ls : Array Slot, lv_has ls 5 [(3, .int (iI (i : Int))), (0, .ref cp), (1, .int (iI (kc : Int))), (2, .int (iI (kr : Int)))] → W p l e (headSpec wC_has rm_c_has).room s m [.ref cp, .int (iI (kc : Int)), .int (iI (kr : Int))].toArray below meth c s.heap [] 0 0 QQ (F0 m 5 ls []) := by
    intro n_
    induction n_ with
    | zero =>
      intro i T i1 i2 i3 i4 hm_
      exact absurd hm_ (Nat.not_lt_zero _)
    | succ n_ ih_lp5 =>
      intro i T i1 i2 i3 i4 hm_lp5 ls hl
      refine lv_iload_n hx hb dC_has_5 rfl (lv_at hl 0 rfl) ?_
      refine lv_aload_n hx hb dC_has_6 rfl (lv_at hl 1 rfl) ?_
      refine va_get (ci := 2) (v := .int (iI (en : Int))) (C := "WindingRaster$ClipPile") (T := TC) (N := 4) hx hb hts in_2 hown hK hP 0 rfl rfl 3 (by decide) fl_30 (fun _ h9 => h9) rfl dC_has_7 ?_
      refine ii_icmp_ge (tgt := 56) hx hb dC_has_10 (by decide) (by omega) (by omega) (fun c10 => ?_) (fun c10 => ?_)
      · refine ii_iconst (n := 0) hx hb dC_has_56 ?_
        rw [← hQ]
        exact rd_zret hx hb hr hlocks (nar_b (by omega)) (Or.inr ⟨rfl, fun q => by rw [i4, List.eq_nil_of_length_eq_zero (l := T) (by omega)] at q; exact memL_nil _ _ q⟩) dC_has_57
      · obtain ⟨x, T1, hT⟩ : ∃ x T1, T = x :: T1 := by
          cases T with
          | nil => exact absurd i2 (by rw [List.length_nil]; omega)
          | cons x T1 => exact ⟨x, T1, rfl⟩
        subst hT
        obtain ⟨hs1, hs2⟩ := i1
        have hok := i3 x List.mem_cons_self
        have e1 := enc_row hok h6
        have e2 := enc_from hok h6
        have e3 := enc_end hok h6
        have e4 := enc_lt hok h6 h7
        rw [List.length_cons] at i2
        have hok2 := hok.2.1
        refine lv_aload_n hx hb dC_has_13 rfl (lv_at hl 1 rfl) ?_
        refine va_get (ci := 2) (v := .ref ai) (C := "WindingRaster$ClipPile") (T := TC) (N := 4) hx hb hts in_2 hown hK hP 0 rfl rfl 0 (by decide) fl_9 (fun _ h9 => h9) rfl dC_has_14 ?_
        refine lv_iload_n hx hb dC_has_17 rfl (lv_at hl 0 rfl) ?_
        refine ii_iald hx hb hK hP 1 0 rfl rfl i rfl (by omega) (by omega) dC_has_18 ?_
        refine ii_top (y := ((enc x : Nat) : Int)) hs1 ?_
        refine lv_istore (lv' := [(4, .int (iI ((enc x : Nat) : Int))), (3, .int (iI (i : Int))), (0, .ref cp), (1, .int (iI (kc : Int))), (2, .int (iI (kr : Int)))]) hx hb dC_has_19 hl (by decide) rfl (fun ls hl => ?_)
        refine lv_iload hx hb dC_has_21 (lv_at hl 0 rfl) ?_
        refine cs_i (va_runSN (As := [.int (iI ((enc x : Nat) : Int))]) (rest := []) ⟨hx, hb, hml, hown, hts⟩ (c_rowOf l D cA cB cS (enc x) (by omega)) ⟨(va_cnB 1 hts (gIn vm_162) rfl rfl rfl (hN _ vn_32) (hts _ (List.mem_cons_of_mem _ vm_6)) (by decide +kernel) ⟨Nat.le_of_ble_eq_true rfl, Nat.le_of_ble_eq_true rfl⟩), (hts _ (List.mem_cons_of_mem _ vm_161)), trivial⟩ (pR.pre (hP.sub [] rfl) hKW) rfl rfl hl.1 rfl (lv_room (Nat.le_of_ble_eq_true rfl)) dC_has_23 ⟨Nat.le_of_ble_eq_true rfl, Nat.le_of_ble_eq_true rfl⟩) (fun z_2 hz_2 => ?_)
        subst hz_2
        refine lv_iload_n hx hb dC_has_26 rfl (lv_at hl 4 rfl) ?_
        refine ii_icmp_ne (tgt := 50) hx hb dC_has_27 (by decide) (by omega) (by omega) (fun c27 => ?_) (fun c27 => ?_)
        · refine lv_iinc (v := iI ((i + 1 : Nat) : Int)) (lv' := [(3, .int (iI ((i + 1 : Nat) : Int))), (4, .int (iI ((enc x : Nat) : Int))), (0, .ref cp), (1, .int (iI (kc : Int))), (2, .int (iI (kr : Int)))]) hx hb dC_has_50 hl (k := 1) rfl (iI_inc _ 1 (by omega)) (by decide) rfl (fun ls hl => ?_)
          refine lv_goto (tgt := 5) hx hb dC_has_53 (by decide) ?_
          exact ih_lp5 (i + 1) T1 hs2 (by omega) (fun y hy => i3 y (List.mem_cons_of_mem _ hy)) (i4.trans ((memL_cons x T1 kr kc).trans ⟨fun q => q.resolve_left (fun w => by omega), Or.inr⟩)) (by rw [List.length_cons] at hm_lp5; omega) _ (lv_sub hl [0, 2, 3, 4] rfl)
        · refine lv_iload hx hb dC_has_30 (lv_at hl 0 rfl) ?_
          refine cs_i (va_runSN (As := [.int (iI ((enc x : Nat) : Int))]) (rest := []) ⟨hx, hb, hml, hown, hts⟩ (c_fromOf l D cA cB cS (enc x) (by omega)) ⟨(va_cnB 1 hts (gIn vm_173) rfl rfl rfl (hN _ vn_33) (hts _ (List.mem_cons_of_mem _ vm_6)) (by decide +kernel) ⟨Nat.le_of_ble_eq_true rfl, Nat.le_of_ble_eq_true rfl⟩), (hts _ (List.mem_cons_of_mem _ vm_172)), trivial⟩ (pR.pre (hP.sub [] rfl) hKW) rfl rfl hl.1 rfl (lv_room (Nat.le_of_ble_eq_true rfl)) dC_has_32 ⟨Nat.le_of_ble_eq_true rfl, Nat.le_of_ble_eq_true rfl⟩) (fun z_3 hz_3 => ?_)
          subst hz_3
          refine lv_iload_n hx hb dC_has_35 rfl (lv_at hl 3 rfl) ?_
          refine ii_icmp_gt (tgt := 50) hx hb dC_has_36 (by decide) (by omega) (by omega) (fun c36 => ?_) (fun c36 => ?_)
          · refine lv_iinc (v := iI ((i + 1 : Nat) : Int)) (lv' := [(3, .int (iI ((i + 1 : Nat) : Int))), (4, .int (iI ((enc x : Nat) : Int))), (0, .ref cp), (1, .int (iI (kc : Int))), (2, .int (iI (kr : Int)))]) hx hb dC_has_50 hl (k := 1) rfl (iI_inc _ 1 (by omega)) (by decide) rfl (fun ls hl => ?_)
            refine lv_goto (tgt := 5) hx hb dC_has_53 (by decide) ?_
            exact ih_lp5 (i + 1) T1 hs2 (by omega) (fun y hy => i3 y (List.mem_cons_of_mem _ hy)) (i4.trans ((memL_cons x T1 kr kc).trans ⟨fun q => q.resolve_left (fun w => by omega), Or.inr⟩)) (by rw [List.length_cons] at hm_lp5; omega) _ (lv_sub hl [0, 2, 3, 4] rfl)
          · refine lv_iload_n hx hb dC_has_39 rfl (lv_at hl 3 rfl) ?_
            refine lv_iload hx hb dC_has_40 (lv_at hl 0 rfl) ?_
            refine cs_i (va_runSN (As := [.int (iI ((enc x : Nat) : Int))]) (rest := [.int (iI (kc : Int))]) ⟨hx, hb, hml, hown, hts⟩ (c_endOf l D cA cB cS (enc x) (by omega)) ⟨(va_cnB 1 hts (gIn vm_171) rfl rfl rfl (hN _ vn_34) (hts _ (List.mem_cons_of_mem _ vm_6)) (by decide +kernel) ⟨Nat.le_of_ble_eq_true rfl, Nat.le_of_ble_eq_true rfl⟩), (hts _ (List.mem_cons_of_mem _ vm_170)), trivial⟩ (pR.pre (hP.sub [] rfl) hKW) rfl rfl hl.1 rfl (lv_room (Nat.le_of_ble_eq_true rfl)) dC_has_42 ⟨Nat.le_of_ble_eq_true rfl, Nat.le_of_ble_eq_true rfl⟩) (fun z_4 hz_4 => ?_)
            subst hz_4
            refine ii_icmp_ge (tgt := 50) hx hb dC_has_45 (by decide) (by omega) (by omega) (fun c45 => ?_) (fun c45 => ?_)
            · refine lv_iinc (v := iI ((i + 1 : Nat) : Int)) (lv' := [(3, .int (iI ((i + 1 : Nat) : Int))), (4, .int (iI ((enc x : Nat) : Int))), (0, .ref cp), (1, .int (iI (kc : Int))), (2, .int (iI (kr : Int)))]) hx hb dC_has_50 hl (k := 1) rfl (iI_inc _ 1 (by omega)) (by decide) rfl (fun ls hl => ?_)
              refine lv_goto (tgt := 5) hx hb dC_has_53 (by decide) ?_
              exact ih_lp5 (i + 1) T1 hs2 (by omega) (fun y hy => i3 y (List.mem_cons_of_mem _ hy)) (i4.trans ((memL_cons x T1 kr kc).trans ⟨fun q => q.resolve_left (fun w => by omega), Or.inr⟩)) (by rw [List.length_cons] at hm_lp5; omega) _ (lv_sub hl [0, 2, 3, 4] rfl)
            · refine ii_iconst (n := 1) hx hb dC_has_48 ?_
              rw [← hQ]
              exact rd_zret hx hb hr hlocks (nar_b (by omega)) (Or.inl ⟨rfl, i4.mpr ((memL_cons x T1 kr kc).mpr (Or.inl ⟨by omega, by omega, by omega⟩))⟩) dC_has_49
  exact lp5 (L.length + 1) st0 L h3 h4 h5 Iff.rfl (Nat.lt_succ_self _) _ (lv_sub hl [0, 1, 2, 3] rfl)

def rm_c_pixelCount : Room := { frames := 2, cells := 0, slots := 0, locals := 40 }
set_option maxHeartbeats 4000000 in
set_option maxRecDepth 100000 in
theorem c_pixelCount (l : Launch) (D : va_G) (cA cB cS : ClassId) (cp : Nat) (ai : Nat) (at_ : Nat) (fI : Nat → Int) (fS : Nat → Int) (sv : Nat) (en : Nat) (st0 : Nat) (L : List Run3) (cs : Nat) (rs : Nat) (h1 : sv ≤ 12) (h2 : fS sv = (st0 : Int)) (h3 : segL fI st0 L) (h4 : st0 + L.length = en) (h5 : ∀ x ∈ L, runOk cs rs x) (h6 : cs ≤ 256) (h7 : rs ≤ 256) (h8 : en ≤ 24000) : Met l yC_pixelCount wC_pixelCount rm_c_pixelCount (pR [.ref cp] D vwCl (vwTy cA cB cS) vwNw [(cp, .inr (2, [.ref ai, .ref at_, .int (iI (sv : Int)), .int (iI (en : Int))])), (ai, .inl (cA, 24000, .inl (iA fI))), (at_, .inl (cA, 13, .inl (iA fS)))]) (qI (fun z => z = ((lenS L : Nat) : Int))) 0 0 (fun _ => False) := by
  refine Met.ofW (cc := bC_pixelCount) (maxL := 3) (ret := (some .int)) (by decide +kernel) rfl ?_
  intro p e s m args below meth c s₁ B hml hv
  obtain ⟨rfl, hP, hKW⟩ := hv
  have hK := hKW.1
  have hN := hKW.2.2
  have hx := B.exec
  have hb := B.bytes
  have hr := B.returns
  have hts := atoms_spec (ws := wC_pixelCount) B.pre
  have hown : s.vm.findClass "WindingRaster$ClipPile" = some m.cls := findClass_of_methodNamed B.named
  have hlocks := B.notSynchronized
  have hP : va_P D vwCl [(cp, .inr (2, [.ref ai, .ref at_, .int (iI (sv : Int)), .int (iI (en : Int))])), (ai, .inl (cA, 24000, .inl (iA fI))), (at_, .inl (cA, 13, .inl (iA fS)))] s.heap := hP
  have in_2 : ∀ w ∈ wsC, w ∈ wC_pixelCount := fun w h => List.mem_cons_of_mem _ (in0_C w h)
  have fl_30 := (hts _ (List.mem_cons_of_mem _ vm_54))
  have fl_9 := (hts _ (List.mem_cons_of_mem _ vm_51))
  have hl := lv_entry ([.ref cp]) (n := 3) (Nat.le_of_ble_eq_true rfl)
  rw [lg_entry_eq]
  generalize (lg_sl ([.ref cp]) ++ List.replicate (3 - (lg_sl ([.ref cp])).length) Slot.unset).toArray = ls at hl ⊢
  have hl : lv_has ls 3 [(0, .ref cp)] := hl
  generalize hQ : MQ below (qI (fun z => z = ((lenS L : Nat) : Int))) [.ref cp].toArray s 0 0 (fun _ => False) = QQ
  refine ii_iconst (n := 0) hx hb dC_pixelCount_0 ?_
  refine lv_istore_n (lv' := [(1, .int (iI 0)), (0, .ref cp)]) hx hb dC_pixelCount_1 rfl hl (by decide) rfl (fun ls hl => ?_)
  refine lv_aload_n hx hb dC_pixelCount_2 rfl (lv_at hl 1 rfl) ?_
  refine cs_i (va_runV (As := []) (rest := []) ⟨hx, hb, hml, hown, hts⟩ (c_start l D cA cB cS cp ai at_ fI fS sv en st0 (by omega) h2) ⟨(callB_of 0 hts (gIn vm_160) rfl rfl rfl (hts _ (List.mem_cons_of_mem _ vm_5)) (hts _ (List.mem_cons_of_mem _ vm_192)) (by decide +kernel) ⟨Nat.le_of_ble_eq_true rfl, Nat.le_of_ble_eq_true rfl⟩), (hts _ (List.mem_cons_of_mem _ vm_159)), (hts _ (List.mem_cons_of_mem _ vm_395))⟩ (pR.preV (va_recv hK hP (ci := 2) (q0 := 0) rfl rfl) (hP.sub [0, 1, 2] rfl) hKW) rfl rfl hl.1 rfl (lv_room (Nat.le_of_ble_eq_true rfl)) dC_pixelCount_3 ⟨Nat.le_of_ble_eq_true rfl, Nat.le_of_ble_eq_true rfl⟩) (fun z_1 hz_1 => ?_)
  subst hz_1
  refine lv_istore_n (lv' := [(2, .int (iI (st0 : Int))), (1, .int (iI 0)), (0, .ref cp)]) hx hb dC_pixelCount_6 rfl hl (by decide) rfl (fun ls hl => ?_)
  have lp7 : ∀ (n_ : Nat) (i : Nat) (T : List Run3) (sm_ : Nat), (segL fI i T) → (i + T.length = en) → (∀ x ∈ T, runOk cs rs x) → (sm_ + lenS T = lenS L) → (T.length) < n_ → ∀ ls : Array Slot, lv_has ls 3 [(2, .int (iI (i : Int))), (1, .int (iI (sm_ : Int))), (0, .ref cp)] → W p l e (headSpec wC_pixelCount rm_c_pixelCount).room s m [.ref cp].toArray below meth c s.heap [] 0 0 QQ (F0 m 7 ls []) := by
    intro n_
    induction n_ with
    | zero =>
      intro i T sm_ i1 i2 i3 i4 hm_
      exact absurd hm_ (Nat.not_lt_zero _)
    | succ n_ ih_lp7 =>
      intro i T sm_ i1 i2 i3 i4 hm_lp7 ls hl
      refine lv_iload_n hx hb dC_pixelCount_7 rfl (lv_at hl 0 rfl) ?_
      refine lv_aload_n hx hb dC_pixelCount_8 rfl (lv_at hl 2 rfl) ?_
      refine va_get (ci := 2) (v := .int (iI (en : Int))) (C := "WindingRaster$ClipPile") (T := TC) (N := 4) hx hb hts in_2 hown hK hP 0 rfl rfl 3 (by decide) fl_30 (fun _ h9 => h9) rfl dC_pixelCount_9 ?_
      refine ii_icmp_ge (tgt := 33) hx hb dC_pixelCount_12 (by decide) (by omega) (by omega) (fun c12 => ?_) (fun c12 => ?_)
      · refine lv_iload_n hx hb dC_pixelCount_33 rfl (lv_at hl 1 rfl) ?_
        rw [← hQ]
        exact rd_iret hx hb hr hlocks (by rw [List.eq_nil_of_length_eq_zero (l := T) (by omega)] at i4; have e5 : lenS [] = 0 := rfl; omega) dC_pixelCount_34
      · obtain ⟨x, T1, hT⟩ : ∃ x T1, T = x :: T1 := by
          cases T with
          | nil => exact absurd i2 (by rw [List.length_nil]; omega)
          | cons x T1 => exact ⟨x, T1, rfl⟩
        subst hT
        obtain ⟨hs1, hs2⟩ := i1
        have hok := i3 x List.mem_cons_self
        have e1 := enc_row hok h6
        have e2 := enc_from hok h6
        have e3 := enc_end hok h6
        have e4 := enc_lt hok h6 h7
        rw [List.length_cons] at i2
        have hok2 := hok.2.1
        refine lv_iload_n hx hb dC_pixelCount_15 rfl (lv_at hl 1 rfl) ?_
        refine lv_aload_n hx hb dC_pixelCount_16 rfl (lv_at hl 2 rfl) ?_
        refine va_get (ci := 2) (v := .ref ai) (C := "WindingRaster$ClipPile") (T := TC) (N := 4) hx hb hts in_2 hown hK hP 0 rfl rfl 0 (by decide) fl_9 (fun _ h9 => h9) rfl dC_pixelCount_17 ?_
        refine lv_iload_n hx hb dC_pixelCount_20 rfl (lv_at hl 0 rfl) ?_
        refine ii_iald hx hb hK hP 1 0 rfl rfl i rfl (by omega) (by omega) dC_pixelCount_21 ?_
        refine ii_top (y := ((enc x : Nat) : Int)) hs1 ?_
        refine cs_i (va_runSN (As := [.int (iI ((enc x : Nat) : Int))]) (rest := [.int (iI (sm_ : Int))]) ⟨hx, hb, hml, hown, hts⟩ (c_lengthOf l D cA cB cS (enc x) (by omega) (by omega)) ⟨(va_cnB 1 hts (gIn vm_183) rfl rfl rfl (hN _ vn_28) (hts _ (List.mem_cons_of_mem _ vm_6)) (by decide +kernel) ⟨Nat.le_of_ble_eq_true rfl, Nat.le_of_ble_eq_true rfl⟩), (hts _ (List.mem_cons_of_mem _ vm_182)), trivial⟩ (pR.pre (hP.sub [] rfl) hKW) rfl rfl hl.1 rfl (lv_room (Nat.le_of_ble_eq_true rfl)) dC_pixelCount_22 ⟨Nat.le_of_ble_eq_true rfl, Nat.le_of_ble_eq_true rfl⟩) (fun z_2 hz_2 => ?_)
        subst hz_2
        refine ii_iadd hx hb dC_pixelCount_25 ?_
        refine ii_top (y := ((sm_ + ((enc x) % 512 - (enc x) / 512 % 512) : Nat) : Int)) (by push_cast; rfl) ?_
        refine lv_istore_n (lv' := [(1, .int (iI ((sm_ + ((enc x) % 512 - (enc x) / 512 % 512) : Nat) : Int))), (2, .int (iI (i : Int))), (0, .ref cp)]) hx hb dC_pixelCount_26 rfl hl (by decide) rfl (fun ls hl => ?_)
        refine lv_iinc (v := iI ((i + 1 : Nat) : Int)) (lv' := [(2, .int (iI ((i + 1 : Nat) : Int))), (1, .int (iI ((sm_ + ((enc x) % 512 - (enc x) / 512 % 512) : Nat) : Int))), (0, .ref cp)]) hx hb dC_pixelCount_27 hl (k := 1) rfl (iI_inc _ 1 (by omega)) (by decide) rfl (fun ls hl => ?_)
        refine lv_goto (tgt := 7) hx hb dC_pixelCount_30 (by decide) ?_
        exact ih_lp7 (i + 1) T1 (sm_ + ((enc x) % 512 - (enc x) / 512 % 512)) hs2 (by omega) (fun y hy => i3 y (List.mem_cons_of_mem _ hy)) (by have e5 : lenS (x :: T1) = (x.2.2 - x.2.1) + lenS T1 := rfl; omega) (by rw [List.length_cons] at hm_lp7; omega) _ (lv_sub hl [0, 1, 2] rfl)
  exact lp7 (L.length + 1) st0 L 0 h3 h4 h5 (Nat.zero_add _) (Nat.lt_succ_self _) _ (lv_sub hl [0, 1, 2] rfl)
end
section
def rm_c_hasPixel : Room := { frames := 0, cells := 0, slots := 0, locals := 0 }
set_option maxHeartbeats 4000000 in
set_option maxRecDepth 100000 in
theorem c_hasPixel (l : Launch) (D : va_G) (cA cB cS : ClassId) (wr : Nat) (cs : Nat) (rs : Nat) (ag : Nat) (oo : Nat) (cp : Nat) (aw : Nat) (pl : Nat) (a1 : Int) (a2 : Int) (h1 : i32 a1) (h2 : i32 a2) (h3 : cs ≤ 256) (h4 : rs ≤ 256) : Met l yW_hasPixel wW_hasPixel rm_c_hasPixel (pR [.ref wr, .int (iI a1), .int (iI a2)] D vwCl (vwTy cA cB cS) vwNw [(wr, .inr (0, [.int (iI (cs : Int)), .int (iI (rs : Int)), .ref ag, .ref oo, .ref cp, .ref aw, .ref pl]))]) (qI (fun z => (z = 1 ∧ (0 ≤ a1 ∧ a1 < (cs : Int) ∧ 0 ≤ a2 ∧ a2 < (rs : Int))) ∨ (z = 0 ∧ ¬ (0 ≤ a1 ∧ a1 < (cs : Int) ∧ 0 ≤ a2 ∧ a2 < (rs : Int))))) 0 0 (fun _ => False) := by
  refine Met.ofW (cc := bW_hasPixel) (maxL := 3) (ret := (some .boolean)) (by decide +kernel) rfl ?_
  intro p e s m args below meth c s₁ B hml hv
  obtain ⟨rfl, hP, hKW⟩ := hv
  have hK := hKW.1
  have hN := hKW.2.2
  have hx := B.exec
  have hb := B.bytes
  have hr := B.returns
  have hts := atoms_spec (ws := wW_hasPixel) B.pre
  have hown : s.vm.findClass "WindingRaster" = some m.cls := findClass_of_methodNamed B.named
  have hlocks := B.notSynchronized
  have hP : va_P D vwCl [(wr, .inr (0, [.int (iI (cs : Int)), .int (iI (rs : Int)), .ref ag, .ref oo, .ref cp, .ref aw, .ref pl]))] s.heap := hP
  have in_0 : ∀ w ∈ wsW, w ∈ wW_hasPixel := fun w h => List.mem_cons_of_mem _ (in0_W w h)
  have fl_18 := (hts _ (List.mem_cons_of_mem _ vm_69))
  have fl_22 := (hts _ (List.mem_cons_of_mem _ vm_70))
  have hl := lv_entry ([.ref wr, .int (iI a1), .int (iI a2)]) (n := 3) (Nat.le_of_ble_eq_true rfl)
  rw [lg_entry_eq]
  generalize (lg_sl ([.ref wr, .int (iI a1), .int (iI a2)]) ++ List.replicate (3 - (lg_sl ([.ref wr, .int (iI a1), .int (iI a2)])).length) Slot.unset).toArray = ls at hl ⊢
  have hl : lv_has ls 3 [(0, .ref wr), (1, .int (iI a1)), (2, .int (iI a2))] := hl
  generalize hQ : MQ below (qI (fun z => (z = 1 ∧ (0 ≤ a1 ∧ a1 < (cs : Int) ∧ 0 ≤ a2 ∧ a2 < (rs : Int))) ∨ (z = 0 ∧ ¬ (0 ≤ a1 ∧ a1 < (cs : Int) ∧ 0 ≤ a2 ∧ a2 < (rs : Int))))) [.ref wr, .int (iI a1), .int (iI a2)].toArray s 0 0 (fun _ => False) = QQ
  refine lv_iload_n hx hb dW_hasPixel_0 rfl (lv_at hl 1 rfl) ?_
  refine ii_if_lt (tgt := 28) hx hb dW_hasPixel_1 (by decide) (by omega) (fun c1 => ?_) (fun c1 => ?_)
  · refine ii_iconst (n := 0) hx hb dW_hasPixel_28 ?_
    rw [← hQ]
    exact rd_zret hx hb hr hlocks (nar_b (by omega)) (by omega) dW_hasPixel_29
  · refine lv_iload_n hx hb dW_hasPixel_4 rfl (lv_at hl 1 rfl) ?_
    refine lv_aload_n hx hb dW_hasPixel_5 rfl (lv_at hl 0 rfl) ?_
    refine va_get (ci := 0) (v := .int (iI (cs : Int))) (C := "WindingRaster") (T := TW) (N := 7) hx hb hts in_0 hown hK hP 0 rfl rfl 0 (by decide) fl_18 (fun _ h9 => h9) rfl dW_hasPixel_6 ?_
    refine ii_icmp_ge (tgt := 28) hx hb dW_hasPixel_9 (by decide) (by omega) (by omega) (fun c9 => ?_) (fun c9 => ?_)
    · refine ii_iconst (n := 0) hx hb dW_hasPixel_28 ?_
      rw [← hQ]
      exact rd_zret hx hb hr hlocks (nar_b (by omega)) (by omega) dW_hasPixel_29
    · refine lv_iload_n hx hb dW_hasPixel_12 rfl (lv_at hl 2 rfl) ?_
      refine ii_if_lt (tgt := 28) hx hb dW_hasPixel_13 (by decide) (by omega) (fun c13 => ?_) (fun c13 => ?_)
      · refine ii_iconst (n := 0) hx hb dW_hasPixel_28 ?_
        rw [← hQ]
        exact rd_zret hx hb hr hlocks (nar_b (by omega)) (by omega) dW_hasPixel_29
      · refine lv_iload_n hx hb dW_hasPixel_16 rfl (lv_at hl 2 rfl) ?_
        refine lv_aload_n hx hb dW_hasPixel_17 rfl (lv_at hl 0 rfl) ?_
        refine va_get (ci := 0) (v := .int (iI (rs : Int))) (C := "WindingRaster") (T := TW) (N := 7) hx hb hts in_0 hown hK hP 0 rfl rfl 1 (by decide) fl_22 (fun _ h9 => h9) rfl dW_hasPixel_18 ?_
        refine ii_icmp_ge (tgt := 28) hx hb dW_hasPixel_21 (by decide) (by omega) (by omega) (fun c21 => ?_) (fun c21 => ?_)
        · refine ii_iconst (n := 0) hx hb dW_hasPixel_28 ?_
          rw [← hQ]
          exact rd_zret hx hb hr hlocks (nar_b (by omega)) (by omega) dW_hasPixel_29
        · refine ii_iconst (n := 1) hx hb dW_hasPixel_24 ?_
          refine lv_goto (tgt := 29) hx hb dW_hasPixel_25 (by decide) ?_
          rw [← hQ]
          exact rd_zret hx hb hr hlocks (nar_b (by omega)) (by omega) dW_hasPixel_29

def rm_c_paint : Room := { frames := 2, cells := 0, slots := 0, locals := 40 }
set_option maxHeartbeats 4000000 in
set_option maxRecDepth 100000 in
theorem c_paint (l : Launch) (D : va_G) (cA cB cS : ClassId) (wr : Nat) (cs : Nat) (rs : Nat) (ag : Nat) (oo : Nat) (cp : Nat) (aw : Nat) (pl : Nat) (it : Nat) (itn : Nat) (fT : Nat → Int) (fG : Nat → Int) (st0 : Nat) (e0 : Nat) (gv : Int) (L : List Run3) (h1 : segL fT st0 L) (h2 : st0 + L.length = e0) (h5 : ∀ x ∈ L, runOk cs rs x) (h6 : cs ≤ 256) (h7 : rs ≤ 256) (h8 : e0 ≤ itn) (h9 : itn < 2147483648) (h10 : cs * rs ≤ 65536) (sz : Nat) : Met l yW_paint wW_paint rm_c_paint (pW [.ref wr, .ref it, .int (iI (st0 : Int)), .int (iI (e0 : Int)), .int (iI gv)] D vwCl (vwTy cA cB cS) vwNw [(wr, .inr (0, [.int (iI (cs : Int)), .int (iI (rs : Int)), .ref ag, .ref oo, .ref cp, .ref aw, .ref pl])), (it, .inl (cA, itn, .inl (iA fT))), (ag, .inl (cA, cs * rs, .inl (iA fG)))] sz) (qW (S := (Nat → Int)) (fun (z : Int) (fG1 : (Nat → Int)) => z = ((lenS L : Nat) : Int) ∧ ∀ p, fG1 p = paL cs gv L fG p) D vwCl [(wr, .inr (0, [.int (iI (cs : Int)), .int (iI (rs : Int)), .ref ag, .ref oo, .ref cp, .ref aw, .ref pl])), (it, .inl (cA, itn, .inl (iA fT))), (ag, .inl (cA, cs * rs, .inl (iA fG)))] sz (fun fG1 : (Nat → Int) => [(wr, .inr (0, [.int (iI (cs : Int)), .int (iI (rs : Int)), .ref ag, .ref oo, .ref cp, .ref aw, .ref pl])), (it, .inl (cA, itn, .inl (iA fT))), (ag, .inl (cA, cs * rs, .inl (iA fG1)))])) 0 0 (va_A [(wr, .inr (0, [.int (iI (cs : Int)), .int (iI (rs : Int)), .ref ag, .ref oo, .ref cp, .ref aw, .ref pl])), (it, .inl (cA, itn, .inl (iA fT))), (ag, .inl (cA, cs * rs, .inl (iA fG)))] sz) := by
  refine Met.ofW (cc := bW_paint) (maxL := 10) (ret := (some .int)) (by decide +kernel) rfl ?_
  intro p e s m args below meth c s₁ B hml hv
  obtain ⟨rfl, hsz, hP, hKW, hD0⟩ := hv
  have hK := hKW.1
  have hN := hKW.2.2
  have hx := B.exec
  have hb := B.bytes
  have hr := B.returns
  have hts := atoms_spec (ws := wW_paint) B.pre
  have hown : s.vm.findClass "WindingRaster" = some m.cls := findClass_of_methodNamed B.named
  have hlocks := B.notSynchronized
  subst hsz
  have hD := hD0.self (sz := s.heap.size)
  obtain ⟨A, hAe⟩ : ∃ A, va_A [(wr, .inr (0, [.int (iI (cs : Int)), .int (iI (rs : Int)), .ref ag, .ref oo, .ref cp, .ref aw, .ref pl])), (it, .inl (cA, itn, .inl (iA fT))), (ag, .inl (cA, cs * rs, .inl (iA fG)))] s.heap.size = A := ⟨_, rfl⟩
  rw [hAe] at hD
  have hA : ∀ q : Nat, s.heap.size ≤ q → A q := fun q h => by rw [← hAe]; exact Or.inr h
  have hS : va_S A s.heap s.heap [] := va_S.rf
  have hP : va_P D vwCl [(wr, .inr (0, [.int (iI (cs : Int)), .int (iI (rs : Int)), .ref ag, .ref oo, .ref cp, .ref aw, .ref pl])), (it, .inl (cA, itn, .inl (iA fT))), (ag, .inl (cA, cs * rs, .inl (iA fG)))] s.heap := hP
  have in_0 : ∀ w ∈ wsW, w ∈ wW_paint := fun w h => List.mem_cons_of_mem _ (in0_W w h)
  have fl_18 := (hts _ (List.mem_cons_of_mem _ vm_69))
  have fl_25 := (hts _ (List.mem_cons_of_mem _ vm_71))
  have hl := lv_entry ([.ref wr, .ref it, .int (iI (st0 : Int)), .int (iI (e0 : Int)), .int (iI gv)]) (n := 10) (Nat.le_of_ble_eq_true rfl)
  rw [lg_entry_eq]
  generalize (lg_sl ([.ref wr, .ref it, .int (iI (st0 : Int)), .int (iI (e0 : Int)), .int (iI gv)]) ++ List.replicate (10 - (lg_sl ([.ref wr, .ref it, .int (iI (st0 : Int)), .int (iI (e0 : Int)), .int (iI gv)])).length) Slot.unset).toArray = ls at hl ⊢
  have hl : lv_has ls 10 [(0, .ref wr), (1, .ref it), (2, .int (iI (st0 : Int))), (3, .int (iI (e0 : Int))), (4, .int (iI gv))] := hl
  generalize hQ : MQ below (qW (S := (Nat → Int)) (fun (z : Int) (fG1 : (Nat → Int)) => z = ((lenS L : Nat) : Int) ∧ ∀ p, fG1 p = paL cs gv L fG p) D vwCl [(wr, .inr (0, [.int (iI (cs : Int)), .int (iI (rs : Int)), .ref ag, .ref oo, .ref cp, .ref aw, .ref pl])), (it, .inl (cA, itn, .inl (iA fT))), (ag, .inl (cA, cs * rs, .inl (iA fG)))] s.heap.size (fun fG1 : (Nat → Int) => [(wr, .inr (0, [.int (iI (cs : Int)), .int (iI (rs : Int)), .ref ag, .ref oo, .ref cp, .ref aw, .ref pl])), (it, .inl (cA, itn, .inl (iA fT))), (ag, .inl (cA, cs * rs, .inl (iA fG1)))])) [.ref wr, .ref it, .int (iI (st0 : Int)), .int (iI (e0 : Int)), .int (iI gv)].toArray s 0 0 (va_A [(wr, .inr (0, [.int (iI (cs : Int)), .int (iI (rs : Int)), .ref ag, .ref oo, .ref cp, .ref aw, .ref pl])), (it, .inl (cA, itn, .inl (iA fT))), (ag, .inl (cA, cs * rs, .inl (iA fG)))] s.heap.size) = QQ
  refine ii_iconst (n := 0) hx hb dW_paint_0 ?_
  refine lv_istore (lv' := [(5, .int (iI 0)), (0, .ref wr), (1, .ref it), (2, .int (iI (st0 : Int))), (3, .int (iI (e0 : Int))), (4, .int (iI gv))]) hx hb dW_paint_1 hl (by decide) rfl (fun ls hl => ?_)
  refine lv_iload_n hx hb dW_paint_3 rfl (lv_at hl 3 rfl) ?_
  refine lv_istore (lv' := [(6, .int (iI (st0 : Int))), (5, .int (iI 0)), (0, .ref wr), (1, .ref it), (2, .int (iI (st0 : Int))), (3, .int (iI (e0 : Int))), (4, .int (iI gv))]) hx hb dW_paint_4 hl (by decide) rfl (fun ls hl => ?_)
  have lp6 : ∀ (n_ : Nat) (i : Nat) (T : List Run3) (pt : Nat) (fH : Nat → Int), (segL fT i T) → (i + T.length = e0) → (∀ x ∈ T, runOk cs rs x) → (pt + lenS T = lenS L) → (∀ p, paL cs gv T fH p = paL cs gv L fG p) → (T.length) < n_ → ∀ (H : Heap) (locs : List Loc), va_P D vwCl [(wr, .inr (0, [.int (iI (cs : Int)), .int (iI (rs : Int)), .ref ag, .ref oo, .ref cp, .ref aw, .ref pl])), (it, .inl (cA, itn, .inl (iA fT))), (ag, .inl (cA, cs * rs, .inl (iA fH)))] H → va_D A [(wr, .inr (0, [.int (iI (cs : Int)), .int (iI (rs : Int)), .ref ag, .ref oo, .ref cp, .ref aw, .ref pl])), (it, .inl (cA, itn, .inl (iA fT))), (ag, .inl (cA, cs * rs, .inl (iA fH)))] → va_S A s.heap H locs → ∀ ls : Array Slot, lv_has ls 10 [(6, .int (iI (i : Int))), (5, .int (iI (pt : Int))), (0, .ref wr), (1, .ref it), (2, .int (iI (st0 : Int))), (3, .int (iI (e0 : Int))), (4, .int (iI gv))] → W p l e (headSpec wW_paint rm_c_paint).room s m [.ref wr, .ref it, .int (iI (st0 : Int)), .int (iI (e0 : Int)), .int (iI gv)].toArray below meth c H locs 0 0 QQ (F0 m 6 ls []) := by
    intro n_
    induction n_ with
    | zero =>
      intro i T pt fH i1 i2 i3 i4 i5 hm_
      exact absurd hm_ (Nat.not_lt_zero _)
    | succ n_ ih_lp6 =>
      intro i T pt fH i1 i2 i3 i4 i5 hm_lp6 H locs hP hD hS ls hl
      refine lv_iload hx hb dW_paint_6 (lv_at hl 0 rfl) ?_
      refine lv_iload_n hx hb dW_paint_8 rfl (lv_at hl 5 rfl) ?_
      refine ii_icmp_ge (tgt := 84) hx hb dW_paint_9 (by decide) (by omega) (by omega) (fun c9 => ?_) (fun c9 => ?_)
      · refine lv_iload hx hb dW_paint_84 (lv_at hl 1 rfl) ?_
        rw [← hQ]
        exact wr_iret fH hx hb hr hlocks hAe (hP.sub [0, 1, 2] rfl) (hD.sub [0, 1, 2] (by decide) rfl) hS ⟨by rw [List.eq_nil_of_length_eq_zero (l := T) (by omega)] at i4; have e5 : lenS [] = 0 := rfl; omega, fun p => by have e5 := i5 p; rw [List.eq_nil_of_length_eq_zero (l := T) (by omega)] at e5; exact e5⟩ dW_paint_86
      · obtain ⟨x, T1, hT⟩ : ∃ x T1, T = x :: T1 := by
          cases T with
          | nil => exact absurd i2 (by rw [List.length_nil]; omega)
          | cons x T1 => exact ⟨x, T1, rfl⟩
        subst hT
        obtain ⟨hs1, hs2⟩ := i1
        have hok := i3 x List.mem_cons_self
        have e1 := enc_row hok h6
        have e2 := enc_from hok h6
        have e3 := enc_end hok h6
        have e4 := enc_lt hok h6 h7
        rw [List.length_cons] at i2
        have hok2 := hok.2.1
        have hix := idx_le (cs := cs) hok.1
        have hok3 := hok.2.2
        have hok4 := hok.1
        refine lv_aload_n hx hb dW_paint_12 rfl (lv_at hl 3 rfl) ?_
        refine lv_iload hx hb dW_paint_13 (lv_at hl 0 rfl) ?_
        refine ii_iald hx hb hK hP 1 0 rfl rfl i rfl (by omega) (by omega) dW_paint_15 ?_
        refine ii_top (y := ((enc x : Nat) : Int)) hs1 ?_
        refine cs_i (va_runSN (As := [.int (iI ((enc x : Nat) : Int))]) (rest := []) ⟨hx, hb, hml, hown, hts⟩ (c_rowOf l D cA cB cS (enc x) (by omega)) ⟨(va_cnB 1 hts (gIn vm_162) rfl rfl rfl (hN _ vn_19) (hts _ (List.mem_cons_of_mem _ vm_6)) (by decide +kernel) ⟨Nat.le_of_ble_eq_true rfl, Nat.le_of_ble_eq_true rfl⟩), (hts _ (List.mem_cons_of_mem _ vm_161)), trivial⟩ (pR.pre (hP.sub [] rfl) hKW) rfl rfl hl.1 rfl (lv_room (Nat.le_of_ble_eq_true rfl)) dW_paint_16 ⟨Nat.le_of_ble_eq_true rfl, Nat.le_of_ble_eq_true rfl⟩) (fun z_1 hz_1 => ?_)
        subst hz_1
        refine ii_top (y := ((x.1 : Nat) : Int)) (by rw [e1]) ?_
        refine lv_aload_n hx hb dW_paint_19 rfl (lv_at hl 2 rfl) ?_
        refine va_get (ci := 0) (v := .int (iI (cs : Int))) (C := "WindingRaster") (T := TW) (N := 7) hx hb hts in_0 hown hK hP 0 rfl rfl 0 (by decide) fl_18 (fun _ h9 => h9) rfl dW_paint_20 ?_
        refine ii_imul hx hb dW_paint_23 ?_
        refine ii_top (y := ((x.1 * cs : Nat) : Int)) (by push_cast; rfl) ?_
        refine lv_aload_n hx hb dW_paint_24 rfl (lv_at hl 3 rfl) ?_
        refine lv_iload hx hb dW_paint_25 (lv_at hl 0 rfl) ?_
        refine ii_iald hx hb hK hP 1 0 rfl rfl i rfl (by omega) (by omega) dW_paint_27 ?_
        refine ii_top (y := ((enc x : Nat) : Int)) hs1 ?_
        refine cs_i (va_runSN (As := [.int (iI ((enc x : Nat) : Int))]) (rest := [.int (iI ((x.1 * cs : Nat) : Int))]) ⟨hx, hb, hml, hown, hts⟩ (c_fromOf l D cA cB cS (enc x) (by omega)) ⟨(va_cnB 1 hts (gIn vm_173) rfl rfl rfl (hN _ vn_22) (hts _ (List.mem_cons_of_mem _ vm_6)) (by decide +kernel) ⟨Nat.le_of_ble_eq_true rfl, Nat.le_of_ble_eq_true rfl⟩), (hts _ (List.mem_cons_of_mem _ vm_172)), trivial⟩ (pR.pre (hP.sub [] rfl) hKW) rfl rfl hl.1 rfl (lv_room (Nat.le_of_ble_eq_true rfl)) dW_paint_28 ⟨Nat.le_of_ble_eq_true rfl, Nat.le_of_ble_eq_true rfl⟩) (fun z_2 hz_2 => ?_)
        subst hz_2
        refine ii_top (y := ((x.2.1 : Nat) : Int)) (by rw [e2]) ?_
        refine ii_iadd hx hb dW_paint_31 ?_
        refine ii_top (y := (((x.1 * cs) + x.2.1 : Nat) : Int)) (by push_cast; rfl) ?_
        refine lv_istore (lv' := [(7, .int (iI (((x.1 * cs) + x.2.1 : Nat) : Int))), (6, .int (iI (i : Int))), (5, .int (iI (pt : Int))), (0, .ref wr), (1, .ref it), (2, .int (iI (st0 : Int))), (3, .int (iI (e0 : Int))), (4, .int (iI gv))]) hx hb dW_paint_32 hl (by decide) rfl (fun ls hl => ?_)
        refine lv_aload_n hx hb dW_paint_34 rfl (lv_at hl 4 rfl) ?_
        refine lv_iload hx hb dW_paint_35 (lv_at hl 1 rfl) ?_
        refine ii_iald hx hb hK hP 1 0 rfl rfl i rfl (by omega) (by omega) dW_paint_37 ?_
        refine ii_top (y := ((enc x : Nat) : Int)) hs1 ?_
        refine cs_i (va_runSN (As := [.int (iI ((enc x : Nat) : Int))]) (rest := []) ⟨hx, hb, hml, hown, hts⟩ (c_lengthOf l D cA cB cS (enc x) (by omega) (by omega)) ⟨(va_cnB 1 hts (gIn vm_183) rfl rfl rfl (hN _ vn_25) (hts _ (List.mem_cons_of_mem _ vm_6)) (by decide +kernel) ⟨Nat.le_of_ble_eq_true rfl, Nat.le_of_ble_eq_true rfl⟩), (hts _ (List.mem_cons_of_mem _ vm_182)), trivial⟩ (pR.pre (hP.sub [] rfl) hKW) rfl rfl hl.1 rfl (lv_room (Nat.le_of_ble_eq_true rfl)) dW_paint_38 ⟨Nat.le_of_ble_eq_true rfl, Nat.le_of_ble_eq_true rfl⟩) (fun z_3 hz_3 => ?_)
        subst hz_3
        refine ii_top (y := ((x.2.2 - x.2.1 : Nat) : Int)) (by rw [e2, e3]) ?_
        refine lv_istore (lv' := [(8, .int (iI ((x.2.2 - x.2.1 : Nat) : Int))), (7, .int (iI (((x.1 * cs) + x.2.1 : Nat) : Int))), (6, .int (iI (i : Int))), (5, .int (iI (pt : Int))), (0, .ref wr), (1, .ref it), (2, .int (iI (st0 : Int))), (3, .int (iI (e0 : Int))), (4, .int (iI gv))]) hx hb dW_paint_41 hl (by decide) rfl (fun ls hl => ?_)
        refine ii_iconst (n := 0) hx hb dW_paint_43 ?_
        refine lv_istore (lv' := [(9, .int (iI 0)), (8, .int (iI ((x.2.2 - x.2.1 : Nat) : Int))), (7, .int (iI (((x.1 * cs) + x.2.1 : Nat) : Int))), (6, .int (iI (i : Int))), (5, .int (iI (pt : Int))), (0, .ref wr), (1, .ref it), (2, .int (iI (st0 : Int))), (3, .int (iI (e0 : Int))), (4, .int (iI gv))]) hx hb dW_paint_44 hl (by decide) rfl (fun ls hl => ?_)
        have lp46 : ∀ (n_ : Nat) (k : Nat) (fK : Nat → Int), (k ≤ x.2.2 - x.2.1) → (∀ p, fK p = if x.1 * cs + x.2.1 ≤ p ∧ p < x.1 * cs + x.2.1 + k then gv else fH p) → ((x.2.2 - x.2.1) - k) < n_ → ∀ (H : Heap) (locs : List Loc), va_P D vwCl [(wr, .inr (0, [.int (iI (cs : Int)), .int (iI (rs : Int)), .ref ag, .ref oo, .ref cp, .ref aw, .ref pl])), (it, .inl (cA, itn, .inl (iA fT))), (ag, .inl (cA, cs * rs, .inl (iA fK)))] H → va_D A [(wr, .inr (0, [.int (iI (cs : Int)), .int (iI (rs : Int)), .ref ag, .ref oo, .ref cp, .ref aw, .ref pl])), (it, .inl (cA, itn, .inl (iA fT))), (ag, .inl (cA, cs * rs, .inl (iA fK)))] → va_S A s.heap H locs → ∀ ls : Array Slot, lv_has ls 10 [(9, .int (iI (k : Int))), (8, .int (iI ((x.2.2 - x.2.1 : Nat) : Int))), (7, .int (iI ((x.1 * cs + x.2.1 : Nat) : Int))), (6, .int (iI (i : Int))), (5, .int (iI (pt : Int))), (0, .ref wr), (1, .ref it), (2, .int (iI (st0 : Int))), (3, .int (iI (e0 : Int))), (4, .int (iI gv))] → W p l e (headSpec wW_paint rm_c_paint).room s m [.ref wr, .ref it, .int (iI (st0 : Int)), .int (iI (e0 : Int)), .int (iI gv)].toArray below meth c H locs 0 0 QQ (F0 m 46 ls []) := by
          intro n_
          induction n_ with
          | zero =>
            intro k fK k1 k2 hm_
            exact absurd hm_ (Nat.not_lt_zero _)
          | succ n_ ih_lp46 =>
            intro k fK k1 k2 hm_lp46 H locs hP hD hS ls hl
            refine lv_iload hx hb dW_paint_46 (lv_at hl 0 rfl) ?_
            refine lv_iload hx hb dW_paint_48 (lv_at hl 1 rfl) ?_
            refine ii_icmp_ge (tgt := 71) hx hb dW_paint_50 (by decide) (by omega) (by omega) (fun c50 => ?_) (fun c50 => ?_)
            · refine lv_iload hx hb dW_paint_71 (lv_at hl 4 rfl) ?_
              refine lv_iload hx hb dW_paint_73 (lv_at hl 1 rfl) ?_
              refine ii_iadd hx hb dW_paint_75 ?_
              refine ii_top (y := ((pt + (x.2.2 - x.2.1) : Nat) : Int)) (by push_cast; rfl) ?_
              refine lv_istore (lv' := [(5, .int (iI ((pt + (x.2.2 - x.2.1) : Nat) : Int))), (9, .int (iI (k : Int))), (8, .int (iI ((x.2.2 - x.2.1 : Nat) : Int))), (7, .int (iI ((x.1 * cs + x.2.1 : Nat) : Int))), (6, .int (iI (i : Int))), (0, .ref wr), (1, .ref it), (2, .int (iI (st0 : Int))), (3, .int (iI (e0 : Int))), (4, .int (iI gv))]) hx hb dW_paint_76 hl (by decide) rfl (fun ls hl => ?_)
              refine lv_iinc (v := iI ((i + 1 : Nat) : Int)) (lv' := [(6, .int (iI ((i + 1 : Nat) : Int))), (5, .int (iI ((pt + (x.2.2 - x.2.1) : Nat) : Int))), (9, .int (iI (k : Int))), (8, .int (iI ((x.2.2 - x.2.1 : Nat) : Int))), (7, .int (iI ((x.1 * cs + x.2.1 : Nat) : Int))), (0, .ref wr), (1, .ref it), (2, .int (iI (st0 : Int))), (3, .int (iI (e0 : Int))), (4, .int (iI gv))]) hx hb dW_paint_78 hl (k := 4) rfl (iI_inc _ 1 (by omega)) (by decide) rfl (fun ls hl => ?_)
              refine lv_goto (tgt := 6) hx hb dW_paint_81 (by decide) ?_
              exact ih_lp6 (i + 1) T1 (pt + (x.2.2 - x.2.1)) fK hs2 (by omega) (fun y hy => i3 y (List.mem_cons_of_mem _ hy)) (by have e5 : lenS (x :: T1) = (x.2.2 - x.2.1) + lenS T1 := rfl; omega) (fun p => by rw [← i5 p]; refine paL_congr cs gv T1 _ _ (fun p => ?_) p; rw [k2 p]; have ek : x.1 * cs + x.2.1 + k = x.1 * cs + x.2.2 := (by omega); rw [ek]) (by rw [List.length_cons] at hm_lp6; omega) _ _ (hP.sub [0, 1, 2] rfl) (hD.sub [0, 1, 2] (by decide) rfl) hS _ (lv_sub hl [0, 1, 5, 6, 7, 8, 9] rfl)
            · refine lv_aload_n hx hb dW_paint_53 rfl (lv_at hl 5 rfl) ?_
              refine va_get (ci := 0) (v := .ref ag) (C := "WindingRaster") (T := TW) (N := 7) hx hb hts in_0 hown hK hP 0 rfl rfl 2 (by decide) fl_25 (fun _ h9 => h9) rfl dW_paint_54 ?_
              refine lv_iload hx hb dW_paint_57 (lv_at hl 2 rfl) ?_
              refine lv_iload hx hb dW_paint_59 (lv_at hl 0 rfl) ?_
              refine ii_iadd hx hb dW_paint_61 ?_
              refine ii_top (y := (((x.1 * cs + x.2.1) + k : Nat) : Int)) (by push_cast; rfl) ?_
              refine lv_iload hx hb dW_paint_62 (lv_at hl 9 rfl) ?_
              refine ii_iast hx hb hK hP hD hS 2 0 rfl rfl ((x.1 * cs + x.2.1) + k) rfl (by omega) (by omega) dW_paint_64 (fun H locs hP hD hS => ?_)
              have hP : va_P D vwCl [(wr, .inr (0, [.int (iI (cs : Int)), .int (iI (rs : Int)), .ref ag, .ref oo, .ref cp, .ref aw, .ref pl])), (it, .inl (cA, itn, .inl (iA fT))), (ag, .inl (cA, cs * rs, .inl (iA (uZ fK ((x.1 * cs + x.2.1) + k) gv))))] H := hP
              have hD : va_D A [(wr, .inr (0, [.int (iI (cs : Int)), .int (iI (rs : Int)), .ref ag, .ref oo, .ref cp, .ref aw, .ref pl])), (it, .inl (cA, itn, .inl (iA fT))), (ag, .inl (cA, cs * rs, .inl (iA (uZ fK ((x.1 * cs + x.2.1) + k) gv))))] := hD
              refine lv_iinc (v := iI ((k + 1 : Nat) : Int)) (lv' := [(9, .int (iI ((k + 1 : Nat) : Int))), (8, .int (iI ((x.2.2 - x.2.1 : Nat) : Int))), (7, .int (iI ((x.1 * cs + x.2.1 : Nat) : Int))), (6, .int (iI (i : Int))), (5, .int (iI (pt : Int))), (0, .ref wr), (1, .ref it), (2, .int (iI (st0 : Int))), (3, .int (iI (e0 : Int))), (4, .int (iI gv))]) hx hb dW_paint_65 hl (k := 0) rfl (iI_inc _ 1 (by omega)) (by decide) rfl (fun ls hl => ?_)
              refine lv_goto (tgt := 46) hx hb dW_paint_68 (by decide) ?_
              exact ih_lp46 (k + 1) (uZ fK ((x.1 * cs + x.2.1) + k) gv) (by omega) (fun p => by unfold uZ; by_cases hp : p = x.1 * cs + x.2.1 + k; (rw [if_pos hp, if_pos (by omega)]); (rw [if_neg hp, k2 p]; by_cases hp2 : x.1 * cs + x.2.1 ≤ p ∧ p < x.1 * cs + x.2.1 + k; (rw [if_pos hp2, if_pos (by omega)]); (rw [if_neg hp2, if_neg (by omega)]))) (by omega) _ _ (hP.sub [0, 1, 2] rfl) (hD.sub [0, 1, 2] (by decide) rfl) hS _ (lv_sub hl [0, 1, 2, 3, 4, 5, 6, 7, 8, 9] rfl)
        exact lp46 ((x.2.2 - x.2.1) - 0 + 1) 0 fH (by omega) (fun p => by rw [if_neg (by omega)]) (Nat.lt_succ_self _) _ _ (hP.sub [0, 1, 2] rfl) (hD.sub [0, 1, 2] (by decide) rfl) hS _ (lv_sub hl [0, 1, 2, 3, 4, 5, 6, 7, 8, 9] rfl)
  exact lp6 (L.length + 1) st0 L 0 fG h1 h2 h5 (Nat.zero_add _) (fun _ => rfl) (Nat.lt_succ_self _) _ _ (hP.sub [0, 1, 2] rfl) (hD.sub [0, 1, 2] (by decide) rfl) hS _ (lv_sub hl [0, 1, 2, 3, 4, 5, 6] rfl)

def rm_c_cutRun : Room := { frames := 1, cells := 0, slots := 0, locals := 22 }
set_option maxHeartbeats 4000000 in
set_option maxRecDepth 100000 in
theorem c_cutRun (l : Launch) (D : va_G) (cA cB cS : ClassId) (wr : Nat) (cs : Nat) (rs : Nat) (ag : Nat) (oo : Nat) (cp : Nat) (aw : Nat) (pl : Nat) (fW : Nat → Int) (ap : Nat) (fP : Nat → Int) (pn : Nat) (pm : Nat) (x : Run3) (rl : Int) (P : List Run3) (h1 : runOk cs rs x) (h2 : P.length = pn) (h3 : segL fP 0 P) (h4 : (P ++ cutG (fun k => insB rl (fW k)) x.1 (x.2.2 - x.2.1) x.2.1 none).length ≤ pm) (h5 : pm < 2147483648) (h6 : cs ≤ 256) (h7 : rs ≤ 256) (h8 : i32 rl) (h9 : ∀ k, k < cs → i32 (fW k)) (sz : Nat) : Met l yW_cutRun wW_cutRun rm_c_cutRun (pW [.ref wr, .int (iI ((enc x : Nat) : Int)), .int (iI rl)] D vwCl (vwTy cA cB cS) vwNw [(wr, .inr (0, [.int (iI (cs : Int)), .int (iI (rs : Int)), .ref ag, .ref oo, .ref cp, .ref aw, .ref pl])), (aw, .inl (cA, cs, .inl (iA fW))), (pl, .inr (3, [.ref ap, .int (iI (pn : Int))])), (ap, .inl (cA, pm, .inl (iA fP)))] sz) (qV (S := (Nat → Int) × Nat) (fun u : (Nat → Int) × Nat => segL u.1 0 (P ++ cutG (fun k => insB rl (fW k)) x.1 (x.2.2 - x.2.1) x.2.1 none) ∧ (P ++ cutG (fun k => insB rl (fW k)) x.1 (x.2.2 - x.2.1) x.2.1 none).length = u.2) D vwCl [(wr, .inr (0, [.int (iI (cs : Int)), .int (iI (rs : Int)), .ref ag, .ref oo, .ref cp, .ref aw, .ref pl])), (aw, .inl (cA, cs, .inl (iA fW))), (pl, .inr (3, [.ref ap, .int (iI (pn : Int))])), (ap, .inl (cA, pm, .inl (iA fP)))] sz (fun u : (Nat → Int) × Nat => [(wr, .inr (0, [.int (iI (cs : Int)), .int (iI (rs : Int)), .ref ag, .ref oo, .ref cp, .ref aw, .ref pl])), (aw, .inl (cA, cs, .inl (iA fW))), (pl, .inr (3, [.ref ap, .int (iI ((u.2 : Nat) : Int))])), (ap, .inl (cA, pm, .inl (iA u.1)))])) 0 0 (va_A [(wr, .inr (0, [.int (iI (cs : Int)), .int (iI (rs : Int)), .ref ag, .ref oo, .ref cp, .ref aw, .ref pl])), (aw, .inl (cA, cs, .inl (iA fW))), (pl, .inr (3, [.ref ap, .int (iI (pn : Int))])), (ap, .inl (cA, pm, .inl (iA fP)))] sz) := by
  refine Met.ofW (cc := bW_cutRun) (maxL := 8) (ret := none) (by decide +kernel) rfl ?_
  intro p e s m args below meth c s₁ B hml hv
  obtain ⟨rfl, hsz, hP, hKW, hD0⟩ := hv
  have hK := hKW.1
  have hN := hKW.2.2
  have hx := B.exec
  have hb := B.bytes
  have hr := B.returns
  have hts := atoms_spec (ws := wW_cutRun) B.pre
  have hown : s.vm.findClass "WindingRaster" = some m.cls := findClass_of_methodNamed B.named
  have hlocks := B.notSynchronized
  subst hsz
  have hD := hD0.self (sz := s.heap.size)
  obtain ⟨A, hAe⟩ : ∃ A, va_A [(wr, .inr (0, [.int (iI (cs : Int)), .int (iI (rs : Int)), .ref ag, .ref oo, .ref cp, .ref aw, .ref pl])), (aw, .inl (cA, cs, .inl (iA fW))), (pl, .inr (3, [.ref ap, .int (iI (pn : Int))])), (ap, .inl (cA, pm, .inl (iA fP)))] s.heap.size = A := ⟨_, rfl⟩
  rw [hAe] at hD
  have hA : ∀ q : Nat, s.heap.size ≤ q → A q := fun q h => by rw [← hAe]; exact Or.inr h
  have hS : va_S A s.heap s.heap [] := va_S.rf
  have hP : va_P D vwCl [(wr, .inr (0, [.int (iI (cs : Int)), .int (iI (rs : Int)), .ref ag, .ref oo, .ref cp, .ref aw, .ref pl])), (aw, .inl (cA, cs, .inl (iA fW))), (pl, .inr (3, [.ref ap, .int (iI (pn : Int))])), (ap, .inl (cA, pm, .inl (iA fP)))] s.heap := hP
  have in_0 : ∀ w ∈ wsW, w ∈ wW_cutRun := fun w h => List.mem_cons_of_mem _ (in0_W w h)
  have fl_59 := (hts _ (List.mem_cons_of_mem _ vm_75))
  have fl_51 := (hts _ (List.mem_cons_of_mem _ vm_74))
  have hl := lv_entry ([.ref wr, .int (iI ((enc x : Nat) : Int)), .int (iI rl)]) (n := 8) (Nat.le_of_ble_eq_true rfl)
  rw [lg_entry_eq]
  generalize (lg_sl ([.ref wr, .int (iI ((enc x : Nat) : Int)), .int (iI rl)]) ++ List.replicate (8 - (lg_sl ([.ref wr, .int (iI ((enc x : Nat) : Int)), .int (iI rl)])).length) Slot.unset).toArray = ls at hl ⊢
  have hl : lv_has ls 8 [(0, .ref wr), (1, .int (iI ((enc x : Nat) : Int))), (2, .int (iI rl))] := hl
  generalize hQ : MQ below (qV (S := (Nat → Int) × Nat) (fun u : (Nat → Int) × Nat => segL u.1 0 (P ++ cutG (fun k => insB rl (fW k)) x.1 (x.2.2 - x.2.1) x.2.1 none) ∧ (P ++ cutG (fun k => insB rl (fW k)) x.1 (x.2.2 - x.2.1) x.2.1 none).length = u.2) D vwCl [(wr, .inr (0, [.int (iI (cs : Int)), .int (iI (rs : Int)), .ref ag, .ref oo, .ref cp, .ref aw, .ref pl])), (aw, .inl (cA, cs, .inl (iA fW))), (pl, .inr (3, [.ref ap, .int (iI (pn : Int))])), (ap, .inl (cA, pm, .inl (iA fP)))] s.heap.size (fun u : (Nat → Int) × Nat => [(wr, .inr (0, [.int (iI (cs : Int)), .int (iI (rs : Int)), .ref ag, .ref oo, .ref cp, .ref aw, .ref pl])), (aw, .inl (cA, cs, .inl (iA fW))), (pl, .inr (3, [.ref ap, .int (iI ((u.2 : Nat) : Int))])), (ap, .inl (cA, pm, .inl (iA u.1)))])) [.ref wr, .int (iI ((enc x : Nat) : Int)), .int (iI rl)].toArray s 0 0 (va_A [(wr, .inr (0, [.int (iI (cs : Int)), .int (iI (rs : Int)), .ref ag, .ref oo, .ref cp, .ref aw, .ref pl])), (aw, .inl (cA, cs, .inl (iA fW))), (pl, .inr (3, [.ref ap, .int (iI (pn : Int))])), (ap, .inl (cA, pm, .inl (iA fP)))] s.heap.size) = QQ
  have e1 := enc_row h1 h6
  have e2 := enc_from h1 h6
  have e3 := enc_end h1 h6
  have e4 := enc_lt h1 h6 h7
  have hok1 := h1.1
  have hok2 := h1.2.1
  have hok3 := h1.2.2
  refine lv_iload_n hx hb dW_cutRun_0 rfl (lv_at hl 1 rfl) ?_
  refine cs_i (va_runSN (As := [.int (iI ((enc x : Nat) : Int))]) (rest := []) ⟨hx, hb, hml, hown, hts⟩ (c_rowOf l D cA cB cS (enc x) (by omega)) ⟨(va_cnB 1 hts (gIn vm_162) rfl rfl rfl (hN _ vn_19) (hts _ (List.mem_cons_of_mem _ vm_6)) (by decide +kernel) ⟨Nat.le_of_ble_eq_true rfl, Nat.le_of_ble_eq_true rfl⟩), (hts _ (List.mem_cons_of_mem _ vm_161)), trivial⟩ (pR.pre (hP.sub [] rfl) hKW) rfl rfl hl.1 rfl (lv_room (Nat.le_of_ble_eq_true rfl)) dW_cutRun_1 ⟨Nat.le_of_ble_eq_true rfl, Nat.le_of_ble_eq_true rfl⟩) (fun z_1 hz_1 => ?_)
  subst hz_1
  refine ii_top (y := ((x.1 : Nat) : Int)) (by rw [e1]) ?_
  refine lv_istore_n (lv' := [(3, .int (iI ((x.1 : Nat) : Int))), (0, .ref wr), (1, .int (iI ((enc x : Nat) : Int))), (2, .int (iI rl))]) hx hb dW_cutRun_4 rfl hl (by decide) rfl (fun ls hl => ?_)
  refine lv_iload_n hx hb dW_cutRun_5 rfl (lv_at hl 2 rfl) ?_
  refine cs_i (va_runSN (As := [.int (iI ((enc x : Nat) : Int))]) (rest := []) ⟨hx, hb, hml, hown, hts⟩ (c_endOf l D cA cB cS (enc x) (by omega)) ⟨(va_cnB 1 hts (gIn vm_171) rfl rfl rfl (hN _ vn_21) (hts _ (List.mem_cons_of_mem _ vm_6)) (by decide +kernel) ⟨Nat.le_of_ble_eq_true rfl, Nat.le_of_ble_eq_true rfl⟩), (hts _ (List.mem_cons_of_mem _ vm_170)), trivial⟩ (pR.pre (hP.sub [] rfl) hKW) rfl rfl hl.1 rfl (lv_room (Nat.le_of_ble_eq_true rfl)) dW_cutRun_6 ⟨Nat.le_of_ble_eq_true rfl, Nat.le_of_ble_eq_true rfl⟩) (fun z_2 hz_2 => ?_)
  subst hz_2
  refine ii_top (y := ((x.2.2 : Nat) : Int)) (by rw [e3]) ?_
  refine lv_istore (lv' := [(4, .int (iI ((x.2.2 : Nat) : Int))), (3, .int (iI ((x.1 : Nat) : Int))), (0, .ref wr), (1, .int (iI ((enc x : Nat) : Int))), (2, .int (iI rl))]) hx hb dW_cutRun_9 hl (by decide) rfl (fun ls hl => ?_)
  refine ii_iconst (n := (-1)) hx hb dW_cutRun_11 ?_
  refine lv_istore (lv' := [(5, .int (iI (-1))), (4, .int (iI ((x.2.2 : Nat) : Int))), (3, .int (iI ((x.1 : Nat) : Int))), (0, .ref wr), (1, .int (iI ((enc x : Nat) : Int))), (2, .int (iI rl))]) hx hb dW_cutRun_12 hl (by decide) rfl (fun ls hl => ?_)
  refine lv_iload_n hx hb dW_cutRun_14 rfl (lv_at hl 4 rfl) ?_
  refine cs_i (va_runSN (As := [.int (iI ((enc x : Nat) : Int))]) (rest := []) ⟨hx, hb, hml, hown, hts⟩ (c_fromOf l D cA cB cS (enc x) (by omega)) ⟨(va_cnB 1 hts (gIn vm_173) rfl rfl rfl (hN _ vn_22) (hts _ (List.mem_cons_of_mem _ vm_6)) (by decide +kernel) ⟨Nat.le_of_ble_eq_true rfl, Nat.le_of_ble_eq_true rfl⟩), (hts _ (List.mem_cons_of_mem _ vm_172)), trivial⟩ (pR.pre (hP.sub [] rfl) hKW) rfl rfl hl.1 rfl (lv_room (Nat.le_of_ble_eq_true rfl)) dW_cutRun_15 ⟨Nat.le_of_ble_eq_true rfl, Nat.le_of_ble_eq_true rfl⟩) (fun z_3 hz_3 => ?_)
  subst hz_3
  refine ii_top (y := ((x.2.1 : Nat) : Int)) (by rw [e2]) ?_
  refine lv_istore (lv' := [(6, .int (iI ((x.2.1 : Nat) : Int))), (5, .int (iI (-1))), (4, .int (iI ((x.2.2 : Nat) : Int))), (3, .int (iI ((x.1 : Nat) : Int))), (0, .ref wr), (1, .int (iI ((enc x : Nat) : Int))), (2, .int (iI rl))]) hx hb dW_cutRun_18 hl (by decide) rfl (fun ls hl => ?_)
  have lp20 : ∀ (n_ : Nat) (k : Nat) (fr : Int) (Pc : List Run3) (fQ : Nat → Int) (pq : Nat), (x.2.1 ≤ k ∧ k ≤ x.2.2) → (segL fQ 0 Pc ∧ Pc.length = pq) → (cutI (fun k => insB rl (fW k)) x.1 x.2.2 k fr Pc (P ++ cutG (fun k => insB rl (fW k)) x.1 (x.2.2 - x.2.1) x.2.1 none)) → (x.2.2 - k) < n_ → ∀ (H : Heap) (locs : List Loc), va_P D vwCl [(wr, .inr (0, [.int (iI (cs : Int)), .int (iI (rs : Int)), .ref ag, .ref oo, .ref cp, .ref aw, .ref pl])), (aw, .inl (cA, cs, .inl (iA fW))), (pl, .inr (3, [.ref ap, .int (iI (pq : Int))])), (ap, .inl (cA, pm, .inl (iA fQ)))] H → va_D A [(wr, .inr (0, [.int (iI (cs : Int)), .int (iI (rs : Int)), .ref ag, .ref oo, .ref cp, .ref aw, .ref pl])), (aw, .inl (cA, cs, .inl (iA fW))), (pl, .inr (3, [.ref ap, .int (iI (pq : Int))])), (ap, .inl (cA, pm, .inl (iA fQ)))] → va_S A s.heap H locs → ∀ ls : Array Slot, lv_has ls 8 [(6, .int (iI (k : Int))), (5, .int (iI fr)), (4, .int (iI ((x.2.2 : Nat) : Int))), (3, .int (iI ((x.1 : Nat) : Int))), (0, .ref wr), (1, .int (iI ((enc x : Nat) : Int))), (2, .int (iI rl))] → W p l e (headSpec wW_cutRun rm_c_cutRun).room s m [.ref wr, .int (iI ((enc x : Nat) : Int)), .int (iI rl)].toArray below meth c H locs 0 0 QQ (F0 m 20 ls []) := by
    intro n_
    induction n_ with
    | zero =>
      intro k fr Pc fQ pq k1 k2 k3 hm_
      exact absurd hm_ (Nat.not_lt_zero _)
    | succ n_ ih_lp20 =>
      intro k fr Pc fQ pq k1 k2 k3 hm_lp20 H locs hP hD hS ls hl
      have hfr : -1 ≤ fr ∧ fr < 256 := by rcases k3 with ⟨w1, w2⟩ | ⟨a, w1, w2, w3⟩ <;> omega
      refine lv_iload hx hb dW_cutRun_20 (lv_at hl 0 rfl) ?_
      refine lv_iload hx hb dW_cutRun_22 (lv_at hl 2 rfl) ?_
      refine ii_icmp_ge (tgt := 88) hx hb dW_cutRun_24 (by decide) (by omega) (by omega) (fun c24 => ?_) (fun c24 => ?_)
      · refine lv_iload hx hb dW_cutRun_88 (lv_at hl 1 rfl) ?_
        refine ii_if_lt (tgt := 108) hx hb dW_cutRun_90 (by decide) (by omega) (fun c90 => ?_) (fun c90 => ?_)
        · rw [← hQ]
          exact wr_vret (fQ, pq) hx hb hr hlocks hAe (hP.sub [0, 1, 2, 3] rfl) (hD.sub [0, 1, 2, 3] (by decide) rfl) hS (by have w : Pc = (P ++ cutG (fun k => insB rl (fW k)) x.1 (x.2.2 - x.2.1) x.2.1 none) := (by rcases k3 with ⟨w1, w2⟩ | ⟨a, w1, w2, w3⟩; (rw [show x.2.2 - k = 0 by omega, cutG_e0, List.append_nil] at w2; exact w2); (exfalso; omega)); rw [← w]; exact k2) dW_cutRun_108
        · obtain ⟨a, rfl, ha, k3⟩ := Or.resolve_left k3 (fun w => by omega)
          rw [show x.2.2 - k = 0 by omega, cutG_e1, show k = x.2.2 by omega] at k3
          have hlen := len_lt k3
          refine lv_aload_n hx hb dW_cutRun_93 rfl (lv_at hl 4 rfl) ?_
          refine va_get (ci := 0) (v := .ref pl) (C := "WindingRaster") (T := TW) (N := 7) hx hb hts in_0 hown hK hP 0 rfl rfl 6 (by decide) fl_59 (fun _ h9 => h9) rfl dW_cutRun_94 ?_
          refine lv_iload_n hx hb dW_cutRun_97 rfl (lv_at hl 3 rfl) ?_
          refine lv_iload hx hb dW_cutRun_98 (lv_at hl 1 rfl) ?_
          refine lv_iload hx hb dW_cutRun_100 (lv_at hl 2 rfl) ?_
          refine cs_i (va_runSN (As := [.int (iI ((x.1 : Nat) : Int)), .int (iI (a : Int)), .int (iI ((x.2.2 : Nat) : Int))]) (rest := [.ref pl]) ⟨hx, hb, hml, hown, hts⟩ (c_of l D cA cB cS x.1 a x.2.2 (by omega) (by omega) (by omega)) ⟨(va_cnB 3 hts (gIn vm_49) rfl rfl rfl (hN _ vn_23) (hts _ (List.mem_cons_of_mem _ vm_6)) (by decide +kernel) ⟨Nat.le_of_ble_eq_true rfl, Nat.le_of_ble_eq_true rfl⟩), (hts _ (List.mem_cons_of_mem _ vm_48)), trivial⟩ (pR.pre (hP.sub [] rfl) hKW) rfl rfl hl.1 rfl (lv_room (Nat.le_of_ble_eq_true rfl)) dW_cutRun_102 ⟨Nat.le_of_ble_eq_true rfl, Nat.le_of_ble_eq_true rfl⟩) (fun z_4 hz_4 => ?_)
          subst hz_4
          refine ii_top (y := ((enc (x.1, a, x.2.2) : Nat) : Int)) rfl ?_
          refine cw_v (wc := [(pl, .inr (3, [.ref ap, .int (iI (pq : Int))])), (ap, .inl (cA, pm, .inl (iA fQ)))]) (wr := [(wr, .inr (0, [.int (iI (cs : Int)), .int (iI (rs : Int)), .ref ag, .ref oo, .ref cp, .ref aw, .ref pl])), (aw, .inl (cA, cs, .inl (iA fW)))]) hP hD hS hA [2, 3] [0, 1] rfl rfl (by decide) (by decide) (va_runVN (As := [.int (iI ((enc (x.1, a, x.2.2) : Nat) : Int))]) (rest := []) ⟨hx, hb, hml, hown, hts⟩ (c_add l D cA cB cS pl ap fQ pq pm (enc (x.1, a, x.2.2)) (by omega) (by omega) _) ⟨(va_cnB 1 hts (gIn vm_178) rfl rfl rfl (hN _ vn_24) (hts _ (List.mem_cons_of_mem _ vm_7)) (by decide +kernel) ⟨Nat.le_of_ble_eq_true rfl, Nat.le_of_ble_eq_true rfl⟩), (hts _ (List.mem_cons_of_mem _ vm_177)), (hts _ (List.mem_cons_of_mem _ vm_398))⟩ (pW.preV (va_recv hK hP (ci := 3) (q0 := 2) rfl rfl) (hP.sub [2, 3] rfl) (hD.sub [2, 3] (by decide) rfl) hKW) rfl rfl hl.1 rfl (lv_room (Nat.le_of_ble_eq_true rfl)) dW_cutRun_105 ⟨Nat.le_of_ble_eq_true rfl, Nat.le_of_ble_eq_true rfl⟩) (fun u_6 H locs hz_5 hP hD hS => ?_)
          have hP : va_P D vwCl [(wr, .inr (0, [.int (iI (cs : Int)), .int (iI (rs : Int)), .ref ag, .ref oo, .ref cp, .ref aw, .ref pl])), (aw, .inl (cA, cs, .inl (iA fW))), (pl, .inr (3, [.ref ap, .int (iI ((pq + 1 : Nat) : Int))])), (ap, .inl (cA, pm, .inl (iA (uZ fQ pq ((enc (x.1, a, x.2.2)) : Int)))))] H := hP
          have hD : va_D A [(wr, .inr (0, [.int (iI (cs : Int)), .int (iI (rs : Int)), .ref ag, .ref oo, .ref cp, .ref aw, .ref pl])), (aw, .inl (cA, cs, .inl (iA fW))), (pl, .inr (3, [.ref ap, .int (iI ((pq + 1 : Nat) : Int))])), (ap, .inl (cA, pm, .inl (iA (uZ fQ pq ((enc (x.1, a, x.2.2)) : Int)))))] := hD
          rw [← hQ]
          exact wr_vret (uZ fQ pq ((enc (x.1, a, x.2.2)) : Int), pq + 1) hx hb hr hlocks hAe (hP.sub [0, 1, 2, 3] rfl) (hD.sub [0, 1, 2, 3] (by decide) rfl) hS (by rw [← k3]; exact ⟨segL_snoc (x.1, a, x.2.2) k2.1 k2.2, by rw [List.length_append, k2.2]; rfl⟩) dW_cutRun_108
      · have g9 := h9 k (by omega)
        refine lv_aload_n hx hb dW_cutRun_27 rfl (lv_at hl 4 rfl) ?_
        refine va_get (ci := 0) (v := .ref aw) (C := "WindingRaster") (T := TW) (N := 7) hx hb hts in_0 hown hK hP 0 rfl rfl 5 (by decide) fl_51 (fun _ h9 => h9) rfl dW_cutRun_28 ?_
        refine lv_iload hx hb dW_cutRun_31 (lv_at hl 0 rfl) ?_
        refine ii_iald hx hb hK hP 1 0 rfl rfl k rfl (by omega) (by omega) dW_cutRun_33 ?_
        refine lv_iload_n hx hb dW_cutRun_34 rfl (lv_at hl 6 rfl) ?_
        refine cs_i (va_runS (As := [.int (iI (fW k)), .int (iI rl)]) (rest := []) ⟨hx, hb, hml, hown, hts⟩ (c_isInside l D cA cB cS (fW k) rl (by omega) (by omega)) ⟨(callB_of 2 hts (gIn vm_176) rfl rfl rfl (hts _ (List.mem_cons_of_mem _ vm_1)) (hts _ (List.mem_cons_of_mem _ vm_174)) (by decide +kernel) ⟨Nat.le_of_ble_eq_true rfl, Nat.le_of_ble_eq_true rfl⟩), (hts _ (List.mem_cons_of_mem _ vm_175))⟩ (pR.pre (hP.sub [] rfl) hKW) rfl rfl hl.1 rfl (lv_room (Nat.le_of_ble_eq_true rfl)) dW_cutRun_35 ⟨Nat.le_of_ble_eq_true rfl, Nat.le_of_ble_eq_true rfl⟩) (fun z_7 hz_7 => ?_)
        refine lv_istore (lv' := [(7, .int (iI z_7)), (6, .int (iI (k : Int))), (5, .int (iI fr)), (4, .int (iI ((x.2.2 : Nat) : Int))), (3, .int (iI ((x.1 : Nat) : Int))), (0, .ref wr), (1, .int (iI ((enc x : Nat) : Int))), (2, .int (iI rl))]) hx hb dW_cutRun_38 hl (by decide) rfl (fun ls hl => ?_)
        refine lv_iload hx hb dW_cutRun_40 (lv_at hl 0 rfl) ?_
        refine ii_if_eq (tgt := 54) hx hb dW_cutRun_42 (by decide) (by omega) (fun c42 => ?_) (fun c42 => ?_)
        · have hg : insB rl (fW k) = false := Bool.eq_false_iff.mpr (fun w => by rw [insB_iff] at w; omega)
          refine lv_iload hx hb dW_cutRun_54 (lv_at hl 0 rfl) ?_
          refine ii_if_ne (tgt := 82) hx hb dW_cutRun_56 (by decide) (by omega) (fun c56 => ?_) (fun c56 => ?_)
          · exfalso; omega
          · refine lv_iload hx hb dW_cutRun_59 (lv_at hl 2 rfl) ?_
            refine ii_if_lt (tgt := 82) hx hb dW_cutRun_61 (by decide) (by omega) (fun c61 => ?_) (fun c61 => ?_)
            · refine lv_iinc (v := iI ((k + 1 : Nat) : Int)) (lv' := [(6, .int (iI ((k + 1 : Nat) : Int))), (7, .int (iI z_7)), (5, .int (iI fr)), (4, .int (iI ((x.2.2 : Nat) : Int))), (3, .int (iI ((x.1 : Nat) : Int))), (0, .ref wr), (1, .int (iI ((enc x : Nat) : Int))), (2, .int (iI rl))]) hx hb dW_cutRun_82 hl (k := 1) rfl (iI_inc _ 1 (by omega)) (by decide) rfl (fun ls hl => ?_)
              refine lv_goto (tgt := 20) hx hb dW_cutRun_85 (by decide) ?_
              exact ih_lp20 (k + 1) fr Pc fQ pq (by omega) k2 (Or.inl ⟨by rcases k3 with ⟨w1, w2⟩ | ⟨a, w1, w2, w3⟩; (exact w1); (exfalso; omega), by rcases k3 with ⟨w1, w2⟩ | ⟨a, w1, w2, w3⟩; (rw [cutG_nf (f := fun k => insB rl (fW k)) (k := k) (e := x.2.2) (by omega) hg] at w2; exact w2); (exfalso; omega)⟩) (by omega) _ _ (hP.sub [0, 1, 2, 3] rfl) (hD.sub [0, 1, 2, 3] (by decide) rfl) hS _ (lv_sub hl [0, 2, 3, 4, 5, 6, 7] rfl)
            · obtain ⟨a, rfl, ha, k3⟩ := Or.resolve_left k3 (fun w => by omega)
              rw [cutG_sf (f := fun k => insB rl (fW k)) (k := k) (e := x.2.2) (by omega) hg] at k3
              have hlen := len_lt k3
              rw [← cutG_sf (f := fun k => insB rl (fW k)) (k := k) (e := x.2.2) (by omega) hg] at k3
              refine lv_aload_n hx hb dW_cutRun_64 rfl (lv_at hl 5 rfl) ?_
              refine va_get (ci := 0) (v := .ref pl) (C := "WindingRaster") (T := TW) (N := 7) hx hb hts in_0 hown hK hP 0 rfl rfl 6 (by decide) fl_59 (fun _ h9 => h9) rfl dW_cutRun_65 ?_
              refine lv_iload_n hx hb dW_cutRun_68 rfl (lv_at hl 4 rfl) ?_
              refine lv_iload hx hb dW_cutRun_69 (lv_at hl 2 rfl) ?_
              refine lv_iload hx hb dW_cutRun_71 (lv_at hl 1 rfl) ?_
              refine cs_i (va_runSN (As := [.int (iI ((x.1 : Nat) : Int)), .int (iI (a : Int)), .int (iI (k : Int))]) (rest := [.ref pl]) ⟨hx, hb, hml, hown, hts⟩ (c_of l D cA cB cS x.1 a k (by omega) (by omega) (by omega)) ⟨(va_cnB 3 hts (gIn vm_49) rfl rfl rfl (hN _ vn_23) (hts _ (List.mem_cons_of_mem _ vm_6)) (by decide +kernel) ⟨Nat.le_of_ble_eq_true rfl, Nat.le_of_ble_eq_true rfl⟩), (hts _ (List.mem_cons_of_mem _ vm_48)), trivial⟩ (pR.pre (hP.sub [] rfl) hKW) rfl rfl hl.1 rfl (lv_room (Nat.le_of_ble_eq_true rfl)) dW_cutRun_73 ⟨Nat.le_of_ble_eq_true rfl, Nat.le_of_ble_eq_true rfl⟩) (fun z_8 hz_8 => ?_)
              subst hz_8
              refine ii_top (y := ((enc (x.1, a, k) : Nat) : Int)) rfl ?_
              refine cw_v (wc := [(pl, .inr (3, [.ref ap, .int (iI (pq : Int))])), (ap, .inl (cA, pm, .inl (iA fQ)))]) (wr := [(wr, .inr (0, [.int (iI (cs : Int)), .int (iI (rs : Int)), .ref ag, .ref oo, .ref cp, .ref aw, .ref pl])), (aw, .inl (cA, cs, .inl (iA fW)))]) hP hD hS hA [2, 3] [0, 1] rfl rfl (by decide) (by decide) (va_runVN (As := [.int (iI ((enc (x.1, a, k) : Nat) : Int))]) (rest := []) ⟨hx, hb, hml, hown, hts⟩ (c_add l D cA cB cS pl ap fQ pq pm (enc (x.1, a, k)) (by omega) (by omega) _) ⟨(va_cnB 1 hts (gIn vm_178) rfl rfl rfl (hN _ vn_24) (hts _ (List.mem_cons_of_mem _ vm_7)) (by decide +kernel) ⟨Nat.le_of_ble_eq_true rfl, Nat.le_of_ble_eq_true rfl⟩), (hts _ (List.mem_cons_of_mem _ vm_177)), (hts _ (List.mem_cons_of_mem _ vm_398))⟩ (pW.preV (va_recv hK hP (ci := 3) (q0 := 2) rfl rfl) (hP.sub [2, 3] rfl) (hD.sub [2, 3] (by decide) rfl) hKW) rfl rfl hl.1 rfl (lv_room (Nat.le_of_ble_eq_true rfl)) dW_cutRun_76 ⟨Nat.le_of_ble_eq_true rfl, Nat.le_of_ble_eq_true rfl⟩) (fun u_10 H locs hz_9 hP hD hS => ?_)
              have hP : va_P D vwCl [(wr, .inr (0, [.int (iI (cs : Int)), .int (iI (rs : Int)), .ref ag, .ref oo, .ref cp, .ref aw, .ref pl])), (aw, .inl (cA, cs, .inl (iA fW))), (pl, .inr (3, [.ref ap, .int (iI ((pq + 1 : Nat) : Int))])), (ap, .inl (cA, pm, .inl (iA (uZ fQ pq ((enc (x.1, a, k)) : Int)))))] H := hP
              have hD : va_D A [(wr, .inr (0, [.int (iI (cs : Int)), .int (iI (rs : Int)), .ref ag, .ref oo, .ref cp, .ref aw, .ref pl])), (aw, .inl (cA, cs, .inl (iA fW))), (pl, .inr (3, [.ref ap, .int (iI ((pq + 1 : Nat) : Int))])), (ap, .inl (cA, pm, .inl (iA (uZ fQ pq ((enc (x.1, a, k)) : Int)))))] := hD
              refine ii_iconst (n := (-1)) hx hb dW_cutRun_79 ?_
              refine lv_istore (lv' := [(5, .int (iI (-1))), (7, .int (iI z_7)), (6, .int (iI (k : Int))), (4, .int (iI ((x.2.2 : Nat) : Int))), (3, .int (iI ((x.1 : Nat) : Int))), (0, .ref wr), (1, .int (iI ((enc x : Nat) : Int))), (2, .int (iI rl))]) hx hb dW_cutRun_80 hl (by decide) rfl (fun ls hl => ?_)
              refine lv_iinc (v := iI ((k + 1 : Nat) : Int)) (lv' := [(6, .int (iI ((k + 1 : Nat) : Int))), (5, .int (iI (-1))), (7, .int (iI z_7)), (4, .int (iI ((x.2.2 : Nat) : Int))), (3, .int (iI ((x.1 : Nat) : Int))), (0, .ref wr), (1, .int (iI ((enc x : Nat) : Int))), (2, .int (iI rl))]) hx hb dW_cutRun_82 hl (k := 2) rfl (iI_inc _ 1 (by omega)) (by decide) rfl (fun ls hl => ?_)
              refine lv_goto (tgt := 20) hx hb dW_cutRun_85 (by decide) ?_
              exact ih_lp20 (k + 1) (-1) (Pc ++ [(x.1, a, k)]) (uZ fQ pq ((enc (x.1, a, k)) : Int)) (pq + 1) (by omega) ⟨segL_snoc (x.1, a, k) k2.1 k2.2, by rw [List.length_append, k2.2]; rfl⟩ (Or.inl ⟨rfl, by rw [cutG_sf (f := fun k => insB rl (fW k)) (k := k) (e := x.2.2) (by omega) hg] at k3; rw [← k3, List.append_assoc]; rfl⟩) (by omega) _ _ (hP.sub [0, 1, 2, 3] rfl) (hD.sub [0, 1, 2, 3] (by decide) rfl) hS _ (lv_sub hl [0, 1, 3, 4, 5, 6, 7] rfl)
        · have hg : insB rl (fW k) = true := (insB_iff rl (fW k)).mpr (by omega)
          refine lv_iload hx hb dW_cutRun_45 (lv_at hl 2 rfl) ?_
          refine ii_if_ge (tgt := 54) hx hb dW_cutRun_47 (by decide) (by omega) (fun c47 => ?_) (fun c47 => ?_)
          · obtain ⟨a, rfl, ha, k3⟩ := Or.resolve_left k3 (fun w => by omega)
            refine lv_iload hx hb dW_cutRun_54 (lv_at hl 0 rfl) ?_
            refine ii_if_ne (tgt := 82) hx hb dW_cutRun_56 (by decide) (by omega) (fun c56 => ?_) (fun c56 => ?_)
            · refine lv_iinc (v := iI ((k + 1 : Nat) : Int)) (lv' := [(6, .int (iI ((k + 1 : Nat) : Int))), (7, .int (iI z_7)), (5, .int (iI (a : Int))), (4, .int (iI ((x.2.2 : Nat) : Int))), (3, .int (iI ((x.1 : Nat) : Int))), (0, .ref wr), (1, .int (iI ((enc x : Nat) : Int))), (2, .int (iI rl))]) hx hb dW_cutRun_82 hl (k := 1) rfl (iI_inc _ 1 (by omega)) (by decide) rfl (fun ls hl => ?_)
              refine lv_goto (tgt := 20) hx hb dW_cutRun_85 (by decide) ?_
              exact ih_lp20 (k + 1) (a : Int) Pc fQ pq (by omega) k2 (Or.inr ⟨a, rfl, by omega, by rw [cutG_st (f := fun k => insB rl (fW k)) (k := k) (e := x.2.2) (by omega) hg] at k3; exact k3⟩) (by omega) _ _ (hP.sub [0, 1, 2, 3] rfl) (hD.sub [0, 1, 2, 3] (by decide) rfl) hS _ (lv_sub hl [0, 2, 3, 4, 5, 6, 7] rfl)
            · exfalso; omega
          · refine lv_iload hx hb dW_cutRun_50 (lv_at hl 1 rfl) ?_
            refine lv_istore (lv' := [(5, .int (iI (k : Int))), (7, .int (iI z_7)), (6, .int (iI (k : Int))), (4, .int (iI ((x.2.2 : Nat) : Int))), (3, .int (iI ((x.1 : Nat) : Int))), (0, .ref wr), (1, .int (iI ((enc x : Nat) : Int))), (2, .int (iI rl))]) hx hb dW_cutRun_52 hl (by decide) rfl (fun ls hl => ?_)
            refine lv_iload hx hb dW_cutRun_54 (lv_at hl 1 rfl) ?_
            refine ii_if_ne (tgt := 82) hx hb dW_cutRun_56 (by decide) (by omega) (fun c56 => ?_) (fun c56 => ?_)
            · refine lv_iinc (v := iI ((k + 1 : Nat) : Int)) (lv' := [(6, .int (iI ((k + 1 : Nat) : Int))), (5, .int (iI (k : Int))), (7, .int (iI z_7)), (4, .int (iI ((x.2.2 : Nat) : Int))), (3, .int (iI ((x.1 : Nat) : Int))), (0, .ref wr), (1, .int (iI ((enc x : Nat) : Int))), (2, .int (iI rl))]) hx hb dW_cutRun_82 hl (k := 2) rfl (iI_inc _ 1 (by omega)) (by decide) rfl (fun ls hl => ?_)
              refine lv_goto (tgt := 20) hx hb dW_cutRun_85 (by decide) ?_
              exact ih_lp20 (k + 1) (k : Int) Pc fQ pq (by omega) k2 (Or.inr ⟨k, rfl, by omega, by rcases k3 with ⟨w1, w2⟩ | ⟨a, w1, w2, w3⟩; (rw [cutG_nt (f := fun k => insB rl (fW k)) (k := k) (e := x.2.2) (by omega) hg] at w2; exact w2); (exfalso; omega)⟩) (by omega) _ _ (hP.sub [0, 1, 2, 3] rfl) (hD.sub [0, 1, 2, 3] (by decide) rfl) hS _ (lv_sub hl [0, 1, 3, 4, 5, 6, 7] rfl)
            · exfalso; omega
  exact lp20 (x.2.2 - x.2.1 + 1) x.2.1 (-1) P fP pn (by omega) ⟨h3, h2⟩ (Or.inl ⟨rfl, rfl⟩) (Nat.lt_succ_self _) _ _ (hP.sub [0, 1, 2, 3] rfl) (hD.sub [0, 1, 2, 3] (by decide) rfl) hS _ (lv_sub hl [0, 1, 2, 3, 4, 5, 6] rfl)

def rm_c_cutClip : Room := { frames := 3, cells := 0, slots := 0, locals := 84 }
set_option maxHeartbeats 4000000 in
set_option maxRecDepth 100000 in
theorem c_cutClip (l : Launch) (D : va_G) (cA cB cS : ClassId) (wr : Nat) (cs : Nat) (rs : Nat) (ag : Nat) (oo : Nat) (cp : Nat) (aw : Nat) (pl : Nat) (ax : Nat) (ay : Nat) (an : Nat) (fX : Nat → Int) (fY : Nat → Int) (fN : Nat → Int) (np : Nat) (l0 : Nat) (ai : Nat) (at_ : Nat) (fI : Nat → Int) (fS : Nat → Int) (sv : Nat) (en : Nat) (fW : Nat → Int) (ap : Nat) (fP : Nat → Int) (pn : Nat) (pm : Nat) (st0 : Nat) (rl : Int) (L : List Run3) (h1 : sv ≤ 12) (h2 : fS sv = (st0 : Int)) (h3 : segL fI st0 L) (h4 : st0 + L.length = en) (h5 : ∀ x ∈ L, runOk cs rs x) (h6 : cs ≤ 256) (h7 : rs ≤ 256) (h8 : en ≤ 24000) (h9 : np ≤ 4096) (h10 : ∀ i, i < np → (-536870912 ≤ fX i ∧ fX i ≤ 536870912) ∧ (-536870912 ≤ fY i ∧ fY i ≤ 536870912)) (h11 : ∀ i, i < np → 0 ≤ fN i ∧ fN i < (np : Int)) (h12 : (cutA (gW fX fY fN np rl) L).length ≤ pm) (h13 : pm < 2147483648) (h14 : i32 rl) (h15 : 0 < cs) (sz : Nat) : Met l yW_cutClip wW_cutClip rm_c_cutClip (pW [.ref wr, .int (iI rl)] D vwCl (vwTy cA cB cS) vwNw [(wr, .inr (0, [.int (iI (cs : Int)), .int (iI (rs : Int)), .ref ag, .ref oo, .ref cp, .ref aw, .ref pl])), (oo, .inr (1, [.ref ax, .ref ay, .ref an, .int (iI (np : Int)), .int (iI (l0 : Int))])), (ax, .inl (cA, 4096, .inl (iA fX))), (ay, .inl (cA, 4096, .inl (iA fY))), (an, .inl (cA, 4096, .inl (iA fN))), (cp, .inr (2, [.ref ai, .ref at_, .int (iI (sv : Int)), .int (iI (en : Int))])), (ai, .inl (cA, 24000, .inl (iA fI))), (at_, .inl (cA, 13, .inl (iA fS))), (aw, .inl (cA, cs, .inl (iA fW))), (pl, .inr (3, [.ref ap, .int (iI (pn : Int))])), (ap, .inl (cA, pm, .inl (iA fP)))] sz) (qV (S := (Nat → Int) × (Nat → Int) × Nat) (fun u : (Nat → Int) × (Nat → Int) × Nat => segL u.2.1 0 (cutA (gW fX fY fN np rl) L) ∧ (cutA (gW fX fY fN np rl) L).length = u.2.2) D vwCl [(wr, .inr (0, [.int (iI (cs : Int)), .int (iI (rs : Int)), .ref ag, .ref oo, .ref cp, .ref aw, .ref pl])), (oo, .inr (1, [.ref ax, .ref ay, .ref an, .int (iI (np : Int)), .int (iI (l0 : Int))])), (ax, .inl (cA, 4096, .inl (iA fX))), (ay, .inl (cA, 4096, .inl (iA fY))), (an, .inl (cA, 4096, .inl (iA fN))), (cp, .inr (2, [.ref ai, .ref at_, .int (iI (sv : Int)), .int (iI (en : Int))])), (ai, .inl (cA, 24000, .inl (iA fI))), (at_, .inl (cA, 13, .inl (iA fS))), (aw, .inl (cA, cs, .inl (iA fW))), (pl, .inr (3, [.ref ap, .int (iI (pn : Int))])), (ap, .inl (cA, pm, .inl (iA fP)))] sz (fun u : (Nat → Int) × (Nat → Int) × Nat => [(wr, .inr (0, [.int (iI (cs : Int)), .int (iI (rs : Int)), .ref ag, .ref oo, .ref cp, .ref aw, .ref pl])), (oo, .inr (1, [.ref ax, .ref ay, .ref an, .int (iI (np : Int)), .int (iI (l0 : Int))])), (ax, .inl (cA, 4096, .inl (iA fX))), (ay, .inl (cA, 4096, .inl (iA fY))), (an, .inl (cA, 4096, .inl (iA fN))), (cp, .inr (2, [.ref ai, .ref at_, .int (iI (sv : Int)), .int (iI (en : Int))])), (ai, .inl (cA, 24000, .inl (iA fI))), (at_, .inl (cA, 13, .inl (iA fS))), (aw, .inl (cA, cs, .inl (iA u.1))), (pl, .inr (3, [.ref ap, .int (iI ((u.2.2 : Nat) : Int))])), (ap, .inl (cA, pm, .inl (iA u.2.1)))])) 0 0 (va_A [(wr, .inr (0, [.int (iI (cs : Int)), .int (iI (rs : Int)), .ref ag, .ref oo, .ref cp, .ref aw, .ref pl])), (oo, .inr (1, [.ref ax, .ref ay, .ref an, .int (iI (np : Int)), .int (iI (l0 : Int))])), (ax, .inl (cA, 4096, .inl (iA fX))), (ay, .inl (cA, 4096, .inl (iA fY))), (an, .inl (cA, 4096, .inl (iA fN))), (cp, .inr (2, [.ref ai, .ref at_, .int (iI (sv : Int)), .int (iI (en : Int))])), (ai, .inl (cA, 24000, .inl (iA fI))), (at_, .inl (cA, 13, .inl (iA fS))), (aw, .inl (cA, cs, .inl (iA fW))), (pl, .inr (3, [.ref ap, .int (iI (pn : Int))])), (ap, .inl (cA, pm, .inl (iA fP)))] sz) := by
  refine Met.ofW (cc := bW_cutClip) (maxL := 6) (ret := none) (by decide +kernel) rfl ?_
  intro p e s m args below meth c s₁ B hml hv
  obtain ⟨rfl, hsz, hP, hKW, hD0⟩ := hv
  have hK := hKW.1
  have hN := hKW.2.2
  have hx := B.exec
  have hb := B.bytes
  have hr := B.returns
  have hts := atoms_spec (ws := wW_cutClip) B.pre
  have hown : s.vm.findClass "WindingRaster" = some m.cls := findClass_of_methodNamed B.named
  have hlocks := B.notSynchronized
  subst hsz
  have hD := hD0.self (sz := s.heap.size)
  obtain ⟨A, hAe⟩ : ∃ A, va_A [(wr, .inr (0, [.int (iI (cs : Int)), .int (iI (rs : Int)), .ref ag, .ref oo, .ref cp, .ref aw, .ref pl])), (oo, .inr (1, [.ref ax, .ref ay, .ref an, .int (iI (np : Int)), .int (iI (l0 : Int))])), (ax, .inl (cA, 4096, .inl (iA fX))), (ay, .inl (cA, 4096, .inl (iA fY))), (an, .inl (cA, 4096, .inl (iA fN))), (cp, .inr (2, [.ref ai, .ref at_, .int (iI (sv : Int)), .int (iI (en : Int))])), (ai, .inl (cA, 24000, .inl (iA fI))), (at_, .inl (cA, 13, .inl (iA fS))), (aw, .inl (cA, cs, .inl (iA fW))), (pl, .inr (3, [.ref ap, .int (iI (pn : Int))])), (ap, .inl (cA, pm, .inl (iA fP)))] s.heap.size = A := ⟨_, rfl⟩
  rw [hAe] at hD
  have hA : ∀ q : Nat, s.heap.size ≤ q → A q := fun q h => by rw [← hAe]; exact Or.inr h
  have hS : va_S A s.heap s.heap [] := va_S.rf
  have hP : va_P D vwCl [(wr, .inr (0, [.int (iI (cs : Int)), .int (iI (rs : Int)), .ref ag, .ref oo, .ref cp, .ref aw, .ref pl])), (oo, .inr (1, [.ref ax, .ref ay, .ref an, .int (iI (np : Int)), .int (iI (l0 : Int))])), (ax, .inl (cA, 4096, .inl (iA fX))), (ay, .inl (cA, 4096, .inl (iA fY))), (an, .inl (cA, 4096, .inl (iA fN))), (cp, .inr (2, [.ref ai, .ref at_, .int (iI (sv : Int)), .int (iI (en : Int))])), (ai, .inl (cA, 24000, .inl (iA fI))), (at_, .inl (cA, 13, .inl (iA fS))), (aw, .inl (cA, cs, .inl (iA fW))), (pl, .inr (3, [.ref ap, .int (iI (pn : Int))])), (ap, .inl (cA, pm, .inl (iA fP)))] s.heap := hP
  have in_0 : ∀ w ∈ wsW, w ∈ wW_cutClip := fun w h => List.mem_cons_of_mem _ (in0_W w h)
  have fl_59 := (hts _ (List.mem_cons_of_mem _ vm_75))
  have in_3 : ∀ w ∈ wsL, w ∈ wW_cutClip := fun w h => List.mem_cons_of_mem _ (in0_L w h)
  have fl_105 := va_Nw.use (A := [.ref wr, .int (iI rl)].toArray) rfl (hN _ vn_11)
  have fl_47 := (hts _ (List.mem_cons_of_mem _ vm_73))
  have in_2 : ∀ w ∈ wsC, w ∈ wW_cutClip := fun w h => List.mem_cons_of_mem _ (in0_C w h)
  have fl_130 := va_Nw.use (A := [.ref wr, .int (iI rl)].toArray) rfl (hN _ vn_6)
  have fl_133 := va_Nw.use (A := [.ref wr, .int (iI rl)].toArray) rfl (hN _ vn_4)
  have fl_38 := (hts _ (List.mem_cons_of_mem _ vm_72))
  have fl_51 := (hts _ (List.mem_cons_of_mem _ vm_74))
  have hl := lv_entry ([.ref wr, .int (iI rl)]) (n := 6) (Nat.le_of_ble_eq_true rfl)
  rw [lg_entry_eq]
  generalize (lg_sl ([.ref wr, .int (iI rl)]) ++ List.replicate (6 - (lg_sl ([.ref wr, .int (iI rl)])).length) Slot.unset).toArray = ls at hl ⊢
  have hl : lv_has ls 6 [(0, .ref wr), (1, .int (iI rl))] := hl
  generalize hQ : MQ below (qV (S := (Nat → Int) × (Nat → Int) × Nat) (fun u : (Nat → Int) × (Nat → Int) × Nat => segL u.2.1 0 (cutA (gW fX fY fN np rl) L) ∧ (cutA (gW fX fY fN np rl) L).length = u.2.2) D vwCl [(wr, .inr (0, [.int (iI (cs : Int)), .int (iI (rs : Int)), .ref ag, .ref oo, .ref cp, .ref aw, .ref pl])), (oo, .inr (1, [.ref ax, .ref ay, .ref an, .int (iI (np : Int)), .int (iI (l0 : Int))])), (ax, .inl (cA, 4096, .inl (iA fX))), (ay, .inl (cA, 4096, .inl (iA fY))), (an, .inl (cA, 4096, .inl (iA fN))), (cp, .inr (2, [.ref ai, .ref at_, .int (iI (sv : Int)), .int (iI (en : Int))])), (ai, .inl (cA, 24000, .inl (iA fI))), (at_, .inl (cA, 13, .inl (iA fS))), (aw, .inl (cA, cs, .inl (iA fW))), (pl, .inr (3, [.ref ap, .int (iI (pn : Int))])), (ap, .inl (cA, pm, .inl (iA fP)))] s.heap.size (fun u : (Nat → Int) × (Nat → Int) × Nat => [(wr, .inr (0, [.int (iI (cs : Int)), .int (iI (rs : Int)), .ref ag, .ref oo, .ref cp, .ref aw, .ref pl])), (oo, .inr (1, [.ref ax, .ref ay, .ref an, .int (iI (np : Int)), .int (iI (l0 : Int))])), (ax, .inl (cA, 4096, .inl (iA fX))), (ay, .inl (cA, 4096, .inl (iA fY))), (an, .inl (cA, 4096, .inl (iA fN))), (cp, .inr (2, [.ref ai, .ref at_, .int (iI (sv : Int)), .int (iI (en : Int))])), (ai, .inl (cA, 24000, .inl (iA fI))), (at_, .inl (cA, 13, .inl (iA fS))), (aw, .inl (cA, cs, .inl (iA u.1))), (pl, .inr (3, [.ref ap, .int (iI ((u.2.2 : Nat) : Int))])), (ap, .inl (cA, pm, .inl (iA u.2.1)))])) [.ref wr, .int (iI rl)].toArray s 0 0 (va_A [(wr, .inr (0, [.int (iI (cs : Int)), .int (iI (rs : Int)), .ref ag, .ref oo, .ref cp, .ref aw, .ref pl])), (oo, .inr (1, [.ref ax, .ref ay, .ref an, .int (iI (np : Int)), .int (iI (l0 : Int))])), (ax, .inl (cA, 4096, .inl (iA fX))), (ay, .inl (cA, 4096, .inl (iA fY))), (an, .inl (cA, 4096, .inl (iA fN))), (cp, .inr (2, [.ref ai, .ref at_, .int (iI (sv : Int)), .int (iI (en : Int))])), (ai, .inl (cA, 24000, .inl (iA fI))), (at_, .inl (cA, 13, .inl (iA fS))), (aw, .inl (cA, cs, .inl (iA fW))), (pl, .inr (3, [.ref ap, .int (iI (pn : Int))])), (ap, .inl (cA, pm, .inl (iA fP)))] s.heap.size) = QQ
  refine lv_aload_n hx hb dW_cutClip_0 rfl (lv_at hl 0 rfl) ?_
  refine va_get (ci := 0) (v := .ref pl) (C := "WindingRaster") (T := TW) (N := 7) hx hb hts in_0 hown hK hP 0 rfl rfl 6 (by decide) fl_59 (fun _ h9 => h9) rfl dW_cutClip_1 ?_
  refine ii_iconst (n := 0) hx hb dW_cutClip_4 ?_
  refine va_putN (ci := 3) (v := .int (iI 0)) (ty := .int) (C := "WindingRaster$RunList") (T := TL) (N := 2) hx hb hts in_3 tL tL_ok nL hown hK hP hD hS 9 rfl rfl 1 (by decide) fl_105 (fun _ h9 => h9) rfl (by decide +kernel) rfl rfl (Nat.le_of_ble_eq_true rfl) dW_cutClip_5 (fun H locs hP hD hS => ?_)
  have hP : va_P D vwCl [(wr, .inr (0, [.int (iI (cs : Int)), .int (iI (rs : Int)), .ref ag, .ref oo, .ref cp, .ref aw, .ref pl])), (oo, .inr (1, [.ref ax, .ref ay, .ref an, .int (iI (np : Int)), .int (iI (l0 : Int))])), (ax, .inl (cA, 4096, .inl (iA fX))), (ay, .inl (cA, 4096, .inl (iA fY))), (an, .inl (cA, 4096, .inl (iA fN))), (cp, .inr (2, [.ref ai, .ref at_, .int (iI (sv : Int)), .int (iI (en : Int))])), (ai, .inl (cA, 24000, .inl (iA fI))), (at_, .inl (cA, 13, .inl (iA fS))), (aw, .inl (cA, cs, .inl (iA fW))), (pl, .inr (3, [.ref ap, .int (iI 0)])), (ap, .inl (cA, pm, .inl (iA fP)))] H := hP
  have hD : va_D A [(wr, .inr (0, [.int (iI (cs : Int)), .int (iI (rs : Int)), .ref ag, .ref oo, .ref cp, .ref aw, .ref pl])), (oo, .inr (1, [.ref ax, .ref ay, .ref an, .int (iI (np : Int)), .int (iI (l0 : Int))])), (ax, .inl (cA, 4096, .inl (iA fX))), (ay, .inl (cA, 4096, .inl (iA fY))), (an, .inl (cA, 4096, .inl (iA fN))), (cp, .inr (2, [.ref ai, .ref at_, .int (iI (sv : Int)), .int (iI (en : Int))])), (ai, .inl (cA, 24000, .inl (iA fI))), (at_, .inl (cA, 13, .inl (iA fS))), (aw, .inl (cA, cs, .inl (iA fW))), (pl, .inr (3, [.ref ap, .int (iI 0)])), (ap, .inl (cA, pm, .inl (iA fP)))] := hD
  refine ii_iconst (n := (-1)) hx hb dW_cutClip_8 ?_
  refine lv_istore_n (lv' := [(2, .int (iI (-1))), (0, .ref wr), (1, .int (iI rl))]) hx hb dW_cutClip_9 rfl hl (by decide) rfl (fun ls hl => ?_)
  refine ii_iconst (n := 0) hx hb dW_cutClip_10 ?_
  refine lv_istore_n (lv' := [(3, .int (iI 0)), (2, .int (iI (-1))), (0, .ref wr), (1, .int (iI rl))]) hx hb dW_cutClip_11 rfl hl (by decide) rfl (fun ls hl => ?_)
  refine lv_aload_n hx hb dW_cutClip_12 rfl (lv_at hl 2 rfl) ?_
  refine va_get (ci := 0) (v := .ref cp) (C := "WindingRaster") (T := TW) (N := 7) hx hb hts in_0 hown hK hP 0 rfl rfl 4 (by decide) fl_47 (fun _ h9 => h9) rfl dW_cutClip_13 ?_
  refine cs_i (va_runVN (As := []) (rest := []) ⟨hx, hb, hml, hown, hts⟩ (c_start l D cA cB cS cp ai at_ fI fS sv en st0 (by omega) h2) ⟨(va_cnB 0 hts (gIn vm_160) rfl rfl rfl (hN _ vn_18) (hts _ (List.mem_cons_of_mem _ vm_5)) (by decide +kernel) ⟨Nat.le_of_ble_eq_true rfl, Nat.le_of_ble_eq_true rfl⟩), (hts _ (List.mem_cons_of_mem _ vm_159)), (hts _ (List.mem_cons_of_mem _ vm_395))⟩ (pR.preV (va_recv hK hP (ci := 2) (q0 := 5) rfl rfl) (hP.sub [5, 6, 7] rfl) hKW) rfl rfl hl.1 rfl (lv_room (Nat.le_of_ble_eq_true rfl)) dW_cutClip_16 ⟨Nat.le_of_ble_eq_true rfl, Nat.le_of_ble_eq_true rfl⟩) (fun z_1 hz_1 => ?_)
  subst hz_1
  refine lv_istore (lv' := [(4, .int (iI (st0 : Int))), (3, .int (iI 0)), (2, .int (iI (-1))), (0, .ref wr), (1, .int (iI rl))]) hx hb dW_cutClip_19 hl (by decide) rfl (fun ls hl => ?_)
  have lp21 : ∀ (n_ : Nat) (i : Nat) (T : List Run3) (ro : Int) (cr : Int) (fV : Nat → Int) (Pc : List Run3) (fQ : Nat → Int) (pq : Nat), (segL fI i T) → (i + T.length = en) → (∀ x ∈ T, runOk cs rs x) → (segL fQ 0 Pc ∧ Pc.length = pq) → (Pc ++ cutA (gW fX fY fN np rl) T = cutA (gW fX fY fN np rl) L) → (cr = 0 ∨ cr = 1) → (rowI cs fX fY fN np fV cr ro) → (T.length) < n_ → ∀ (H : Heap) (locs : List Loc), va_P D vwCl [(wr, .inr (0, [.int (iI (cs : Int)), .int (iI (rs : Int)), .ref ag, .ref oo, .ref cp, .ref aw, .ref pl])), (oo, .inr (1, [.ref ax, .ref ay, .ref an, .int (iI (np : Int)), .int (iI (l0 : Int))])), (ax, .inl (cA, 4096, .inl (iA fX))), (ay, .inl (cA, 4096, .inl (iA fY))), (an, .inl (cA, 4096, .inl (iA fN))), (cp, .inr (2, [.ref ai, .ref at_, .int (iI (sv : Int)), .int (iI (en : Int))])), (ai, .inl (cA, 24000, .inl (iA fI))), (at_, .inl (cA, 13, .inl (iA fS))), (aw, .inl (cA, cs, .inl (iA fV))), (pl, .inr (3, [.ref ap, .int (iI (pq : Int))])), (ap, .inl (cA, pm, .inl (iA fQ)))] H → va_D A [(wr, .inr (0, [.int (iI (cs : Int)), .int (iI (rs : Int)), .ref ag, .ref oo, .ref cp, .ref aw, .ref pl])), (oo, .inr (1, [.ref ax, .ref ay, .ref an, .int (iI (np : Int)), .int (iI (l0 : Int))])), (ax, .inl (cA, 4096, .inl (iA fX))), (ay, .inl (cA, 4096, .inl (iA fY))), (an, .inl (cA, 4096, .inl (iA fN))), (cp, .inr (2, [.ref ai, .ref at_, .int (iI (sv : Int)), .int (iI (en : Int))])), (ai, .inl (cA, 24000, .inl (iA fI))), (at_, .inl (cA, 13, .inl (iA fS))), (aw, .inl (cA, cs, .inl (iA fV))), (pl, .inr (3, [.ref ap, .int (iI (pq : Int))])), (ap, .inl (cA, pm, .inl (iA fQ)))] → va_S A s.heap H locs → ∀ ls : Array Slot, lv_has ls 6 [(4, .int (iI (i : Int))), (3, .int (iI cr)), (2, .int (iI ro)), (0, .ref wr), (1, .int (iI rl))] → W p l e (headSpec wW_cutClip rm_c_cutClip).room s m [.ref wr, .int (iI rl)].toArray below meth c H locs 0 0 QQ (F0 m 21 ls []) := by
    intro n_
    induction n_ with
    | zero =>
      intro i T ro cr fV Pc fQ pq i1 i2 i3 i4 i5 i6 i7 hm_
      exact absurd hm_ (Nat.not_lt_zero _)
    | succ n_ ih_lp21 =>
      intro i T ro cr fV Pc fQ pq i1 i2 i3 i4 i5 i6 i7 hm_lp21 H locs hP hD hS ls hl
      have hro : -1 ≤ ro ∧ ro < 256 := by rcases i7 with w | ⟨r0, w1, w2, w3, w4⟩ <;> omega
      refine lv_iload hx hb dW_cutClip_21 (lv_at hl 0 rfl) ?_
      refine lv_aload_n hx hb dW_cutClip_23 rfl (lv_at hl 3 rfl) ?_
      refine va_get (ci := 0) (v := .ref cp) (C := "WindingRaster") (T := TW) (N := 7) hx hb hts in_0 hown hK hP 0 rfl rfl 4 (by decide) fl_47 (fun _ h9 => h9) rfl dW_cutClip_24 ?_
      refine va_getN (ci := 2) (v := .int (iI (en : Int))) (C := "WindingRaster$ClipPile") (T := TC) (N := 4) hx hb hts in_2 hown hK hP 5 rfl rfl 3 (by decide) fl_130 (fun _ h9 => h9) rfl dW_cutClip_27 ?_
      refine ii_icmp_ge (tgt := 90) hx hb dW_cutClip_30 (by decide) (by omega) (by omega) (fun c30 => ?_) (fun c30 => ?_)
      · rw [← hQ]
        exact wr_vret (fV, fQ, pq) hx hb hr hlocks hAe (hP.sub [0, 1, 2, 3, 4, 5, 6, 7, 8, 9, 10] rfl) (hD.sub [0, 1, 2, 3, 4, 5, 6, 7, 8, 9, 10] (by decide) rfl) hS (by rw [List.eq_nil_of_length_eq_zero (l := T) (by omega)] at i5; rw [← i5]; show segL fQ 0 (Pc ++ []) ∧ (Pc ++ []).length = pq; rw [List.append_nil]; exact i4) dW_cutClip_90
      · obtain ⟨x, T1, hT⟩ : ∃ x T1, T = x :: T1 := by
          cases T with
          | nil => exact absurd i2 (by rw [List.length_nil]; omega)
          | cons x T1 => exact ⟨x, T1, rfl⟩
        subst hT
        obtain ⟨hs1, hs2⟩ := i1
        have hok := i3 x List.mem_cons_self
        have e1 := enc_row hok h6
        have e2 := enc_from hok h6
        have e3 := enc_end hok h6
        have e4 := enc_lt hok h6 h7
        rw [List.length_cons] at i2
        have hok2 := hok.2.1
        have hok1 := hok.1
        have hok3 := hok.2.2
        refine lv_aload_n hx hb dW_cutClip_33 rfl (lv_at hl 3 rfl) ?_
        refine va_get (ci := 0) (v := .ref cp) (C := "WindingRaster") (T := TW) (N := 7) hx hb hts in_0 hown hK hP 0 rfl rfl 4 (by decide) fl_47 (fun _ h9 => h9) rfl dW_cutClip_34 ?_
        refine va_getN (ci := 2) (v := .ref ai) (C := "WindingRaster$ClipPile") (T := TC) (N := 4) hx hb hts in_2 hown hK hP 5 rfl rfl 0 (by decide) fl_133 (fun _ h9 => h9) rfl dW_cutClip_37 ?_
        refine lv_iload hx hb dW_cutClip_40 (lv_at hl 0 rfl) ?_
        refine ii_iald hx hb hK hP 6 0 rfl rfl i rfl (by omega) (by omega) dW_cutClip_42 ?_
        refine ii_top (y := ((enc x : Nat) : Int)) hs1 ?_
        refine lv_istore (lv' := [(5, .int (iI ((enc x : Nat) : Int))), (4, .int (iI (i : Int))), (3, .int (iI cr)), (2, .int (iI ro)), (0, .ref wr), (1, .int (iI rl))]) hx hb dW_cutClip_43 hl (by decide) rfl (fun ls hl => ?_)
        refine lv_iload hx hb dW_cutClip_45 (lv_at hl 0 rfl) ?_
        refine cs_i (va_runSN (As := [.int (iI ((enc x : Nat) : Int))]) (rest := []) ⟨hx, hb, hml, hown, hts⟩ (c_rowOf l D cA cB cS (enc x) (by omega)) ⟨(va_cnB 1 hts (gIn vm_162) rfl rfl rfl (hN _ vn_19) (hts _ (List.mem_cons_of_mem _ vm_6)) (by decide +kernel) ⟨Nat.le_of_ble_eq_true rfl, Nat.le_of_ble_eq_true rfl⟩), (hts _ (List.mem_cons_of_mem _ vm_161)), trivial⟩ (pR.pre (hP.sub [] rfl) hKW) rfl rfl hl.1 rfl (lv_room (Nat.le_of_ble_eq_true rfl)) dW_cutClip_47 ⟨Nat.le_of_ble_eq_true rfl, Nat.le_of_ble_eq_true rfl⟩) (fun z_2 hz_2 => ?_)
        subst hz_2
        refine ii_top (y := ((x.1 : Nat) : Int)) (by rw [e1]) ?_
        refine lv_iload_n hx hb dW_cutClip_50 rfl (lv_at hl 3 rfl) ?_
        refine ii_icmp_eq (tgt := 73) hx hb dW_cutClip_51 (by decide) (by omega) (by omega) (fun c51 => ?_) (fun c51 => ?_)
        · obtain ⟨hw1, hw2⟩ : (∀ k, k < cs → fV k = wiZ fX fY fN np ((x.1 * 65536 + 32768 : Nat) : Int) (k : Int)) ∧ (cr = 0 → ∀ k : Int, wiZ fX fY fN np ((x.1 * 65536 + 32768 : Nat) : Int) k = 0) := by
            rcases i7 with w | ⟨r0, w1, w2, w3, w4⟩
            · exfalso; omega
            · have w5 : r0 = x.1 := by omega
              subst w5
              exact ⟨w3, w4⟩
          refine lv_iload_n hx hb dW_cutClip_73 rfl (lv_at hl 2 rfl) ?_
          refine ii_if_eq (tgt := 84) hx hb dW_cutClip_74 (by decide) (by omega) (fun c74 => ?_) (fun c74 => ?_)
          · refine lv_iinc (v := iI ((i + 1 : Nat) : Int)) (lv' := [(4, .int (iI ((i + 1 : Nat) : Int))), (5, .int (iI ((enc x : Nat) : Int))), (3, .int (iI cr)), (2, .int (iI ro)), (0, .ref wr), (1, .int (iI rl))]) hx hb dW_cutClip_84 hl (k := 1) rfl (iI_inc _ 1 (by omega)) (by decide) rfl (fun ls hl => ?_)
            refine lv_goto (tgt := 21) hx hb dW_cutClip_87 (by decide) ?_
            exact ih_lp21 (i + 1) T1 ro cr fV Pc fQ pq hs2 (by omega) (fun y hy => i3 y (List.mem_cons_of_mem _ hy)) i4 (by rw [← i5]; show _ = Pc ++ (cutG ((gW fX fY fN np rl) x.1) x.1 (x.2.2 - x.2.1) x.2.1 none ++ cutA (gW fX fY fN np rl) T1); rw [cutG_nil x.1 _ _ (fun k w1 w2 => by show insB rl _ = false; rw [hw2 (by omega) (k : Int)]; exact insB_0 rl), List.nil_append]) (by omega) (Or.inr ⟨x.1, by omega, by omega, hw1, hw2⟩) (by rw [List.length_cons] at hm_lp21; omega) _ _ (hP.sub [0, 1, 2, 3, 4, 5, 6, 7, 8, 9, 10] rfl) (hD.sub [0, 1, 2, 3, 4, 5, 6, 7, 8, 9, 10] (by decide) rfl) hS _ (lv_sub hl [0, 2, 3, 4, 5] rfl)
          · have hcg : cutG (fun k => insB rl (fV k)) x.1 (x.2.2 - x.2.1) x.2.1 none = cutG ((gW fX fY fN np rl) x.1) x.1 (x.2.2 - x.2.1) x.2.1 none := cutG_congr x.1 _ _ none (fun k w1 w2 => by show insB rl (fV k) = insB rl _; rw [hw1 k (by omega)])
            refine lv_aload_n hx hb dW_cutClip_77 rfl (lv_at hl 4 rfl) ?_
            refine lv_iload hx hb dW_cutClip_78 (lv_at hl 0 rfl) ?_
            refine lv_iload_n hx hb dW_cutClip_80 rfl (lv_at hl 5 rfl) ?_
            refine cw_v (wc := [(wr, .inr (0, [.int (iI (cs : Int)), .int (iI (rs : Int)), .ref ag, .ref oo, .ref cp, .ref aw, .ref pl])), (aw, .inl (cA, cs, .inl (iA fV))), (pl, .inr (3, [.ref ap, .int (iI (pq : Int))])), (ap, .inl (cA, pm, .inl (iA fQ)))]) (wr := [(oo, .inr (1, [.ref ax, .ref ay, .ref an, .int (iI (np : Int)), .int (iI (l0 : Int))])), (ax, .inl (cA, 4096, .inl (iA fX))), (ay, .inl (cA, 4096, .inl (iA fY))), (an, .inl (cA, 4096, .inl (iA fN))), (cp, .inr (2, [.ref ai, .ref at_, .int (iI (sv : Int)), .int (iI (en : Int))])), (ai, .inl (cA, 24000, .inl (iA fI))), (at_, .inl (cA, 13, .inl (iA fS)))]) hP hD hS hA [0, 8, 9, 10] [1, 2, 3, 4, 5, 6, 7] rfl rfl (by decide) (by decide) (va_runV (As := [.int (iI ((enc x : Nat) : Int)), .int (iI rl)]) (rest := []) ⟨hx, hb, hml, hown, hts⟩ (c_cutRun l D cA cB cS wr cs rs ag oo cp aw pl fV ap fQ pq pm x rl Pc hok i4.2 i4.1 (by rw [hcg]; have w := congrArg List.length i5; simp only [cutA, List.length_append] at w ⊢; omega) (by omega) (by omega) (by omega) (by omega) (fun k hk => by rw [hw1 k hk]; have w := wiZ_rng fX fY fN ((x.1 * 65536 + 32768 : Nat) : Int) (k : Int) np; omega) _) ⟨(callB_of 2 hts (gIn vm_169) rfl rfl rfl (hts _ (List.mem_cons_of_mem _ vm_1)) (hts _ (List.mem_cons_of_mem _ vm_167)) (by decide +kernel) ⟨Nat.le_of_ble_eq_true rfl, Nat.le_of_ble_eq_true rfl⟩), (hts _ (List.mem_cons_of_mem _ vm_168)), (hts _ (List.mem_cons_of_mem _ vm_397))⟩ (pW.preV (va_recv hK hP (ci := 0) (q0 := 0) rfl rfl) (hP.sub [0, 8, 9, 10] rfl) (hD.sub [0, 8, 9, 10] (by decide) rfl) hKW) rfl rfl hl.1 rfl (lv_room (Nat.le_of_ble_eq_true rfl)) dW_cutClip_81 ⟨Nat.le_of_ble_eq_true rfl, Nat.le_of_ble_eq_true rfl⟩) (fun u_3 H locs hzc hP hD hS => ?_)
            obtain ⟨fP1_4, pn1_5⟩ := u_3
            try dsimp only at hzc
            have hP : va_P D vwCl [(oo, .inr (1, [.ref ax, .ref ay, .ref an, .int (iI (np : Int)), .int (iI (l0 : Int))])), (ax, .inl (cA, 4096, .inl (iA fX))), (ay, .inl (cA, 4096, .inl (iA fY))), (an, .inl (cA, 4096, .inl (iA fN))), (cp, .inr (2, [.ref ai, .ref at_, .int (iI (sv : Int)), .int (iI (en : Int))])), (ai, .inl (cA, 24000, .inl (iA fI))), (at_, .inl (cA, 13, .inl (iA fS))), (wr, .inr (0, [.int (iI (cs : Int)), .int (iI (rs : Int)), .ref ag, .ref oo, .ref cp, .ref aw, .ref pl])), (aw, .inl (cA, cs, .inl (iA fV))), (pl, .inr (3, [.ref ap, .int (iI (pn1_5 : Int))])), (ap, .inl (cA, pm, .inl (iA fP1_4)))] H := hP
            have hD : va_D A [(oo, .inr (1, [.ref ax, .ref ay, .ref an, .int (iI (np : Int)), .int (iI (l0 : Int))])), (ax, .inl (cA, 4096, .inl (iA fX))), (ay, .inl (cA, 4096, .inl (iA fY))), (an, .inl (cA, 4096, .inl (iA fN))), (cp, .inr (2, [.ref ai, .ref at_, .int (iI (sv : Int)), .int (iI (en : Int))])), (ai, .inl (cA, 24000, .inl (iA fI))), (at_, .inl (cA, 13, .inl (iA fS))), (wr, .inr (0, [.int (iI (cs : Int)), .int (iI (rs : Int)), .ref ag, .ref oo, .ref cp, .ref aw, .ref pl])), (aw, .inl (cA, cs, .inl (iA fV))), (pl, .inr (3, [.ref ap, .int (iI (pn1_5 : Int))])), (ap, .inl (cA, pm, .inl (iA fP1_4)))] := hD
            refine lv_iinc (v := iI ((i + 1 : Nat) : Int)) (lv' := [(4, .int (iI ((i + 1 : Nat) : Int))), (5, .int (iI ((enc x : Nat) : Int))), (3, .int (iI cr)), (2, .int (iI ro)), (0, .ref wr), (1, .int (iI rl))]) hx hb dW_cutClip_84 hl (k := 1) rfl (iI_inc _ 1 (by omega)) (by decide) rfl (fun ls hl => ?_)
            refine lv_goto (tgt := 21) hx hb dW_cutClip_87 (by decide) ?_
            exact ih_lp21 (i + 1) T1 ro cr fV (Pc ++ cutG (fun k => insB rl (fV k)) x.1 (x.2.2 - x.2.1) x.2.1 none) fP1_4 pn1_5 hs2 (by omega) (fun y hy => i3 y (List.mem_cons_of_mem _ hy)) hzc (by rw [← i5, hcg, List.append_assoc]; rfl) (by omega) (Or.inr ⟨x.1, by omega, by omega, hw1, hw2⟩) (by rw [List.length_cons] at hm_lp21; omega) _ _ (hP.sub [7, 0, 1, 2, 3, 4, 5, 6, 8, 9, 10] rfl) (hD.sub [7, 0, 1, 2, 3, 4, 5, 6, 8, 9, 10] (by decide) rfl) hS _ (lv_sub hl [0, 2, 3, 4, 5] rfl)
        · refine lv_iload hx hb dW_cutClip_54 (lv_at hl 0 rfl) ?_
          refine cs_i (va_runSN (As := [.int (iI ((enc x : Nat) : Int))]) (rest := []) ⟨hx, hb, hml, hown, hts⟩ (c_rowOf l D cA cB cS (enc x) (by omega)) ⟨(va_cnB 1 hts (gIn vm_162) rfl rfl rfl (hN _ vn_19) (hts _ (List.mem_cons_of_mem _ vm_6)) (by decide +kernel) ⟨Nat.le_of_ble_eq_true rfl, Nat.le_of_ble_eq_true rfl⟩), (hts _ (List.mem_cons_of_mem _ vm_161)), trivial⟩ (pR.pre (hP.sub [] rfl) hKW) rfl rfl hl.1 rfl (lv_room (Nat.le_of_ble_eq_true rfl)) dW_cutClip_56 ⟨Nat.le_of_ble_eq_true rfl, Nat.le_of_ble_eq_true rfl⟩) (fun z_6 hz_6 => ?_)
          subst hz_6
          refine ii_top (y := ((x.1 : Nat) : Int)) (by rw [e1]) ?_
          refine lv_istore_n (lv' := [(2, .int (iI ((x.1 : Nat) : Int))), (5, .int (iI ((enc x : Nat) : Int))), (4, .int (iI (i : Int))), (3, .int (iI cr)), (0, .ref wr), (1, .int (iI rl))]) hx hb dW_cutClip_59 rfl hl (by decide) rfl (fun ls hl => ?_)
          refine lv_aload_n hx hb dW_cutClip_60 rfl (lv_at hl 4 rfl) ?_
          refine va_get (ci := 0) (v := .ref oo) (C := "WindingRaster") (T := TW) (N := 7) hx hb hts in_0 hown hK hP 0 rfl rfl 3 (by decide) fl_38 (fun _ h9 => h9) rfl dW_cutClip_61 ?_
          refine lv_iload_n hx hb dW_cutClip_64 rfl (lv_at hl 0 rfl) ?_
          refine lv_aload_n hx hb dW_cutClip_65 rfl (lv_at hl 4 rfl) ?_
          refine va_get (ci := 0) (v := .ref aw) (C := "WindingRaster") (T := TW) (N := 7) hx hb hts in_0 hown hK hP 0 rfl rfl 5 (by decide) fl_51 (fun _ h9 => h9) rfl dW_cutClip_66 ?_
          refine cw_i (wc := [(oo, .inr (1, [.ref ax, .ref ay, .ref an, .int (iI (np : Int)), .int (iI (l0 : Int))])), (ax, .inl (cA, 4096, .inl (iA fX))), (ay, .inl (cA, 4096, .inl (iA fY))), (an, .inl (cA, 4096, .inl (iA fN))), (aw, .inl (cA, cs, .inl (iA fV)))]) (wr := [(wr, .inr (0, [.int (iI (cs : Int)), .int (iI (rs : Int)), .ref ag, .ref oo, .ref cp, .ref aw, .ref pl])), (cp, .inr (2, [.ref ai, .ref at_, .int (iI (sv : Int)), .int (iI (en : Int))])), (ai, .inl (cA, 24000, .inl (iA fI))), (at_, .inl (cA, 13, .inl (iA fS))), (pl, .inr (3, [.ref ap, .int (iI (pq : Int))])), (ap, .inl (cA, pm, .inl (iA fQ)))]) hP hD hS hA [1, 2, 3, 4, 8] [0, 5, 6, 7, 9, 10] rfl rfl (by decide) (by decide) (va_runVN (As := [.int (iI ((x.1 : Nat) : Int)), .ref aw]) (rest := []) ⟨hx, hb, hml, hown, hts⟩ (c_windRow l D cA cB cS oo ax ay an fX fY fN np l0 aw cs fV x.1 h9 (by omega) (by omega) h10 h11 _) ⟨(va_cnB 2 hts (gIn vm_164) rfl rfl rfl (hN _ vn_20) (hts _ (List.mem_cons_of_mem _ vm_4)) (by decide +kernel) ⟨Nat.le_of_ble_eq_true rfl, Nat.le_of_ble_eq_true rfl⟩), (hts _ (List.mem_cons_of_mem _ vm_163)), (hts _ (List.mem_cons_of_mem _ vm_396))⟩ (pW.preV (va_recv hK hP (ci := 1) (q0 := 1) rfl rfl) (hP.sub [1, 2, 3, 4, 8] rfl) (hD.sub [1, 2, 3, 4, 8] (by decide) rfl) hKW) rfl rfl hl.1 rfl (lv_room (Nat.le_of_ble_eq_true rfl)) dW_cutClip_69 ⟨Nat.le_of_ble_eq_true rfl, Nat.le_of_ble_eq_true rfl⟩) (fun zw u_7 H locs hzw hP hD hS => ?_)
          obtain ⟨fV1, rfl⟩ : ∃ z_, z_ = u_7 := ⟨_, rfl⟩
          try dsimp only at hzw
          have hP : va_P D vwCl [(wr, .inr (0, [.int (iI (cs : Int)), .int (iI (rs : Int)), .ref ag, .ref oo, .ref cp, .ref aw, .ref pl])), (cp, .inr (2, [.ref ai, .ref at_, .int (iI (sv : Int)), .int (iI (en : Int))])), (ai, .inl (cA, 24000, .inl (iA fI))), (at_, .inl (cA, 13, .inl (iA fS))), (pl, .inr (3, [.ref ap, .int (iI (pq : Int))])), (ap, .inl (cA, pm, .inl (iA fQ))), (oo, .inr (1, [.ref ax, .ref ay, .ref an, .int (iI (np : Int)), .int (iI (l0 : Int))])), (ax, .inl (cA, 4096, .inl (iA fX))), (ay, .inl (cA, 4096, .inl (iA fY))), (an, .inl (cA, 4096, .inl (iA fN))), (aw, .inl (cA, cs, .inl (iA fV1)))] H := hP
          have hD : va_D A [(wr, .inr (0, [.int (iI (cs : Int)), .int (iI (rs : Int)), .ref ag, .ref oo, .ref cp, .ref aw, .ref pl])), (cp, .inr (2, [.ref ai, .ref at_, .int (iI (sv : Int)), .int (iI (en : Int))])), (ai, .inl (cA, 24000, .inl (iA fI))), (at_, .inl (cA, 13, .inl (iA fS))), (pl, .inr (3, [.ref ap, .int (iI (pq : Int))])), (ap, .inl (cA, pm, .inl (iA fQ))), (oo, .inr (1, [.ref ax, .ref ay, .ref an, .int (iI (np : Int)), .int (iI (l0 : Int))])), (ax, .inl (cA, 4096, .inl (iA fX))), (ay, .inl (cA, 4096, .inl (iA fY))), (an, .inl (cA, 4096, .inl (iA fN))), (aw, .inl (cA, cs, .inl (iA fV1)))] := hD
          obtain ⟨i6, hw1, hw2⟩ := hzw
          refine lv_istore_n (lv' := [(3, .int (iI zw)), (2, .int (iI ((x.1 : Nat) : Int))), (5, .int (iI ((enc x : Nat) : Int))), (4, .int (iI (i : Int))), (0, .ref wr), (1, .int (iI rl))]) hx hb dW_cutClip_72 rfl hl (by decide) rfl (fun ls hl => ?_)
          refine lv_iload_n hx hb dW_cutClip_73 rfl (lv_at hl 0 rfl) ?_
          refine ii_if_eq (tgt := 84) hx hb dW_cutClip_74 (by decide) (by omega) (fun c74 => ?_) (fun c74 => ?_)
          · refine lv_iinc (v := iI ((i + 1 : Nat) : Int)) (lv' := [(4, .int (iI ((i + 1 : Nat) : Int))), (3, .int (iI zw)), (2, .int (iI ((x.1 : Nat) : Int))), (5, .int (iI ((enc x : Nat) : Int))), (0, .ref wr), (1, .int (iI rl))]) hx hb dW_cutClip_84 hl (k := 3) rfl (iI_inc _ 1 (by omega)) (by decide) rfl (fun ls hl => ?_)
            refine lv_goto (tgt := 21) hx hb dW_cutClip_87 (by decide) ?_
            exact ih_lp21 (i + 1) T1 ((x.1 : Nat) : Int) zw fV1 Pc fQ pq hs2 (by omega) (fun y hy => i3 y (List.mem_cons_of_mem _ hy)) i4 (by rw [← i5]; show _ = Pc ++ (cutG ((gW fX fY fN np rl) x.1) x.1 (x.2.2 - x.2.1) x.2.1 none ++ cutA (gW fX fY fN np rl) T1); rw [cutG_nil x.1 _ _ (fun k w1 w2 => by show insB rl _ = false; rw [hw2 (by omega) (k : Int)]; exact insB_0 rl), List.nil_append]) (by omega) (Or.inr ⟨x.1, by omega, by omega, hw1, hw2⟩) (by rw [List.length_cons] at hm_lp21; omega) _ _ (hP.sub [0, 6, 7, 8, 9, 1, 2, 3, 10, 4, 5] rfl) (hD.sub [0, 6, 7, 8, 9, 1, 2, 3, 10, 4, 5] (by decide) rfl) hS _ (lv_sub hl [0, 1, 2, 4, 5] rfl)
          · have hcg : cutG (fun k => insB rl (fV1 k)) x.1 (x.2.2 - x.2.1) x.2.1 none = cutG ((gW fX fY fN np rl) x.1) x.1 (x.2.2 - x.2.1) x.2.1 none := cutG_congr x.1 _ _ none (fun k w1 w2 => by show insB rl (fV1 k) = insB rl _; rw [hw1 k (by omega)])
            refine lv_aload_n hx hb dW_cutClip_77 rfl (lv_at hl 4 rfl) ?_
            refine lv_iload hx hb dW_cutClip_78 (lv_at hl 2 rfl) ?_
            refine lv_iload_n hx hb dW_cutClip_80 rfl (lv_at hl 5 rfl) ?_
            refine cw_v (wc := [(wr, .inr (0, [.int (iI (cs : Int)), .int (iI (rs : Int)), .ref ag, .ref oo, .ref cp, .ref aw, .ref pl])), (aw, .inl (cA, cs, .inl (iA fV1))), (pl, .inr (3, [.ref ap, .int (iI (pq : Int))])), (ap, .inl (cA, pm, .inl (iA fQ)))]) (wr := [(cp, .inr (2, [.ref ai, .ref at_, .int (iI (sv : Int)), .int (iI (en : Int))])), (ai, .inl (cA, 24000, .inl (iA fI))), (at_, .inl (cA, 13, .inl (iA fS))), (oo, .inr (1, [.ref ax, .ref ay, .ref an, .int (iI (np : Int)), .int (iI (l0 : Int))])), (ax, .inl (cA, 4096, .inl (iA fX))), (ay, .inl (cA, 4096, .inl (iA fY))), (an, .inl (cA, 4096, .inl (iA fN)))]) hP hD hS hA [0, 10, 4, 5] [1, 2, 3, 6, 7, 8, 9] rfl rfl (by decide) (by decide) (va_runV (As := [.int (iI ((enc x : Nat) : Int)), .int (iI rl)]) (rest := []) ⟨hx, hb, hml, hown, hts⟩ (c_cutRun l D cA cB cS wr cs rs ag oo cp aw pl fV1 ap fQ pq pm x rl Pc hok i4.2 i4.1 (by rw [hcg]; have w := congrArg List.length i5; simp only [cutA, List.length_append] at w ⊢; omega) (by omega) (by omega) (by omega) (by omega) (fun k hk => by rw [hw1 k hk]; have w := wiZ_rng fX fY fN ((x.1 * 65536 + 32768 : Nat) : Int) (k : Int) np; omega) _) ⟨(callB_of 2 hts (gIn vm_169) rfl rfl rfl (hts _ (List.mem_cons_of_mem _ vm_1)) (hts _ (List.mem_cons_of_mem _ vm_167)) (by decide +kernel) ⟨Nat.le_of_ble_eq_true rfl, Nat.le_of_ble_eq_true rfl⟩), (hts _ (List.mem_cons_of_mem _ vm_168)), (hts _ (List.mem_cons_of_mem _ vm_397))⟩ (pW.preV (va_recv hK hP (ci := 0) (q0 := 0) rfl rfl) (hP.sub [0, 10, 4, 5] rfl) (hD.sub [0, 10, 4, 5] (by decide) rfl) hKW) rfl rfl hl.1 rfl (lv_room (Nat.le_of_ble_eq_true rfl)) dW_cutClip_81 ⟨Nat.le_of_ble_eq_true rfl, Nat.le_of_ble_eq_true rfl⟩) (fun u_8 H locs hzc hP hD hS => ?_)
            obtain ⟨fP1_9, pn1_10⟩ := u_8
            try dsimp only at hzc
            have hP : va_P D vwCl [(cp, .inr (2, [.ref ai, .ref at_, .int (iI (sv : Int)), .int (iI (en : Int))])), (ai, .inl (cA, 24000, .inl (iA fI))), (at_, .inl (cA, 13, .inl (iA fS))), (oo, .inr (1, [.ref ax, .ref ay, .ref an, .int (iI (np : Int)), .int (iI (l0 : Int))])), (ax, .inl (cA, 4096, .inl (iA fX))), (ay, .inl (cA, 4096, .inl (iA fY))), (an, .inl (cA, 4096, .inl (iA fN))), (wr, .inr (0, [.int (iI (cs : Int)), .int (iI (rs : Int)), .ref ag, .ref oo, .ref cp, .ref aw, .ref pl])), (aw, .inl (cA, cs, .inl (iA fV1))), (pl, .inr (3, [.ref ap, .int (iI (pn1_10 : Int))])), (ap, .inl (cA, pm, .inl (iA fP1_9)))] H := hP
            have hD : va_D A [(cp, .inr (2, [.ref ai, .ref at_, .int (iI (sv : Int)), .int (iI (en : Int))])), (ai, .inl (cA, 24000, .inl (iA fI))), (at_, .inl (cA, 13, .inl (iA fS))), (oo, .inr (1, [.ref ax, .ref ay, .ref an, .int (iI (np : Int)), .int (iI (l0 : Int))])), (ax, .inl (cA, 4096, .inl (iA fX))), (ay, .inl (cA, 4096, .inl (iA fY))), (an, .inl (cA, 4096, .inl (iA fN))), (wr, .inr (0, [.int (iI (cs : Int)), .int (iI (rs : Int)), .ref ag, .ref oo, .ref cp, .ref aw, .ref pl])), (aw, .inl (cA, cs, .inl (iA fV1))), (pl, .inr (3, [.ref ap, .int (iI (pn1_10 : Int))])), (ap, .inl (cA, pm, .inl (iA fP1_9)))] := hD
            refine lv_iinc (v := iI ((i + 1 : Nat) : Int)) (lv' := [(4, .int (iI ((i + 1 : Nat) : Int))), (3, .int (iI zw)), (2, .int (iI ((x.1 : Nat) : Int))), (5, .int (iI ((enc x : Nat) : Int))), (0, .ref wr), (1, .int (iI rl))]) hx hb dW_cutClip_84 hl (k := 3) rfl (iI_inc _ 1 (by omega)) (by decide) rfl (fun ls hl => ?_)
            refine lv_goto (tgt := 21) hx hb dW_cutClip_87 (by decide) ?_
            exact ih_lp21 (i + 1) T1 ((x.1 : Nat) : Int) zw fV1 (Pc ++ cutG (fun k => insB rl (fV1 k)) x.1 (x.2.2 - x.2.1) x.2.1 none) fP1_9 pn1_10 hs2 (by omega) (fun y hy => i3 y (List.mem_cons_of_mem _ hy)) hzc (by rw [← i5, hcg, List.append_assoc]; rfl) (by omega) (Or.inr ⟨x.1, by omega, by omega, hw1, hw2⟩) (by rw [List.length_cons] at hm_lp21; omega) _ _ (hP.sub [7, 3, 4, 5, 6, 0, 1, 2, 8, 9, 10] rfl) (hD.sub [7, 3, 4, 5, 6, 0, 1, 2, 8, 9, 10] (by decide) rfl) hS _ (lv_sub hl [0, 1, 2, 4, 5] rfl)
  exact lp21 (L.length + 1) st0 L (-1) 0 fW ([]) fP 0 h3 h4 h5 ⟨trivial, rfl⟩ rfl (Or.inl rfl) (Or.inl rfl) (Nat.lt_succ_self _) _ _ (hP.sub [0, 1, 2, 3, 4, 5, 6, 7, 8, 9, 10] rfl) (hD.sub [0, 1, 2, 3, 4, 5, 6, 7, 8, 9, 10] (by decide) rfl) hS _ (lv_sub hl [0, 1, 2, 3, 4] rfl)
end
section
def rm_c_columns : Room := { frames := 0, cells := 0, slots := 0, locals := 0 }
set_option maxHeartbeats 4000000 in
set_option maxRecDepth 100000 in
theorem c_columns (l : Launch) (D : va_G) (cA cB cS : ClassId) (wr : Nat) (cs : Nat) (rs : Nat) (ag : Nat) (oo : Nat) (cp : Nat) (aw : Nat) (pl : Nat) : Met l yW_columns wW_columns rm_c_columns (pR [.ref wr] D vwCl (vwTy cA cB cS) vwNw [(wr, .inr (0, [.int (iI (cs : Int)), .int (iI (rs : Int)), .ref ag, .ref oo, .ref cp, .ref aw, .ref pl]))]) (qI (fun z => z = (cs : Int))) 0 0 (fun _ => False) := by
  refine Met.ofW (cc := bW_columns) (maxL := 1) (ret := (some .int)) (by decide +kernel) rfl ?_
  intro p e s m args below meth c s₁ B hml hv
  obtain ⟨rfl, hP, hKW⟩ := hv
  have hK := hKW.1
  have hN := hKW.2.2
  have hx := B.exec
  have hb := B.bytes
  have hr := B.returns
  have hts := atoms_spec (ws := wW_columns) B.pre
  have hown : s.vm.findClass "WindingRaster" = some m.cls := findClass_of_methodNamed B.named
  have hlocks := B.notSynchronized
  have hP : va_P D vwCl [(wr, .inr (0, [.int (iI (cs : Int)), .int (iI (rs : Int)), .ref ag, .ref oo, .ref cp, .ref aw, .ref pl]))] s.heap := hP
  have in_0 : ∀ w ∈ wsW, w ∈ wW_columns := fun w h => List.mem_cons_of_mem _ (in0_W w h)
  have fl_18 := (hts _ (List.mem_cons_of_mem _ vm_69))
  have hl := lv_entry ([.ref wr]) (n := 1) (Nat.le_of_ble_eq_true rfl)
  rw [lg_entry_eq]
  generalize (lg_sl ([.ref wr]) ++ List.replicate (1 - (lg_sl ([.ref wr])).length) Slot.unset).toArray = ls at hl ⊢
  have hl : lv_has ls 1 [(0, .ref wr)] := hl
  generalize hQ : MQ below (qI (fun z => z = (cs : Int))) [.ref wr].toArray s 0 0 (fun _ => False) = QQ
  refine lv_aload_n hx hb dW_columns_0 rfl (lv_at hl 0 rfl) ?_
  refine va_get (ci := 0) (v := .int (iI (cs : Int))) (C := "WindingRaster") (T := TW) (N := 7) hx hb hts in_0 hown hK hP 0 rfl rfl 0 (by decide) fl_18 (fun _ h9 => h9) rfl dW_columns_1 ?_
  rw [← hQ]
  exact rd_iret hx hb hr hlocks rfl dW_columns_4

def rm_c_rows : Room := { frames := 0, cells := 0, slots := 0, locals := 0 }
set_option maxHeartbeats 4000000 in
set_option maxRecDepth 100000 in
theorem c_rows (l : Launch) (D : va_G) (cA cB cS : ClassId) (wr : Nat) (cs : Nat) (rs : Nat) (ag : Nat) (oo : Nat) (cp : Nat) (aw : Nat) (pl : Nat) : Met l yW_rows wW_rows rm_c_rows (pR [.ref wr] D vwCl (vwTy cA cB cS) vwNw [(wr, .inr (0, [.int (iI (cs : Int)), .int (iI (rs : Int)), .ref ag, .ref oo, .ref cp, .ref aw, .ref pl]))]) (qI (fun z => z = (rs : Int))) 0 0 (fun _ => False) := by
  refine Met.ofW (cc := bW_rows) (maxL := 1) (ret := (some .int)) (by decide +kernel) rfl ?_
  intro p e s m args below meth c s₁ B hml hv
  obtain ⟨rfl, hP, hKW⟩ := hv
  have hK := hKW.1
  have hN := hKW.2.2
  have hx := B.exec
  have hb := B.bytes
  have hr := B.returns
  have hts := atoms_spec (ws := wW_rows) B.pre
  have hown : s.vm.findClass "WindingRaster" = some m.cls := findClass_of_methodNamed B.named
  have hlocks := B.notSynchronized
  have hP : va_P D vwCl [(wr, .inr (0, [.int (iI (cs : Int)), .int (iI (rs : Int)), .ref ag, .ref oo, .ref cp, .ref aw, .ref pl]))] s.heap := hP
  have in_0 : ∀ w ∈ wsW, w ∈ wW_rows := fun w h => List.mem_cons_of_mem _ (in0_W w h)
  have fl_22 := (hts _ (List.mem_cons_of_mem _ vm_70))
  have hl := lv_entry ([.ref wr]) (n := 1) (Nat.le_of_ble_eq_true rfl)
  rw [lg_entry_eq]
  generalize (lg_sl ([.ref wr]) ++ List.replicate (1 - (lg_sl ([.ref wr])).length) Slot.unset).toArray = ls at hl ⊢
  have hl : lv_has ls 1 [(0, .ref wr)] := hl
  generalize hQ : MQ below (qI (fun z => z = (rs : Int))) [.ref wr].toArray s 0 0 (fun _ => False) = QQ
  refine lv_aload_n hx hb dW_rows_0 rfl (lv_at hl 0 rfl) ?_
  refine va_get (ci := 0) (v := .int (iI (rs : Int))) (C := "WindingRaster") (T := TW) (N := 7) hx hb hts in_0 hown hK hP 0 rfl rfl 1 (by decide) fl_22 (fun _ h9 => h9) rfl dW_rows_1 ?_
  rw [← hQ]
  exact rd_iret hx hb hr hlocks rfl dW_rows_4

def rm_c_move : Room := { frames := 3, cells := 0, slots := 0, locals := 64 }
set_option maxHeartbeats 4000000 in
set_option maxRecDepth 100000 in
theorem c_move (l : Launch) (D : va_G) (cA cB cS : ClassId) (wr : Nat) (cs : Nat) (rs : Nat) (ag : Nat) (oo : Nat) (cp : Nat) (aw : Nat) (pl : Nat) (ax : Nat) (ay : Nat) (an : Nat) (fX : Nat → Int) (fY : Nat → Int) (fN : Nat → Int) (np : Nat) (l0 : Nat) (a1 : Int) (a2 : Int) (h1 : i32 a1) (h2 : i32 a2) (h3 : np ≤ 4096) (sz : Nat) : Met l yW_move wW_move rm_c_move (pW [.ref wr, .int (iI a1), .int (iI a2)] D vwCl (vwTy cA cB cS) vwNw [(wr, .inr (0, [.int (iI (cs : Int)), .int (iI (rs : Int)), .ref ag, .ref oo, .ref cp, .ref aw, .ref pl])), (oo, .inr (1, [.ref ax, .ref ay, .ref an, .int (iI (np : Int)), .int (iI (l0 : Int))])), (ax, .inl (cA, 4096, .inl (iA fX))), (ay, .inl (cA, 4096, .inl (iA fY))), (an, .inl (cA, 4096, .inl (iA fN)))] sz) (qW (S := (Nat → Int) × (Nat → Int) × (Nat → Int) × Nat × Nat) (fun (z : Int) (u : (Nat → Int) × (Nat → Int) × (Nat → Int) × Nat × Nat) => (z = -1 ∧ ¬ (-536870912 ≤ a1 ∧ a1 ≤ 536870912 ∧ -536870912 ≤ a2 ∧ a2 ≤ 536870912) ∧ u.1 = fX ∧ u.2.1 = fY ∧ u.2.2.1 = fN ∧ u.2.2.2.1 = np ∧ u.2.2.2.2 = l0) ∨ (z = -3 ∧ (-536870912 ≤ a1 ∧ a1 ≤ 536870912 ∧ -536870912 ≤ a2 ∧ a2 ≤ 536870912) ∧ 4096 ≤ np ∧ u.1 = fX ∧ u.2.1 = fY ∧ u.2.2.1 = fN ∧ u.2.2.2.1 = np ∧ u.2.2.2.2 = l0) ∨ (z = ((np + 1 : Nat) : Int) ∧ (-536870912 ≤ a1 ∧ a1 ≤ 536870912 ∧ -536870912 ≤ a2 ∧ a2 ≤ 536870912) ∧ np < 4096 ∧ u.1 = uZ fX np a1 ∧ u.2.1 = uZ fY np a2 ∧ u.2.2.1 = uZ fN np (np : Int) ∧ u.2.2.2.1 = np + 1 ∧ u.2.2.2.2 = np)) D vwCl [(wr, .inr (0, [.int (iI (cs : Int)), .int (iI (rs : Int)), .ref ag, .ref oo, .ref cp, .ref aw, .ref pl])), (oo, .inr (1, [.ref ax, .ref ay, .ref an, .int (iI (np : Int)), .int (iI (l0 : Int))])), (ax, .inl (cA, 4096, .inl (iA fX))), (ay, .inl (cA, 4096, .inl (iA fY))), (an, .inl (cA, 4096, .inl (iA fN)))] sz (fun u : (Nat → Int) × (Nat → Int) × (Nat → Int) × Nat × Nat => [(wr, .inr (0, [.int (iI (cs : Int)), .int (iI (rs : Int)), .ref ag, .ref oo, .ref cp, .ref aw, .ref pl])), (oo, .inr (1, [.ref ax, .ref ay, .ref an, .int (iI ((u.2.2.2.1 : Nat) : Int)), .int (iI ((u.2.2.2.2 : Nat) : Int))])), (ax, .inl (cA, 4096, .inl (iA u.1))), (ay, .inl (cA, 4096, .inl (iA u.2.1))), (an, .inl (cA, 4096, .inl (iA u.2.2.1)))])) 0 0 (va_A [(wr, .inr (0, [.int (iI (cs : Int)), .int (iI (rs : Int)), .ref ag, .ref oo, .ref cp, .ref aw, .ref pl])), (oo, .inr (1, [.ref ax, .ref ay, .ref an, .int (iI (np : Int)), .int (iI (l0 : Int))])), (ax, .inl (cA, 4096, .inl (iA fX))), (ay, .inl (cA, 4096, .inl (iA fY))), (an, .inl (cA, 4096, .inl (iA fN)))] sz) := by
  refine Met.ofW (cc := bW_move) (maxL := 3) (ret := (some .int)) (by decide +kernel) rfl ?_
  intro p e s m args below meth c s₁ B hml hv
  obtain ⟨rfl, hsz, hP, hKW, hD0⟩ := hv
  have hK := hKW.1
  have hN := hKW.2.2
  have hx := B.exec
  have hb := B.bytes
  have hr := B.returns
  have hts := atoms_spec (ws := wW_move) B.pre
  have hown : s.vm.findClass "WindingRaster" = some m.cls := findClass_of_methodNamed B.named
  have hlocks := B.notSynchronized
  subst hsz
  have hD := hD0.self (sz := s.heap.size)
  obtain ⟨A, hAe⟩ : ∃ A, va_A [(wr, .inr (0, [.int (iI (cs : Int)), .int (iI (rs : Int)), .ref ag, .ref oo, .ref cp, .ref aw, .ref pl])), (oo, .inr (1, [.ref ax, .ref ay, .ref an, .int (iI (np : Int)), .int (iI (l0 : Int))])), (ax, .inl (cA, 4096, .inl (iA fX))), (ay, .inl (cA, 4096, .inl (iA fY))), (an, .inl (cA, 4096, .inl (iA fN)))] s.heap.size = A := ⟨_, rfl⟩
  rw [hAe] at hD
  have hA : ∀ q : Nat, s.heap.size ≤ q → A q := fun q h => by rw [← hAe]; exact Or.inr h
  have hS : va_S A s.heap s.heap [] := va_S.rf
  have hP : va_P D vwCl [(wr, .inr (0, [.int (iI (cs : Int)), .int (iI (rs : Int)), .ref ag, .ref oo, .ref cp, .ref aw, .ref pl])), (oo, .inr (1, [.ref ax, .ref ay, .ref an, .int (iI (np : Int)), .int (iI (l0 : Int))])), (ax, .inl (cA, 4096, .inl (iA fX))), (ay, .inl (cA, 4096, .inl (iA fY))), (an, .inl (cA, 4096, .inl (iA fN)))] s.heap := hP
  have in_0 : ∀ w ∈ wsW, w ∈ wW_move := fun w h => List.mem_cons_of_mem _ (in0_W w h)
  have fl_38 := (hts _ (List.mem_cons_of_mem _ vm_72))
  have in_1 : ∀ w ∈ wsO, w ∈ wW_move := fun w h => List.mem_cons_of_mem _ (in0_O w h)
  have fl_74 := va_Nw.use (A := [.ref wr, .int (iI a1), .int (iI a2)].toArray) rfl (hN _ vn_1)
  have hl := lv_entry ([.ref wr, .int (iI a1), .int (iI a2)]) (n := 3) (Nat.le_of_ble_eq_true rfl)
  rw [lg_entry_eq]
  generalize (lg_sl ([.ref wr, .int (iI a1), .int (iI a2)]) ++ List.replicate (3 - (lg_sl ([.ref wr, .int (iI a1), .int (iI a2)])).length) Slot.unset).toArray = ls at hl ⊢
  have hl : lv_has ls 3 [(0, .ref wr), (1, .int (iI a1)), (2, .int (iI a2))] := hl
  generalize hQ : MQ below (qW (S := (Nat → Int) × (Nat → Int) × (Nat → Int) × Nat × Nat) (fun (z : Int) (u : (Nat → Int) × (Nat → Int) × (Nat → Int) × Nat × Nat) => (z = -1 ∧ ¬ (-536870912 ≤ a1 ∧ a1 ≤ 536870912 ∧ -536870912 ≤ a2 ∧ a2 ≤ 536870912) ∧ u.1 = fX ∧ u.2.1 = fY ∧ u.2.2.1 = fN ∧ u.2.2.2.1 = np ∧ u.2.2.2.2 = l0) ∨ (z = -3 ∧ (-536870912 ≤ a1 ∧ a1 ≤ 536870912 ∧ -536870912 ≤ a2 ∧ a2 ≤ 536870912) ∧ 4096 ≤ np ∧ u.1 = fX ∧ u.2.1 = fY ∧ u.2.2.1 = fN ∧ u.2.2.2.1 = np ∧ u.2.2.2.2 = l0) ∨ (z = ((np + 1 : Nat) : Int) ∧ (-536870912 ≤ a1 ∧ a1 ≤ 536870912 ∧ -536870912 ≤ a2 ∧ a2 ≤ 536870912) ∧ np < 4096 ∧ u.1 = uZ fX np a1 ∧ u.2.1 = uZ fY np a2 ∧ u.2.2.1 = uZ fN np (np : Int) ∧ u.2.2.2.1 = np + 1 ∧ u.2.2.2.2 = np)) D vwCl [(wr, .inr (0, [.int (iI (cs : Int)), .int (iI (rs : Int)), .ref ag, .ref oo, .ref cp, .ref aw, .ref pl])), (oo, .inr (1, [.ref ax, .ref ay, .ref an, .int (iI (np : Int)), .int (iI (l0 : Int))])), (ax, .inl (cA, 4096, .inl (iA fX))), (ay, .inl (cA, 4096, .inl (iA fY))), (an, .inl (cA, 4096, .inl (iA fN)))] s.heap.size (fun u : (Nat → Int) × (Nat → Int) × (Nat → Int) × Nat × Nat => [(wr, .inr (0, [.int (iI (cs : Int)), .int (iI (rs : Int)), .ref ag, .ref oo, .ref cp, .ref aw, .ref pl])), (oo, .inr (1, [.ref ax, .ref ay, .ref an, .int (iI ((u.2.2.2.1 : Nat) : Int)), .int (iI ((u.2.2.2.2 : Nat) : Int))])), (ax, .inl (cA, 4096, .inl (iA u.1))), (ay, .inl (cA, 4096, .inl (iA u.2.1))), (an, .inl (cA, 4096, .inl (iA u.2.2.1)))])) [.ref wr, .int (iI a1), .int (iI a2)].toArray s 0 0 (va_A [(wr, .inr (0, [.int (iI (cs : Int)), .int (iI (rs : Int)), .ref ag, .ref oo, .ref cp, .ref aw, .ref pl])), (oo, .inr (1, [.ref ax, .ref ay, .ref an, .int (iI (np : Int)), .int (iI (l0 : Int))])), (ax, .inl (cA, 4096, .inl (iA fX))), (ay, .inl (cA, 4096, .inl (iA fY))), (an, .inl (cA, 4096, .inl (iA fN)))] s.heap.size) = QQ
  refine lv_iload_n hx hb dW_move_0 rfl (lv_at hl 1 rfl) ?_
  refine cs_i (va_runS (As := [.int (iI a1)]) (rest := []) ⟨hx, hb, hml, hown, hts⟩ (c_isPlace l D cA cB cS a1 (by omega)) ⟨(callB_of 1 hts (gIn vm_97) rfl rfl rfl (hts _ (List.mem_cons_of_mem _ vm_1)) (hts _ (List.mem_cons_of_mem _ vm_95)) (by decide +kernel) ⟨Nat.le_of_ble_eq_true rfl, Nat.le_of_ble_eq_true rfl⟩), (hts _ (List.mem_cons_of_mem _ vm_96))⟩ (pR.pre (hP.sub [] rfl) hKW) rfl rfl hl.1 rfl (lv_room (Nat.le_of_ble_eq_true rfl)) dW_move_1 ⟨Nat.le_of_ble_eq_true rfl, Nat.le_of_ble_eq_true rfl⟩) (fun z_1 hz_1 => ?_)
  refine ii_if_eq (tgt := 14) hx hb dW_move_4 (by decide) (by omega) (fun c4 => ?_) (fun c4 => ?_)
  · refine ii_iconst (n := (-1)) hx hb dW_move_14 ?_
    rw [← hQ]
    exact wr_iret (fX, fY, fN, np, l0) hx hb hr hlocks hAe (hP.sub [0, 1, 2, 3, 4] rfl) (hD.sub [0, 1, 2, 3, 4] (by decide) rfl) hS (Or.inl ⟨rfl, by omega, rfl, rfl, rfl, rfl, rfl⟩) dW_move_15
  · refine lv_iload_n hx hb dW_move_7 rfl (lv_at hl 2 rfl) ?_
    refine cs_i (va_runS (As := [.int (iI a2)]) (rest := []) ⟨hx, hb, hml, hown, hts⟩ (c_isPlace l D cA cB cS a2 (by omega)) ⟨(callB_of 1 hts (gIn vm_97) rfl rfl rfl (hts _ (List.mem_cons_of_mem _ vm_1)) (hts _ (List.mem_cons_of_mem _ vm_95)) (by decide +kernel) ⟨Nat.le_of_ble_eq_true rfl, Nat.le_of_ble_eq_true rfl⟩), (hts _ (List.mem_cons_of_mem _ vm_96))⟩ (pR.pre (hP.sub [] rfl) hKW) rfl rfl hl.1 rfl (lv_room (Nat.le_of_ble_eq_true rfl)) dW_move_8 ⟨Nat.le_of_ble_eq_true rfl, Nat.le_of_ble_eq_true rfl⟩) (fun z_2 hz_2 => ?_)
    refine ii_if_ne (tgt := 16) hx hb dW_move_11 (by decide) (by omega) (fun c11 => ?_) (fun c11 => ?_)
    · refine lv_aload_n hx hb dW_move_16 rfl (lv_at hl 0 rfl) ?_
      refine va_get (ci := 0) (v := .ref oo) (C := "WindingRaster") (T := TW) (N := 7) hx hb hts in_0 hown hK hP 0 rfl rfl 3 (by decide) fl_38 (fun _ h9 => h9) rfl dW_move_17 ?_
      refine cs_i (va_runVN (As := []) (rest := []) ⟨hx, hb, hml, hown, hts⟩ (c_isFull l D cA cB cS oo ax ay an fX fY fN np l0 (by omega)) ⟨(va_cnB 0 hts (gIn vm_101) rfl rfl rfl (hN _ vn_12) (hts _ (List.mem_cons_of_mem _ vm_4)) (by decide +kernel) ⟨Nat.le_of_ble_eq_true rfl, Nat.le_of_ble_eq_true rfl⟩), (hts _ (List.mem_cons_of_mem _ vm_100)), (hts _ (List.mem_cons_of_mem _ vm_384))⟩ (pR.preV (va_recv hK hP (ci := 1) (q0 := 1) rfl rfl) (hP.sub [1, 2, 3, 4] rfl) hKW) rfl rfl hl.1 rfl (lv_room (Nat.le_of_ble_eq_true rfl)) dW_move_20 ⟨Nat.le_of_ble_eq_true rfl, Nat.le_of_ble_eq_true rfl⟩) (fun z_3 hz_3 => ?_)
      refine ii_if_eq (tgt := 29) hx hb dW_move_23 (by decide) (by omega) (fun c23 => ?_) (fun c23 => ?_)
      · refine lv_aload_n hx hb dW_move_29 rfl (lv_at hl 0 rfl) ?_
        refine va_get (ci := 0) (v := .ref oo) (C := "WindingRaster") (T := TW) (N := 7) hx hb hts in_0 hown hK hP 0 rfl rfl 3 (by decide) fl_38 (fun _ h9 => h9) rfl dW_move_30 ?_
        refine lv_iload_n hx hb dW_move_33 rfl (lv_at hl 1 rfl) ?_
        refine lv_iload_n hx hb dW_move_34 rfl (lv_at hl 2 rfl) ?_
        refine cw_v (wc := [(oo, .inr (1, [.ref ax, .ref ay, .ref an, .int (iI (np : Int)), .int (iI (l0 : Int))])), (ax, .inl (cA, 4096, .inl (iA fX))), (ay, .inl (cA, 4096, .inl (iA fY))), (an, .inl (cA, 4096, .inl (iA fN)))]) (wr := [(wr, .inr (0, [.int (iI (cs : Int)), .int (iI (rs : Int)), .ref ag, .ref oo, .ref cp, .ref aw, .ref pl]))]) hP hD hS hA [1, 2, 3, 4] [0] rfl rfl (by decide) (by decide) (va_runVN (As := [.int (iI a1), .int (iI a2)]) (rest := []) ⟨hx, hb, hml, hown, hts⟩ (c_begin l D cA cB cS oo ax ay an fX fY fN np l0 a1 a2 (by omega) _) ⟨(va_cnB 2 hts (gIn vm_103) rfl rfl rfl (hN _ vn_13) (hts _ (List.mem_cons_of_mem _ vm_4)) (by decide +kernel) ⟨Nat.le_of_ble_eq_true rfl, Nat.le_of_ble_eq_true rfl⟩), (hts _ (List.mem_cons_of_mem _ vm_102)), (hts _ (List.mem_cons_of_mem _ vm_385))⟩ (pW.preV (va_recv hK hP (ci := 1) (q0 := 1) rfl rfl) (hP.sub [1, 2, 3, 4] rfl) (hD.sub [1, 2, 3, 4] (by decide) rfl) hKW) rfl rfl hl.1 rfl (lv_room (Nat.le_of_ble_eq_true rfl)) dW_move_35 ⟨Nat.le_of_ble_eq_true rfl, Nat.le_of_ble_eq_true rfl⟩) (fun u_5 H locs hz_4 hP hD hS => ?_)
        have hP : va_P D vwCl [(wr, .inr (0, [.int (iI (cs : Int)), .int (iI (rs : Int)), .ref ag, .ref oo, .ref cp, .ref aw, .ref pl])), (oo, .inr (1, [.ref ax, .ref ay, .ref an, .int (iI ((np + 1 : Nat) : Int)), .int (iI (np : Int))])), (ax, .inl (cA, 4096, .inl (iA (uZ fX np a1)))), (ay, .inl (cA, 4096, .inl (iA (uZ fY np a2)))), (an, .inl (cA, 4096, .inl (iA (uZ fN np (np : Int)))))] H := hP
        have hD : va_D A [(wr, .inr (0, [.int (iI (cs : Int)), .int (iI (rs : Int)), .ref ag, .ref oo, .ref cp, .ref aw, .ref pl])), (oo, .inr (1, [.ref ax, .ref ay, .ref an, .int (iI ((np + 1 : Nat) : Int)), .int (iI (np : Int))])), (ax, .inl (cA, 4096, .inl (iA (uZ fX np a1)))), (ay, .inl (cA, 4096, .inl (iA (uZ fY np a2)))), (an, .inl (cA, 4096, .inl (iA (uZ fN np (np : Int)))))] := hD
        refine lv_aload_n hx hb dW_move_38 rfl (lv_at hl 0 rfl) ?_
        refine va_get (ci := 0) (v := .ref oo) (C := "WindingRaster") (T := TW) (N := 7) hx hb hts in_0 hown hK hP 0 rfl rfl 3 (by decide) fl_38 (fun _ h9 => h9) rfl dW_move_39 ?_
        refine va_getN (ci := 1) (v := .int (iI ((np + 1 : Nat) : Int))) (C := "WindingRaster$Outline") (T := TO) (N := 5) hx hb hts in_1 hown hK hP 1 rfl rfl 3 (by decide) fl_74 (fun _ h9 => h9) rfl dW_move_42 ?_
        rw [← hQ]
        exact wr_iret (uZ fX np a1, uZ fY np a2, uZ fN np (np : Int), np + 1, np) hx hb hr hlocks hAe (hP.sub [0, 1, 2, 3, 4] rfl) (hD.sub [0, 1, 2, 3, 4] (by decide) rfl) hS (Or.inr (Or.inr ⟨rfl, by omega, by omega, rfl, rfl, rfl, rfl, rfl⟩)) dW_move_45
      · refine ii_bipush (n := (-3)) hx hb dW_move_26 (by decide +kernel) ?_
        rw [← hQ]
        exact wr_iret (fX, fY, fN, np, l0) hx hb hr hlocks hAe (hP.sub [0, 1, 2, 3, 4] rfl) (hD.sub [0, 1, 2, 3, 4] (by decide) rfl) hS (Or.inr (Or.inl ⟨rfl, by omega, by omega, rfl, rfl, rfl, rfl, rfl⟩)) dW_move_28
    · refine ii_iconst (n := (-1)) hx hb dW_move_14 ?_
      rw [← hQ]
      exact wr_iret (fX, fY, fN, np, l0) hx hb hr hlocks hAe (hP.sub [0, 1, 2, 3, 4] rfl) (hD.sub [0, 1, 2, 3, 4] (by decide) rfl) hS (Or.inl ⟨rfl, by omega, rfl, rfl, rfl, rfl, rfl⟩) dW_move_15

def rm_c_line : Room := { frames := 3, cells := 0, slots := 0, locals := 64 }
set_option maxHeartbeats 4000000 in
set_option maxRecDepth 100000 in
theorem c_line (l : Launch) (D : va_G) (cA cB cS : ClassId) (wr : Nat) (cs : Nat) (rs : Nat) (ag : Nat) (oo : Nat) (cp : Nat) (aw : Nat) (pl : Nat) (ax : Nat) (ay : Nat) (an : Nat) (fX : Nat → Int) (fY : Nat → Int) (fN : Nat → Int) (np : Nat) (l0 : Nat) (a1 : Int) (a2 : Int) (h1 : i32 a1) (h2 : i32 a2) (h3 : np ≤ 4096) (sz : Nat) : Met l yW_line wW_line rm_c_line (pW [.ref wr, .int (iI a1), .int (iI a2)] D vwCl (vwTy cA cB cS) vwNw [(wr, .inr (0, [.int (iI (cs : Int)), .int (iI (rs : Int)), .ref ag, .ref oo, .ref cp, .ref aw, .ref pl])), (oo, .inr (1, [.ref ax, .ref ay, .ref an, .int (iI (np : Int)), .int (iI (l0 : Int))])), (ax, .inl (cA, 4096, .inl (iA fX))), (ay, .inl (cA, 4096, .inl (iA fY))), (an, .inl (cA, 4096, .inl (iA fN)))] sz) (qW (S := (Nat → Int) × (Nat → Int) × (Nat → Int) × Nat × Nat) (fun (z : Int) (u : (Nat → Int) × (Nat → Int) × (Nat → Int) × Nat × Nat) => (z = -1 ∧ ¬ (-536870912 ≤ a1 ∧ a1 ≤ 536870912 ∧ -536870912 ≤ a2 ∧ a2 ≤ 536870912) ∧ u.1 = fX ∧ u.2.1 = fY ∧ u.2.2.1 = fN ∧ u.2.2.2.1 = np ∧ u.2.2.2.2 = l0) ∨ (z = -2 ∧ (-536870912 ≤ a1 ∧ a1 ≤ 536870912 ∧ -536870912 ≤ a2 ∧ a2 ≤ 536870912) ∧ np = 0 ∧ u.1 = fX ∧ u.2.1 = fY ∧ u.2.2.1 = fN ∧ u.2.2.2.1 = np ∧ u.2.2.2.2 = l0) ∨ (z = -3 ∧ (-536870912 ≤ a1 ∧ a1 ≤ 536870912 ∧ -536870912 ≤ a2 ∧ a2 ≤ 536870912) ∧ 4096 ≤ np ∧ u.1 = fX ∧ u.2.1 = fY ∧ u.2.2.1 = fN ∧ u.2.2.2.1 = np ∧ u.2.2.2.2 = l0) ∨ (z = ((np + 1 : Nat) : Int) ∧ (-536870912 ≤ a1 ∧ a1 ≤ 536870912 ∧ -536870912 ≤ a2 ∧ a2 ≤ 536870912) ∧ 0 < np ∧ np < 4096 ∧ u.1 = uZ fX np a1 ∧ u.2.1 = uZ fY np a2 ∧ u.2.2.1 = uZ (uZ fN (np - 1) (np : Int)) np (l0 : Int) ∧ u.2.2.2.1 = np + 1 ∧ u.2.2.2.2 = l0)) D vwCl [(wr, .inr (0, [.int (iI (cs : Int)), .int (iI (rs : Int)), .ref ag, .ref oo, .ref cp, .ref aw, .ref pl])), (oo, .inr (1, [.ref ax, .ref ay, .ref an, .int (iI (np : Int)), .int (iI (l0 : Int))])), (ax, .inl (cA, 4096, .inl (iA fX))), (ay, .inl (cA, 4096, .inl (iA fY))), (an, .inl (cA, 4096, .inl (iA fN)))] sz (fun u : (Nat → Int) × (Nat → Int) × (Nat → Int) × Nat × Nat => [(wr, .inr (0, [.int (iI (cs : Int)), .int (iI (rs : Int)), .ref ag, .ref oo, .ref cp, .ref aw, .ref pl])), (oo, .inr (1, [.ref ax, .ref ay, .ref an, .int (iI ((u.2.2.2.1 : Nat) : Int)), .int (iI ((u.2.2.2.2 : Nat) : Int))])), (ax, .inl (cA, 4096, .inl (iA u.1))), (ay, .inl (cA, 4096, .inl (iA u.2.1))), (an, .inl (cA, 4096, .inl (iA u.2.2.1)))])) 0 0 (va_A [(wr, .inr (0, [.int (iI (cs : Int)), .int (iI (rs : Int)), .ref ag, .ref oo, .ref cp, .ref aw, .ref pl])), (oo, .inr (1, [.ref ax, .ref ay, .ref an, .int (iI (np : Int)), .int (iI (l0 : Int))])), (ax, .inl (cA, 4096, .inl (iA fX))), (ay, .inl (cA, 4096, .inl (iA fY))), (an, .inl (cA, 4096, .inl (iA fN)))] sz) := by
  refine Met.ofW (cc := bW_line) (maxL := 3) (ret := (some .int)) (by decide +kernel) rfl ?_
  intro p e s m args below meth c s₁ B hml hv
  obtain ⟨rfl, hsz, hP, hKW, hD0⟩ := hv
  have hK := hKW.1
  have hN := hKW.2.2
  have hx := B.exec
  have hb := B.bytes
  have hr := B.returns
  have hts := atoms_spec (ws := wW_line) B.pre
  have hown : s.vm.findClass "WindingRaster" = some m.cls := findClass_of_methodNamed B.named
  have hlocks := B.notSynchronized
  subst hsz
  have hD := hD0.self (sz := s.heap.size)
  obtain ⟨A, hAe⟩ : ∃ A, va_A [(wr, .inr (0, [.int (iI (cs : Int)), .int (iI (rs : Int)), .ref ag, .ref oo, .ref cp, .ref aw, .ref pl])), (oo, .inr (1, [.ref ax, .ref ay, .ref an, .int (iI (np : Int)), .int (iI (l0 : Int))])), (ax, .inl (cA, 4096, .inl (iA fX))), (ay, .inl (cA, 4096, .inl (iA fY))), (an, .inl (cA, 4096, .inl (iA fN)))] s.heap.size = A := ⟨_, rfl⟩
  rw [hAe] at hD
  have hA : ∀ q : Nat, s.heap.size ≤ q → A q := fun q h => by rw [← hAe]; exact Or.inr h
  have hS : va_S A s.heap s.heap [] := va_S.rf
  have hP : va_P D vwCl [(wr, .inr (0, [.int (iI (cs : Int)), .int (iI (rs : Int)), .ref ag, .ref oo, .ref cp, .ref aw, .ref pl])), (oo, .inr (1, [.ref ax, .ref ay, .ref an, .int (iI (np : Int)), .int (iI (l0 : Int))])), (ax, .inl (cA, 4096, .inl (iA fX))), (ay, .inl (cA, 4096, .inl (iA fY))), (an, .inl (cA, 4096, .inl (iA fN)))] s.heap := hP
  have in_0 : ∀ w ∈ wsW, w ∈ wW_line := fun w h => List.mem_cons_of_mem _ (in0_W w h)
  have fl_38 := (hts _ (List.mem_cons_of_mem _ vm_72))
  have in_1 : ∀ w ∈ wsO, w ∈ wW_line := fun w h => List.mem_cons_of_mem _ (in0_O w h)
  have fl_74 := va_Nw.use (A := [.ref wr, .int (iI a1), .int (iI a2)].toArray) rfl (hN _ vn_1)
  have hl := lv_entry ([.ref wr, .int (iI a1), .int (iI a2)]) (n := 3) (Nat.le_of_ble_eq_true rfl)
  rw [lg_entry_eq]
  generalize (lg_sl ([.ref wr, .int (iI a1), .int (iI a2)]) ++ List.replicate (3 - (lg_sl ([.ref wr, .int (iI a1), .int (iI a2)])).length) Slot.unset).toArray = ls at hl ⊢
  have hl : lv_has ls 3 [(0, .ref wr), (1, .int (iI a1)), (2, .int (iI a2))] := hl
  generalize hQ : MQ below (qW (S := (Nat → Int) × (Nat → Int) × (Nat → Int) × Nat × Nat) (fun (z : Int) (u : (Nat → Int) × (Nat → Int) × (Nat → Int) × Nat × Nat) => (z = -1 ∧ ¬ (-536870912 ≤ a1 ∧ a1 ≤ 536870912 ∧ -536870912 ≤ a2 ∧ a2 ≤ 536870912) ∧ u.1 = fX ∧ u.2.1 = fY ∧ u.2.2.1 = fN ∧ u.2.2.2.1 = np ∧ u.2.2.2.2 = l0) ∨ (z = -2 ∧ (-536870912 ≤ a1 ∧ a1 ≤ 536870912 ∧ -536870912 ≤ a2 ∧ a2 ≤ 536870912) ∧ np = 0 ∧ u.1 = fX ∧ u.2.1 = fY ∧ u.2.2.1 = fN ∧ u.2.2.2.1 = np ∧ u.2.2.2.2 = l0) ∨ (z = -3 ∧ (-536870912 ≤ a1 ∧ a1 ≤ 536870912 ∧ -536870912 ≤ a2 ∧ a2 ≤ 536870912) ∧ 4096 ≤ np ∧ u.1 = fX ∧ u.2.1 = fY ∧ u.2.2.1 = fN ∧ u.2.2.2.1 = np ∧ u.2.2.2.2 = l0) ∨ (z = ((np + 1 : Nat) : Int) ∧ (-536870912 ≤ a1 ∧ a1 ≤ 536870912 ∧ -536870912 ≤ a2 ∧ a2 ≤ 536870912) ∧ 0 < np ∧ np < 4096 ∧ u.1 = uZ fX np a1 ∧ u.2.1 = uZ fY np a2 ∧ u.2.2.1 = uZ (uZ fN (np - 1) (np : Int)) np (l0 : Int) ∧ u.2.2.2.1 = np + 1 ∧ u.2.2.2.2 = l0)) D vwCl [(wr, .inr (0, [.int (iI (cs : Int)), .int (iI (rs : Int)), .ref ag, .ref oo, .ref cp, .ref aw, .ref pl])), (oo, .inr (1, [.ref ax, .ref ay, .ref an, .int (iI (np : Int)), .int (iI (l0 : Int))])), (ax, .inl (cA, 4096, .inl (iA fX))), (ay, .inl (cA, 4096, .inl (iA fY))), (an, .inl (cA, 4096, .inl (iA fN)))] s.heap.size (fun u : (Nat → Int) × (Nat → Int) × (Nat → Int) × Nat × Nat => [(wr, .inr (0, [.int (iI (cs : Int)), .int (iI (rs : Int)), .ref ag, .ref oo, .ref cp, .ref aw, .ref pl])), (oo, .inr (1, [.ref ax, .ref ay, .ref an, .int (iI ((u.2.2.2.1 : Nat) : Int)), .int (iI ((u.2.2.2.2 : Nat) : Int))])), (ax, .inl (cA, 4096, .inl (iA u.1))), (ay, .inl (cA, 4096, .inl (iA u.2.1))), (an, .inl (cA, 4096, .inl (iA u.2.2.1)))])) [.ref wr, .int (iI a1), .int (iI a2)].toArray s 0 0 (va_A [(wr, .inr (0, [.int (iI (cs : Int)), .int (iI (rs : Int)), .ref ag, .ref oo, .ref cp, .ref aw, .ref pl])), (oo, .inr (1, [.ref ax, .ref ay, .ref an, .int (iI (np : Int)), .int (iI (l0 : Int))])), (ax, .inl (cA, 4096, .inl (iA fX))), (ay, .inl (cA, 4096, .inl (iA fY))), (an, .inl (cA, 4096, .inl (iA fN)))] s.heap.size) = QQ
  refine lv_iload_n hx hb dW_line_0 rfl (lv_at hl 1 rfl) ?_
  refine cs_i (va_runS (As := [.int (iI a1)]) (rest := []) ⟨hx, hb, hml, hown, hts⟩ (c_isPlace l D cA cB cS a1 (by omega)) ⟨(callB_of 1 hts (gIn vm_97) rfl rfl rfl (hts _ (List.mem_cons_of_mem _ vm_1)) (hts _ (List.mem_cons_of_mem _ vm_95)) (by decide +kernel) ⟨Nat.le_of_ble_eq_true rfl, Nat.le_of_ble_eq_true rfl⟩), (hts _ (List.mem_cons_of_mem _ vm_96))⟩ (pR.pre (hP.sub [] rfl) hKW) rfl rfl hl.1 rfl (lv_room (Nat.le_of_ble_eq_true rfl)) dW_line_1 ⟨Nat.le_of_ble_eq_true rfl, Nat.le_of_ble_eq_true rfl⟩) (fun z_1 hz_1 => ?_)
  refine ii_if_eq (tgt := 14) hx hb dW_line_4 (by decide) (by omega) (fun c4 => ?_) (fun c4 => ?_)
  · refine ii_iconst (n := (-1)) hx hb dW_line_14 ?_
    rw [← hQ]
    exact wr_iret (fX, fY, fN, np, l0) hx hb hr hlocks hAe (hP.sub [0, 1, 2, 3, 4] rfl) (hD.sub [0, 1, 2, 3, 4] (by decide) rfl) hS (Or.inl ⟨rfl, by omega, rfl, rfl, rfl, rfl, rfl⟩) dW_line_15
  · refine lv_iload_n hx hb dW_line_7 rfl (lv_at hl 2 rfl) ?_
    refine cs_i (va_runS (As := [.int (iI a2)]) (rest := []) ⟨hx, hb, hml, hown, hts⟩ (c_isPlace l D cA cB cS a2 (by omega)) ⟨(callB_of 1 hts (gIn vm_97) rfl rfl rfl (hts _ (List.mem_cons_of_mem _ vm_1)) (hts _ (List.mem_cons_of_mem _ vm_95)) (by decide +kernel) ⟨Nat.le_of_ble_eq_true rfl, Nat.le_of_ble_eq_true rfl⟩), (hts _ (List.mem_cons_of_mem _ vm_96))⟩ (pR.pre (hP.sub [] rfl) hKW) rfl rfl hl.1 rfl (lv_room (Nat.le_of_ble_eq_true rfl)) dW_line_8 ⟨Nat.le_of_ble_eq_true rfl, Nat.le_of_ble_eq_true rfl⟩) (fun z_2 hz_2 => ?_)
    refine ii_if_ne (tgt := 16) hx hb dW_line_11 (by decide) (by omega) (fun c11 => ?_) (fun c11 => ?_)
    · refine lv_aload_n hx hb dW_line_16 rfl (lv_at hl 0 rfl) ?_
      refine va_get (ci := 0) (v := .ref oo) (C := "WindingRaster") (T := TW) (N := 7) hx hb hts in_0 hown hK hP 0 rfl rfl 3 (by decide) fl_38 (fun _ h9 => h9) rfl dW_line_17 ?_
      refine cs_i (va_runVN (As := []) (rest := []) ⟨hx, hb, hml, hown, hts⟩ (c_hasLine l D cA cB cS oo ax ay an fX fY fN np l0 (by omega)) ⟨(va_cnB 0 hts (gIn vm_113) rfl rfl rfl (hN _ vn_14) (hts _ (List.mem_cons_of_mem _ vm_4)) (by decide +kernel) ⟨Nat.le_of_ble_eq_true rfl, Nat.le_of_ble_eq_true rfl⟩), (hts _ (List.mem_cons_of_mem _ vm_112)), (hts _ (List.mem_cons_of_mem _ vm_387))⟩ (pR.preV (va_recv hK hP (ci := 1) (q0 := 1) rfl rfl) (hP.sub [1, 2, 3, 4] rfl) hKW) rfl rfl hl.1 rfl (lv_room (Nat.le_of_ble_eq_true rfl)) dW_line_20 ⟨Nat.le_of_ble_eq_true rfl, Nat.le_of_ble_eq_true rfl⟩) (fun z_3 hz_3 => ?_)
      refine ii_if_ne (tgt := 29) hx hb dW_line_23 (by decide) (by omega) (fun c23 => ?_) (fun c23 => ?_)
      · refine lv_aload_n hx hb dW_line_29 rfl (lv_at hl 0 rfl) ?_
        refine va_get (ci := 0) (v := .ref oo) (C := "WindingRaster") (T := TW) (N := 7) hx hb hts in_0 hown hK hP 0 rfl rfl 3 (by decide) fl_38 (fun _ h9 => h9) rfl dW_line_30 ?_
        refine cs_i (va_runVN (As := []) (rest := []) ⟨hx, hb, hml, hown, hts⟩ (c_isFull l D cA cB cS oo ax ay an fX fY fN np l0 (by omega)) ⟨(va_cnB 0 hts (gIn vm_101) rfl rfl rfl (hN _ vn_12) (hts _ (List.mem_cons_of_mem _ vm_4)) (by decide +kernel) ⟨Nat.le_of_ble_eq_true rfl, Nat.le_of_ble_eq_true rfl⟩), (hts _ (List.mem_cons_of_mem _ vm_100)), (hts _ (List.mem_cons_of_mem _ vm_384))⟩ (pR.preV (va_recv hK hP (ci := 1) (q0 := 1) rfl rfl) (hP.sub [1, 2, 3, 4] rfl) hKW) rfl rfl hl.1 rfl (lv_room (Nat.le_of_ble_eq_true rfl)) dW_line_33 ⟨Nat.le_of_ble_eq_true rfl, Nat.le_of_ble_eq_true rfl⟩) (fun z_4 hz_4 => ?_)
        refine ii_if_eq (tgt := 42) hx hb dW_line_36 (by decide) (by omega) (fun c36 => ?_) (fun c36 => ?_)
        · refine lv_aload_n hx hb dW_line_42 rfl (lv_at hl 0 rfl) ?_
          refine va_get (ci := 0) (v := .ref oo) (C := "WindingRaster") (T := TW) (N := 7) hx hb hts in_0 hown hK hP 0 rfl rfl 3 (by decide) fl_38 (fun _ h9 => h9) rfl dW_line_43 ?_
          refine lv_iload_n hx hb dW_line_46 rfl (lv_at hl 1 rfl) ?_
          refine lv_iload_n hx hb dW_line_47 rfl (lv_at hl 2 rfl) ?_
          refine cw_v (wc := [(oo, .inr (1, [.ref ax, .ref ay, .ref an, .int (iI (np : Int)), .int (iI (l0 : Int))])), (ax, .inl (cA, 4096, .inl (iA fX))), (ay, .inl (cA, 4096, .inl (iA fY))), (an, .inl (cA, 4096, .inl (iA fN)))]) (wr := [(wr, .inr (0, [.int (iI (cs : Int)), .int (iI (rs : Int)), .ref ag, .ref oo, .ref cp, .ref aw, .ref pl]))]) hP hD hS hA [1, 2, 3, 4] [0] rfl rfl (by decide) (by decide) (va_runVN (As := [.int (iI a1), .int (iI a2)]) (rest := []) ⟨hx, hb, hml, hown, hts⟩ (c_goOn l D cA cB cS oo ax ay an fX fY fN np l0 a1 a2 (by omega) (by omega) _) ⟨(va_cnB 2 hts (gIn vm_115) rfl rfl rfl (hN _ vn_15) (hts _ (List.mem_cons_of_mem _ vm_4)) (by decide +kernel) ⟨Nat.le_of_ble_eq_true rfl, Nat.le_of_ble_eq_true rfl⟩), (hts _ (List.mem_cons_of_mem _ vm_114)), (hts _ (List.mem_cons_of_mem _ vm_388))⟩ (pW.preV (va_recv hK hP (ci := 1) (q0 := 1) rfl rfl) (hP.sub [1, 2, 3, 4] rfl) (hD.sub [1, 2, 3, 4] (by decide) rfl) hKW) rfl rfl hl.1 rfl (lv_room (Nat.le_of_ble_eq_true rfl)) dW_line_48 ⟨Nat.le_of_ble_eq_true rfl, Nat.le_of_ble_eq_true rfl⟩) (fun u_6 H locs hz_5 hP hD hS => ?_)
          have hP : va_P D vwCl [(wr, .inr (0, [.int (iI (cs : Int)), .int (iI (rs : Int)), .ref ag, .ref oo, .ref cp, .ref aw, .ref pl])), (oo, .inr (1, [.ref ax, .ref ay, .ref an, .int (iI ((np + 1 : Nat) : Int)), .int (iI (l0 : Int))])), (ax, .inl (cA, 4096, .inl (iA (uZ fX np a1)))), (ay, .inl (cA, 4096, .inl (iA (uZ fY np a2)))), (an, .inl (cA, 4096, .inl (iA (uZ (uZ fN (np - 1) (np : Int)) np (l0 : Int)))))] H := hP
          have hD : va_D A [(wr, .inr (0, [.int (iI (cs : Int)), .int (iI (rs : Int)), .ref ag, .ref oo, .ref cp, .ref aw, .ref pl])), (oo, .inr (1, [.ref ax, .ref ay, .ref an, .int (iI ((np + 1 : Nat) : Int)), .int (iI (l0 : Int))])), (ax, .inl (cA, 4096, .inl (iA (uZ fX np a1)))), (ay, .inl (cA, 4096, .inl (iA (uZ fY np a2)))), (an, .inl (cA, 4096, .inl (iA (uZ (uZ fN (np - 1) (np : Int)) np (l0 : Int)))))] := hD
          refine lv_aload_n hx hb dW_line_51 rfl (lv_at hl 0 rfl) ?_
          refine va_get (ci := 0) (v := .ref oo) (C := "WindingRaster") (T := TW) (N := 7) hx hb hts in_0 hown hK hP 0 rfl rfl 3 (by decide) fl_38 (fun _ h9 => h9) rfl dW_line_52 ?_
          refine va_getN (ci := 1) (v := .int (iI ((np + 1 : Nat) : Int))) (C := "WindingRaster$Outline") (T := TO) (N := 5) hx hb hts in_1 hown hK hP 1 rfl rfl 3 (by decide) fl_74 (fun _ h9 => h9) rfl dW_line_55 ?_
          rw [← hQ]
          exact wr_iret (uZ fX np a1, uZ fY np a2, uZ (uZ fN (np - 1) (np : Int)) np (l0 : Int), np + 1, l0) hx hb hr hlocks hAe (hP.sub [0, 1, 2, 3, 4] rfl) (hD.sub [0, 1, 2, 3, 4] (by decide) rfl) hS (Or.inr (Or.inr (Or.inr ⟨rfl, by omega, by omega, by omega, rfl, rfl, rfl, rfl, rfl⟩))) dW_line_58
        · refine ii_bipush (n := (-3)) hx hb dW_line_39 (by decide +kernel) ?_
          rw [← hQ]
          exact wr_iret (fX, fY, fN, np, l0) hx hb hr hlocks hAe (hP.sub [0, 1, 2, 3, 4] rfl) (hD.sub [0, 1, 2, 3, 4] (by decide) rfl) hS (Or.inr (Or.inr (Or.inl ⟨rfl, by omega, by omega, rfl, rfl, rfl, rfl, rfl⟩))) dW_line_41
      · refine ii_bipush (n := (-2)) hx hb dW_line_26 (by decide +kernel) ?_
        rw [← hQ]
        exact wr_iret (fX, fY, fN, np, l0) hx hb hr hlocks hAe (hP.sub [0, 1, 2, 3, 4] rfl) (hD.sub [0, 1, 2, 3, 4] (by decide) rfl) hS (Or.inr (Or.inl ⟨rfl, by omega, by omega, rfl, rfl, rfl, rfl, rfl⟩)) dW_line_28
    · refine ii_iconst (n := (-1)) hx hb dW_line_14 ?_
      rw [← hQ]
      exact wr_iret (fX, fY, fN, np, l0) hx hb hr hlocks hAe (hP.sub [0, 1, 2, 3, 4] rfl) (hD.sub [0, 1, 2, 3, 4] (by decide) rfl) hS (Or.inl ⟨rfl, by omega, rfl, rfl, rfl, rfl, rfl⟩) dW_line_15

def rm_c_clear : Room := { frames := 1, cells := 0, slots := 0, locals := 20 }
set_option maxHeartbeats 4000000 in
set_option maxRecDepth 100000 in
theorem c_clear (l : Launch) (D : va_G) (cA cB cS : ClassId) (wr : Nat) (cs : Nat) (rs : Nat) (ag : Nat) (oo : Nat) (cp : Nat) (aw : Nat) (pl : Nat) (ax : Nat) (ay : Nat) (an : Nat) (fX : Nat → Int) (fY : Nat → Int) (fN : Nat → Int) (np : Nat) (l0 : Nat) (sz : Nat) : Met l yW_clear wW_clear rm_c_clear (pW [.ref wr] D vwCl (vwTy cA cB cS) vwNw [(wr, .inr (0, [.int (iI (cs : Int)), .int (iI (rs : Int)), .ref ag, .ref oo, .ref cp, .ref aw, .ref pl])), (oo, .inr (1, [.ref ax, .ref ay, .ref an, .int (iI (np : Int)), .int (iI (l0 : Int))])), (ax, .inl (cA, 4096, .inl (iA fX))), (ay, .inl (cA, 4096, .inl (iA fY))), (an, .inl (cA, 4096, .inl (iA fN)))] sz) (qW (S := Unit) (fun (z : Int) (_ : Unit) => z = (np : Int)) D vwCl [(wr, .inr (0, [.int (iI (cs : Int)), .int (iI (rs : Int)), .ref ag, .ref oo, .ref cp, .ref aw, .ref pl])), (oo, .inr (1, [.ref ax, .ref ay, .ref an, .int (iI (np : Int)), .int (iI (l0 : Int))])), (ax, .inl (cA, 4096, .inl (iA fX))), (ay, .inl (cA, 4096, .inl (iA fY))), (an, .inl (cA, 4096, .inl (iA fN)))] sz (fun _ : Unit => [(wr, .inr (0, [.int (iI (cs : Int)), .int (iI (rs : Int)), .ref ag, .ref oo, .ref cp, .ref aw, .ref pl])), (oo, .inr (1, [.ref ax, .ref ay, .ref an, .int (iI 0), .int (iI 0)])), (ax, .inl (cA, 4096, .inl (iA fX))), (ay, .inl (cA, 4096, .inl (iA fY))), (an, .inl (cA, 4096, .inl (iA fN)))])) 0 0 (va_A [(wr, .inr (0, [.int (iI (cs : Int)), .int (iI (rs : Int)), .ref ag, .ref oo, .ref cp, .ref aw, .ref pl])), (oo, .inr (1, [.ref ax, .ref ay, .ref an, .int (iI (np : Int)), .int (iI (l0 : Int))])), (ax, .inl (cA, 4096, .inl (iA fX))), (ay, .inl (cA, 4096, .inl (iA fY))), (an, .inl (cA, 4096, .inl (iA fN)))] sz) := by
  refine Met.ofW (cc := bW_clear) (maxL := 2) (ret := (some .int)) (by decide +kernel) rfl ?_
  intro p e s m args below meth c s₁ B hml hv
  obtain ⟨rfl, hsz, hP, hKW, hD0⟩ := hv
  have hK := hKW.1
  have hN := hKW.2.2
  have hx := B.exec
  have hb := B.bytes
  have hr := B.returns
  have hts := atoms_spec (ws := wW_clear) B.pre
  have hown : s.vm.findClass "WindingRaster" = some m.cls := findClass_of_methodNamed B.named
  have hlocks := B.notSynchronized
  subst hsz
  have hD := hD0.self (sz := s.heap.size)
  obtain ⟨A, hAe⟩ : ∃ A, va_A [(wr, .inr (0, [.int (iI (cs : Int)), .int (iI (rs : Int)), .ref ag, .ref oo, .ref cp, .ref aw, .ref pl])), (oo, .inr (1, [.ref ax, .ref ay, .ref an, .int (iI (np : Int)), .int (iI (l0 : Int))])), (ax, .inl (cA, 4096, .inl (iA fX))), (ay, .inl (cA, 4096, .inl (iA fY))), (an, .inl (cA, 4096, .inl (iA fN)))] s.heap.size = A := ⟨_, rfl⟩
  rw [hAe] at hD
  have hA : ∀ q : Nat, s.heap.size ≤ q → A q := fun q h => by rw [← hAe]; exact Or.inr h
  have hS : va_S A s.heap s.heap [] := va_S.rf
  have hP : va_P D vwCl [(wr, .inr (0, [.int (iI (cs : Int)), .int (iI (rs : Int)), .ref ag, .ref oo, .ref cp, .ref aw, .ref pl])), (oo, .inr (1, [.ref ax, .ref ay, .ref an, .int (iI (np : Int)), .int (iI (l0 : Int))])), (ax, .inl (cA, 4096, .inl (iA fX))), (ay, .inl (cA, 4096, .inl (iA fY))), (an, .inl (cA, 4096, .inl (iA fN)))] s.heap := hP
  have in_0 : ∀ w ∈ wsW, w ∈ wW_clear := fun w h => List.mem_cons_of_mem _ (in0_W w h)
  have fl_38 := (hts _ (List.mem_cons_of_mem _ vm_72))
  have in_1 : ∀ w ∈ wsO, w ∈ wW_clear := fun w h => List.mem_cons_of_mem _ (in0_O w h)
  have fl_74 := va_Nw.use (A := [.ref wr].toArray) rfl (hN _ vn_1)
  have hl := lv_entry ([.ref wr]) (n := 2) (Nat.le_of_ble_eq_true rfl)
  rw [lg_entry_eq]
  generalize (lg_sl ([.ref wr]) ++ List.replicate (2 - (lg_sl ([.ref wr])).length) Slot.unset).toArray = ls at hl ⊢
  have hl : lv_has ls 2 [(0, .ref wr)] := hl
  generalize hQ : MQ below (qW (S := Unit) (fun (z : Int) (_ : Unit) => z = (np : Int)) D vwCl [(wr, .inr (0, [.int (iI (cs : Int)), .int (iI (rs : Int)), .ref ag, .ref oo, .ref cp, .ref aw, .ref pl])), (oo, .inr (1, [.ref ax, .ref ay, .ref an, .int (iI (np : Int)), .int (iI (l0 : Int))])), (ax, .inl (cA, 4096, .inl (iA fX))), (ay, .inl (cA, 4096, .inl (iA fY))), (an, .inl (cA, 4096, .inl (iA fN)))] s.heap.size (fun _ : Unit => [(wr, .inr (0, [.int (iI (cs : Int)), .int (iI (rs : Int)), .ref ag, .ref oo, .ref cp, .ref aw, .ref pl])), (oo, .inr (1, [.ref ax, .ref ay, .ref an, .int (iI 0), .int (iI 0)])), (ax, .inl (cA, 4096, .inl (iA fX))), (ay, .inl (cA, 4096, .inl (iA fY))), (an, .inl (cA, 4096, .inl (iA fN)))])) [.ref wr].toArray s 0 0 (va_A [(wr, .inr (0, [.int (iI (cs : Int)), .int (iI (rs : Int)), .ref ag, .ref oo, .ref cp, .ref aw, .ref pl])), (oo, .inr (1, [.ref ax, .ref ay, .ref an, .int (iI (np : Int)), .int (iI (l0 : Int))])), (ax, .inl (cA, 4096, .inl (iA fX))), (ay, .inl (cA, 4096, .inl (iA fY))), (an, .inl (cA, 4096, .inl (iA fN)))] s.heap.size) = QQ
  refine lv_aload_n hx hb dW_clear_0 rfl (lv_at hl 0 rfl) ?_
  refine va_get (ci := 0) (v := .ref oo) (C := "WindingRaster") (T := TW) (N := 7) hx hb hts in_0 hown hK hP 0 rfl rfl 3 (by decide) fl_38 (fun _ h9 => h9) rfl dW_clear_1 ?_
  refine va_getN (ci := 1) (v := .int (iI (np : Int))) (C := "WindingRaster$Outline") (T := TO) (N := 5) hx hb hts in_1 hown hK hP 1 rfl rfl 3 (by decide) fl_74 (fun _ h9 => h9) rfl dW_clear_4 ?_
  refine lv_istore_n (lv' := [(1, .int (iI (np : Int))), (0, .ref wr)]) hx hb dW_clear_7 rfl hl (by decide) rfl (fun ls hl => ?_)
  refine lv_aload_n hx hb dW_clear_8 rfl (lv_at hl 1 rfl) ?_
  refine va_get (ci := 0) (v := .ref oo) (C := "WindingRaster") (T := TW) (N := 7) hx hb hts in_0 hown hK hP 0 rfl rfl 3 (by decide) fl_38 (fun _ h9 => h9) rfl dW_clear_9 ?_
  refine cw_v (wc := [(oo, .inr (1, [.ref ax, .ref ay, .ref an, .int (iI (np : Int)), .int (iI (l0 : Int))])), (ax, .inl (cA, 4096, .inl (iA fX))), (ay, .inl (cA, 4096, .inl (iA fY))), (an, .inl (cA, 4096, .inl (iA fN)))]) (wr := [(wr, .inr (0, [.int (iI (cs : Int)), .int (iI (rs : Int)), .ref ag, .ref oo, .ref cp, .ref aw, .ref pl]))]) hP hD hS hA [1, 2, 3, 4] [0] rfl rfl (by decide) (by decide) (va_runVN (As := []) (rest := []) ⟨hx, hb, hml, hown, hts⟩ (c_forget l D cA cB cS oo ax ay an fX fY fN np l0 _) ⟨(va_cnB 0 hts (gIn vm_122) rfl rfl rfl (hN _ vn_16) (hts _ (List.mem_cons_of_mem _ vm_4)) (by decide +kernel) ⟨Nat.le_of_ble_eq_true rfl, Nat.le_of_ble_eq_true rfl⟩), (hts _ (List.mem_cons_of_mem _ vm_121)), (hts _ (List.mem_cons_of_mem _ vm_389))⟩ (pW.preV (va_recv hK hP (ci := 1) (q0 := 1) rfl rfl) (hP.sub [1, 2, 3, 4] rfl) (hD.sub [1, 2, 3, 4] (by decide) rfl) hKW) rfl rfl hl.1 rfl (lv_room (Nat.le_of_ble_eq_true rfl)) dW_clear_12 ⟨Nat.le_of_ble_eq_true rfl, Nat.le_of_ble_eq_true rfl⟩) (fun u_2 H locs hz_1 hP hD hS => ?_)
  have hP : va_P D vwCl [(wr, .inr (0, [.int (iI (cs : Int)), .int (iI (rs : Int)), .ref ag, .ref oo, .ref cp, .ref aw, .ref pl])), (oo, .inr (1, [.ref ax, .ref ay, .ref an, .int (iI 0), .int (iI 0)])), (ax, .inl (cA, 4096, .inl (iA fX))), (ay, .inl (cA, 4096, .inl (iA fY))), (an, .inl (cA, 4096, .inl (iA fN)))] H := hP
  have hD : va_D A [(wr, .inr (0, [.int (iI (cs : Int)), .int (iI (rs : Int)), .ref ag, .ref oo, .ref cp, .ref aw, .ref pl])), (oo, .inr (1, [.ref ax, .ref ay, .ref an, .int (iI 0), .int (iI 0)])), (ax, .inl (cA, 4096, .inl (iA fX))), (ay, .inl (cA, 4096, .inl (iA fY))), (an, .inl (cA, 4096, .inl (iA fN)))] := hD
  refine lv_iload_n hx hb dW_clear_15 rfl (lv_at hl 0 rfl) ?_
  rw [← hQ]
  exact wr_iret () hx hb hr hlocks hAe (hP.sub [0, 1, 2, 3, 4] rfl) (hD.sub [0, 1, 2, 3, 4] (by decide) rfl) hS rfl dW_clear_16

def rm_c_winding : Room := { frames := 3, cells := 0, slots := 0, locals := 83 }
set_option maxHeartbeats 4000000 in
set_option maxRecDepth 100000 in
theorem c_winding (l : Launch) (D : va_G) (cA cB cS : ClassId) (wr : Nat) (cs : Nat) (rs : Nat) (ag : Nat) (oo : Nat) (cp : Nat) (aw : Nat) (pl : Nat) (ax : Nat) (ay : Nat) (an : Nat) (fX : Nat → Int) (fY : Nat → Int) (fN : Nat → Int) (np : Nat) (l0 : Nat) (a1 : Int) (a2 : Int) (h1 : i32 a1) (h2 : i32 a2) (h3 : cs ≤ 256) (h4 : rs ≤ 256) (h5 : ∀ i, i < np → (-536870912 ≤ fX i ∧ fX i ≤ 536870912) ∧ (-536870912 ≤ fY i ∧ fY i ≤ 536870912)) (h6 : ∀ i, i < np → 0 ≤ fN i ∧ fN i < (np : Int)) (h7 : np ≤ 4096) : Met l yW_winding wW_winding rm_c_winding (pR [.ref wr, .int (iI a1), .int (iI a2)] D vwCl (vwTy cA cB cS) vwNw [(wr, .inr (0, [.int (iI (cs : Int)), .int (iI (rs : Int)), .ref ag, .ref oo, .ref cp, .ref aw, .ref pl])), (oo, .inr (1, [.ref ax, .ref ay, .ref an, .int (iI (np : Int)), .int (iI (l0 : Int))])), (ax, .inl (cA, 4096, .inl (iA fX))), (ay, .inl (cA, 4096, .inl (iA fY))), (an, .inl (cA, 4096, .inl (iA fN)))]) (qI (fun z => ((0 ≤ a1 ∧ a1 < (cs : Int) ∧ 0 ≤ a2 ∧ a2 < (rs : Int)) ∧ z = wiZ fX fY fN np ((a2.toNat * 65536 + 32768 : Nat) : Int) (a1.toNat : Int)) ∨ (¬ (0 ≤ a1 ∧ a1 < (cs : Int) ∧ 0 ≤ a2 ∧ a2 < (rs : Int)) ∧ z = 0))) 0 0 (fun _ => False) := by
  refine Met.ofW (cc := bW_winding) (maxL := 3) (ret := (some .int)) (by decide +kernel) rfl ?_
  intro p e s m args below meth c s₁ B hml hv
  obtain ⟨rfl, hP, hKW⟩ := hv
  have hK := hKW.1
  have hN := hKW.2.2
  have hx := B.exec
  have hb := B.bytes
  have hr := B.returns
  have hts := atoms_spec (ws := wW_winding) B.pre
  have hown : s.vm.findClass "WindingRaster" = some m.cls := findClass_of_methodNamed B.named
  have hlocks := B.notSynchronized
  have hP : va_P D vwCl [(wr, .inr (0, [.int (iI (cs : Int)), .int (iI (rs : Int)), .ref ag, .ref oo, .ref cp, .ref aw, .ref pl])), (oo, .inr (1, [.ref ax, .ref ay, .ref an, .int (iI (np : Int)), .int (iI (l0 : Int))])), (ax, .inl (cA, 4096, .inl (iA fX))), (ay, .inl (cA, 4096, .inl (iA fY))), (an, .inl (cA, 4096, .inl (iA fN)))] s.heap := hP
  have in_0 : ∀ w ∈ wsW, w ∈ wW_winding := fun w h => List.mem_cons_of_mem _ (in0_W w h)
  have fl_38 := (hts _ (List.mem_cons_of_mem _ vm_72))
  have hl := lv_entry ([.ref wr, .int (iI a1), .int (iI a2)]) (n := 3) (Nat.le_of_ble_eq_true rfl)
  rw [lg_entry_eq]
  generalize (lg_sl ([.ref wr, .int (iI a1), .int (iI a2)]) ++ List.replicate (3 - (lg_sl ([.ref wr, .int (iI a1), .int (iI a2)])).length) Slot.unset).toArray = ls at hl ⊢
  have hl : lv_has ls 3 [(0, .ref wr), (1, .int (iI a1)), (2, .int (iI a2))] := hl
  generalize hQ : MQ below (qI (fun z => ((0 ≤ a1 ∧ a1 < (cs : Int) ∧ 0 ≤ a2 ∧ a2 < (rs : Int)) ∧ z = wiZ fX fY fN np ((a2.toNat * 65536 + 32768 : Nat) : Int) (a1.toNat : Int)) ∨ (¬ (0 ≤ a1 ∧ a1 < (cs : Int) ∧ 0 ≤ a2 ∧ a2 < (rs : Int)) ∧ z = 0))) [.ref wr, .int (iI a1), .int (iI a2)].toArray s 0 0 (fun _ => False) = QQ
  refine lv_aload_n hx hb dW_winding_0 rfl (lv_at hl 0 rfl) ?_
  refine lv_iload_n hx hb dW_winding_1 rfl (lv_at hl 1 rfl) ?_
  refine lv_iload_n hx hb dW_winding_2 rfl (lv_at hl 2 rfl) ?_
  refine cs_i (va_runV (As := [.int (iI a1), .int (iI a2)]) (rest := []) ⟨hx, hb, hml, hown, hts⟩ (c_hasPixel l D cA cB cS wr cs rs ag oo cp aw pl a1 a2 (by omega) (by omega) (by omega) (by omega)) ⟨(callB_of 2 hts (gIn vm_129) rfl rfl rfl (hts _ (List.mem_cons_of_mem _ vm_1)) (hts _ (List.mem_cons_of_mem _ vm_127)) (by decide +kernel) ⟨Nat.le_of_ble_eq_true rfl, Nat.le_of_ble_eq_true rfl⟩), (hts _ (List.mem_cons_of_mem _ vm_128)), (hts _ (List.mem_cons_of_mem _ vm_390))⟩ (pR.preV (va_recv hK hP (ci := 0) (q0 := 0) rfl rfl) (hP.sub [0] rfl) hKW) rfl rfl hl.1 rfl (lv_room (Nat.le_of_ble_eq_true rfl)) dW_winding_3 ⟨Nat.le_of_ble_eq_true rfl, Nat.le_of_ble_eq_true rfl⟩) (fun z_1 hz_1 => ?_)
  refine ii_if_eq (tgt := 21) hx hb dW_winding_6 (by decide) (by omega) (fun c6 => ?_) (fun c6 => ?_)
  · refine ii_iconst (n := 0) hx hb dW_winding_21 ?_
    rw [← hQ]
    exact rd_iret hx hb hr hlocks (Or.inr ⟨by omega, rfl⟩) dW_winding_22
  · obtain ⟨kc, rfl⟩ : ∃ kc : Nat, a1 = (kc : Int) := ⟨a1.toNat, by omega⟩
    obtain ⟨kr, rfl⟩ : ∃ kr : Nat, a2 = (kr : Int) := ⟨a2.toNat, by omega⟩
    refine lv_aload_n hx hb dW_winding_9 rfl (lv_at hl 0 rfl) ?_
    refine va_get (ci := 0) (v := .ref oo) (C := "WindingRaster") (T := TW) (N := 7) hx hb hts in_0 hown hK hP 0 rfl rfl 3 (by decide) fl_38 (fun _ h9 => h9) rfl dW_winding_10 ?_
    refine lv_iload_n hx hb dW_winding_13 rfl (lv_at hl 1 rfl) ?_
    refine lv_iload_n hx hb dW_winding_14 rfl (lv_at hl 2 rfl) ?_
    refine cs_i (va_runVN (As := [.int (iI (kc : Int)), .int (iI (kr : Int))]) (rest := []) ⟨hx, hb, hml, hown, hts⟩ (c_windingAt l D cA cB cS oo ax ay an fX fY fN np l0 kc kr (by omega) (by omega) (by omega) h5 h6) ⟨(va_cnB 2 hts (gIn vm_131) rfl rfl rfl (hN _ vn_17) (hts _ (List.mem_cons_of_mem _ vm_4)) (by decide +kernel) ⟨Nat.le_of_ble_eq_true rfl, Nat.le_of_ble_eq_true rfl⟩), (hts _ (List.mem_cons_of_mem _ vm_130)), (hts _ (List.mem_cons_of_mem _ vm_391))⟩ (pR.preV (va_recv hK hP (ci := 1) (q0 := 1) rfl rfl) (hP.sub [1, 2, 3, 4] rfl) hKW) rfl rfl hl.1 rfl (lv_room (Nat.le_of_ble_eq_true rfl)) dW_winding_15 ⟨Nat.le_of_ble_eq_true rfl, Nat.le_of_ble_eq_true rfl⟩) (fun z_2 hz_2 => ?_)
    subst hz_2
    refine lv_goto (tgt := 22) hx hb dW_winding_18 (by decide) ?_
    rw [← hQ]
    exact rd_iret hx hb hr hlocks (Or.inl ⟨by omega, rfl⟩) dW_winding_22

def rm_c_gray : Room := { frames := 1, cells := 0, slots := 0, locals := 22 }
set_option maxHeartbeats 4000000 in
set_option maxRecDepth 100000 in
theorem c_gray (l : Launch) (D : va_G) (cA cB cS : ClassId) (wr : Nat) (cs : Nat) (rs : Nat) (ag : Nat) (oo : Nat) (cp : Nat) (aw : Nat) (pl : Nat) (fG : Nat → Int) (a1 : Int) (a2 : Int) (h1 : i32 a1) (h2 : i32 a2) (h3 : cs ≤ 256) (h4 : rs ≤ 256) (h5 : cs * rs ≤ 65536) : Met l yW_gray wW_gray rm_c_gray (pR [.ref wr, .int (iI a1), .int (iI a2)] D vwCl (vwTy cA cB cS) vwNw [(wr, .inr (0, [.int (iI (cs : Int)), .int (iI (rs : Int)), .ref ag, .ref oo, .ref cp, .ref aw, .ref pl])), (ag, .inl (cA, cs * rs, .inl (iA fG)))]) (qI (fun z => ((0 ≤ a1 ∧ a1 < (cs : Int) ∧ 0 ≤ a2 ∧ a2 < (rs : Int)) ∧ z = fG (a2.toNat * cs + a1.toNat)) ∨ (¬ (0 ≤ a1 ∧ a1 < (cs : Int) ∧ 0 ≤ a2 ∧ a2 < (rs : Int)) ∧ z = -1))) 0 0 (fun _ => False) := by
  refine Met.ofW (cc := bW_gray) (maxL := 3) (ret := (some .int)) (by decide +kernel) rfl ?_
  intro p e s m args below meth c s₁ B hml hv
  obtain ⟨rfl, hP, hKW⟩ := hv
  have hK := hKW.1
  have hN := hKW.2.2
  have hx := B.exec
  have hb := B.bytes
  have hr := B.returns
  have hts := atoms_spec (ws := wW_gray) B.pre
  have hown : s.vm.findClass "WindingRaster" = some m.cls := findClass_of_methodNamed B.named
  have hlocks := B.notSynchronized
  have hP : va_P D vwCl [(wr, .inr (0, [.int (iI (cs : Int)), .int (iI (rs : Int)), .ref ag, .ref oo, .ref cp, .ref aw, .ref pl])), (ag, .inl (cA, cs * rs, .inl (iA fG)))] s.heap := hP
  have in_0 : ∀ w ∈ wsW, w ∈ wW_gray := fun w h => List.mem_cons_of_mem _ (in0_W w h)
  have fl_25 := (hts _ (List.mem_cons_of_mem _ vm_71))
  have fl_18 := (hts _ (List.mem_cons_of_mem _ vm_69))
  have hl := lv_entry ([.ref wr, .int (iI a1), .int (iI a2)]) (n := 3) (Nat.le_of_ble_eq_true rfl)
  rw [lg_entry_eq]
  generalize (lg_sl ([.ref wr, .int (iI a1), .int (iI a2)]) ++ List.replicate (3 - (lg_sl ([.ref wr, .int (iI a1), .int (iI a2)])).length) Slot.unset).toArray = ls at hl ⊢
  have hl : lv_has ls 3 [(0, .ref wr), (1, .int (iI a1)), (2, .int (iI a2))] := hl
  generalize hQ : MQ below (qI (fun z => ((0 ≤ a1 ∧ a1 < (cs : Int) ∧ 0 ≤ a2 ∧ a2 < (rs : Int)) ∧ z = fG (a2.toNat * cs + a1.toNat)) ∨ (¬ (0 ≤ a1 ∧ a1 < (cs : Int) ∧ 0 ≤ a2 ∧ a2 < (rs : Int)) ∧ z = -1))) [.ref wr, .int (iI a1), .int (iI a2)].toArray s 0 0 (fun _ => False) = QQ
  refine lv_aload_n hx hb dW_gray_0 rfl (lv_at hl 0 rfl) ?_
  refine lv_iload_n hx hb dW_gray_1 rfl (lv_at hl 1 rfl) ?_
  refine lv_iload_n hx hb dW_gray_2 rfl (lv_at hl 2 rfl) ?_
  refine cs_i (va_runV (As := [.int (iI a1), .int (iI a2)]) (rest := []) ⟨hx, hb, hml, hown, hts⟩ (c_hasPixel l D cA cB cS wr cs rs ag oo cp aw pl a1 a2 (by omega) (by omega) (by omega) (by omega)) ⟨(callB_of 2 hts (gIn vm_129) rfl rfl rfl (hts _ (List.mem_cons_of_mem _ vm_1)) (hts _ (List.mem_cons_of_mem _ vm_127)) (by decide +kernel) ⟨Nat.le_of_ble_eq_true rfl, Nat.le_of_ble_eq_true rfl⟩), (hts _ (List.mem_cons_of_mem _ vm_128)), (hts _ (List.mem_cons_of_mem _ vm_390))⟩ (pR.preV (va_recv hK hP (ci := 0) (q0 := 0) rfl rfl) (hP.sub [0] rfl) hKW) rfl rfl hl.1 rfl (lv_room (Nat.le_of_ble_eq_true rfl)) dW_gray_3 ⟨Nat.le_of_ble_eq_true rfl, Nat.le_of_ble_eq_true rfl⟩) (fun z_1 hz_1 => ?_)
  refine ii_if_eq (tgt := 25) hx hb dW_gray_6 (by decide) (by omega) (fun c6 => ?_) (fun c6 => ?_)
  · refine ii_iconst (n := (-1)) hx hb dW_gray_25 ?_
    rw [← hQ]
    exact rd_iret hx hb hr hlocks (Or.inr ⟨by omega, rfl⟩) dW_gray_26
  · obtain ⟨kc, rfl⟩ : ∃ kc : Nat, a1 = (kc : Int) := ⟨a1.toNat, by omega⟩
    obtain ⟨kr, rfl⟩ : ∃ kr : Nat, a2 = (kr : Int) := ⟨a2.toNat, by omega⟩
    have hix := idx_le (cs := cs) (r := kr) (rs := rs) (by omega)
    refine lv_aload_n hx hb dW_gray_9 rfl (lv_at hl 0 rfl) ?_
    refine va_get (ci := 0) (v := .ref ag) (C := "WindingRaster") (T := TW) (N := 7) hx hb hts in_0 hown hK hP 0 rfl rfl 2 (by decide) fl_25 (fun _ h9 => h9) rfl dW_gray_10 ?_
    refine lv_iload_n hx hb dW_gray_13 rfl (lv_at hl 2 rfl) ?_
    refine lv_aload_n hx hb dW_gray_14 rfl (lv_at hl 0 rfl) ?_
    refine va_get (ci := 0) (v := .int (iI (cs : Int))) (C := "WindingRaster") (T := TW) (N := 7) hx hb hts in_0 hown hK hP 0 rfl rfl 0 (by decide) fl_18 (fun _ h9 => h9) rfl dW_gray_15 ?_
    refine ii_imul hx hb dW_gray_18 ?_
    refine ii_top (y := ((kr * cs : Nat) : Int)) (by push_cast; rfl) ?_
    refine lv_iload_n hx hb dW_gray_19 rfl (lv_at hl 1 rfl) ?_
    refine ii_iadd hx hb dW_gray_20 ?_
    refine ii_top (y := (((kr * cs) + kc : Nat) : Int)) (by push_cast; rfl) ?_
    refine ii_iald hx hb hK hP 1 0 rfl rfl ((kr * cs) + kc) rfl (by omega) (by omega) dW_gray_21 ?_
    refine lv_goto (tgt := 26) hx hb dW_gray_22 (by decide) ?_
    rw [← hQ]
    exact rd_iret hx hb hr hlocks (Or.inl ⟨by omega, rfl⟩) dW_gray_26

def rm_c_openP : Room := { frames := 2, cells := 0, slots := 0, locals := 44 }
set_option maxHeartbeats 4000000 in
set_option maxRecDepth 100000 in
theorem c_openP (l : Launch) (D : va_G) (cA cB cS : ClassId) (wr : Nat) (cs : Nat) (rs : Nat) (ag : Nat) (oo : Nat) (cp : Nat) (aw : Nat) (pl : Nat) (ai : Nat) (at_ : Nat) (fI : Nat → Int) (fS : Nat → Int) (sv : Nat) (en : Nat) (st0 : Nat) (L : List Run3) (a1 : Int) (a2 : Int) (h1 : i32 a1) (h2 : i32 a2) (h3 : cs ≤ 256) (h4 : rs ≤ 256) (h11 : segL fI st0 L) (h12 : st0 + L.length = en) (h13 : ∀ x ∈ L, runOk cs rs x) (h14 : en ≤ 24000) (h15 : sv ≤ 12) (h16 : fS sv = (st0 : Int)) : Met l yW_open wW_open rm_c_openP (pR [.ref wr, .int (iI a1), .int (iI a2)] D vwCl (vwTy cA cB cS) vwNw [(wr, .inr (0, [.int (iI (cs : Int)), .int (iI (rs : Int)), .ref ag, .ref oo, .ref cp, .ref aw, .ref pl])), (cp, .inr (2, [.ref ai, .ref at_, .int (iI (sv : Int)), .int (iI (en : Int))])), (ai, .inl (cA, 24000, .inl (iA fI))), (at_, .inl (cA, 13, .inl (iA fS)))]) (qI (fun z => ((0 ≤ a1 ∧ a1 < (cs : Int) ∧ 0 ≤ a2 ∧ a2 < (rs : Int)) ∧ ((z = 1 ∧ memL L a2.toNat a1.toNat) ∨ (z = 0 ∧ ¬ memL L a2.toNat a1.toNat))) ∨ (¬ (0 ≤ a1 ∧ a1 < (cs : Int) ∧ 0 ≤ a2 ∧ a2 < (rs : Int)) ∧ z = -1))) 0 0 (fun _ => False) := by
  refine Met.ofW (cc := bW_open) (maxL := 3) (ret := (some .int)) (by decide +kernel) rfl ?_
  intro p e s m args below meth c s₁ B hml hv
  obtain ⟨rfl, hP, hKW⟩ := hv
  have hK := hKW.1
  have hN := hKW.2.2
  have hx := B.exec
  have hb := B.bytes
  have hr := B.returns
  have hts := atoms_spec (ws := wW_open) B.pre
  have hown : s.vm.findClass "WindingRaster" = some m.cls := findClass_of_methodNamed B.named
  have hlocks := B.notSynchronized
  have hP : va_P D vwCl [(wr, .inr (0, [.int (iI (cs : Int)), .int (iI (rs : Int)), .ref ag, .ref oo, .ref cp, .ref aw, .ref pl])), (cp, .inr (2, [.ref ai, .ref at_, .int (iI (sv : Int)), .int (iI (en : Int))])), (ai, .inl (cA, 24000, .inl (iA fI))), (at_, .inl (cA, 13, .inl (iA fS)))] s.heap := hP
  have in_0 : ∀ w ∈ wsW, w ∈ wW_open := fun w h => List.mem_cons_of_mem _ (in0_W w h)
  have fl_47 := (hts _ (List.mem_cons_of_mem _ vm_73))
  have hl := lv_entry ([.ref wr, .int (iI a1), .int (iI a2)]) (n := 3) (Nat.le_of_ble_eq_true rfl)
  rw [lg_entry_eq]
  generalize (lg_sl ([.ref wr, .int (iI a1), .int (iI a2)]) ++ List.replicate (3 - (lg_sl ([.ref wr, .int (iI a1), .int (iI a2)])).length) Slot.unset).toArray = ls at hl ⊢
  have hl : lv_has ls 3 [(0, .ref wr), (1, .int (iI a1)), (2, .int (iI a2))] := hl
  generalize hQ : MQ below (qI (fun z => ((0 ≤ a1 ∧ a1 < (cs : Int) ∧ 0 ≤ a2 ∧ a2 < (rs : Int)) ∧ ((z = 1 ∧ memL L a2.toNat a1.toNat) ∨ (z = 0 ∧ ¬ memL L a2.toNat a1.toNat))) ∨ (¬ (0 ≤ a1 ∧ a1 < (cs : Int) ∧ 0 ≤ a2 ∧ a2 < (rs : Int)) ∧ z = -1))) [.ref wr, .int (iI a1), .int (iI a2)].toArray s 0 0 (fun _ => False) = QQ
  refine lv_aload_n hx hb dW_open_0 rfl (lv_at hl 0 rfl) ?_
  refine lv_iload_n hx hb dW_open_1 rfl (lv_at hl 1 rfl) ?_
  refine lv_iload_n hx hb dW_open_2 rfl (lv_at hl 2 rfl) ?_
  refine cs_i (va_runV (As := [.int (iI a1), .int (iI a2)]) (rest := []) ⟨hx, hb, hml, hown, hts⟩ (c_hasPixel l D cA cB cS wr cs rs ag oo cp aw pl a1 a2 (by omega) (by omega) (by omega) (by omega)) ⟨(callB_of 2 hts (gIn vm_129) rfl rfl rfl (hts _ (List.mem_cons_of_mem _ vm_1)) (hts _ (List.mem_cons_of_mem _ vm_127)) (by decide +kernel) ⟨Nat.le_of_ble_eq_true rfl, Nat.le_of_ble_eq_true rfl⟩), (hts _ (List.mem_cons_of_mem _ vm_128)), (hts _ (List.mem_cons_of_mem _ vm_390))⟩ (pR.preV (va_recv hK hP (ci := 0) (q0 := 0) rfl rfl) (hP.sub [0] rfl) hKW) rfl rfl hl.1 rfl (lv_room (Nat.le_of_ble_eq_true rfl)) dW_open_3 ⟨Nat.le_of_ble_eq_true rfl, Nat.le_of_ble_eq_true rfl⟩) (fun z_1 hz_1 => ?_)
  refine ii_if_ne (tgt := 11) hx hb dW_open_6 (by decide) (by omega) (fun c6 => ?_) (fun c6 => ?_)
  · obtain ⟨kc, rfl⟩ : ∃ kc : Nat, a1 = (kc : Int) := ⟨a1.toNat, by omega⟩
    obtain ⟨kr, rfl⟩ : ∃ kr : Nat, a2 = (kr : Int) := ⟨a2.toNat, by omega⟩
    refine lv_aload_n hx hb dW_open_11 rfl (lv_at hl 0 rfl) ?_
    refine va_get (ci := 0) (v := .ref cp) (C := "WindingRaster") (T := TW) (N := 7) hx hb hts in_0 hown hK hP 0 rfl rfl 4 (by decide) fl_47 (fun _ h9 => h9) rfl dW_open_12 ?_
    refine lv_iload_n hx hb dW_open_15 rfl (lv_at hl 1 rfl) ?_
    refine lv_iload_n hx hb dW_open_16 rfl (lv_at hl 2 rfl) ?_
    refine cs_i (va_runVN (As := [.int (iI (kc : Int)), .int (iI (kr : Int))]) (rest := []) ⟨hx, hb, hml, hown, hts⟩ (c_has l D cA cB cS cp ai at_ fI fS sv en st0 kc kr L cs rs h15 h16 h11 h12 h13 (by omega) (by omega) h14 (by omega)) ⟨(va_cnB 2 hts (gIn vm_219) rfl rfl rfl (hN _ vn_31) (hts _ (List.mem_cons_of_mem _ vm_5)) (by decide +kernel) ⟨Nat.le_of_ble_eq_true rfl, Nat.le_of_ble_eq_true rfl⟩), (hts _ (List.mem_cons_of_mem _ vm_218)), (hts _ (List.mem_cons_of_mem _ vm_404))⟩ (pR.preV (va_recv hK hP (ci := 2) (q0 := 1) rfl rfl) (hP.sub [1, 2, 3] rfl) hKW) rfl rfl hl.1 rfl (lv_room (Nat.le_of_ble_eq_true rfl)) dW_open_17 ⟨Nat.le_of_ble_eq_true rfl, Nat.le_of_ble_eq_true rfl⟩) (fun zo hzo => ?_)
    refine ii_if_eq (tgt := 27) hx hb dW_open_20 (by decide) (by omega) (fun c20 => ?_) (fun c20 => ?_)
    · refine ii_iconst (n := 0) hx hb dW_open_27 ?_
      rw [← hQ]
      exact rd_iret hx hb hr hlocks (Or.inl ⟨by omega, Or.inr ⟨rfl, by rcases hzo with w | w; (exfalso; omega); (exact w.2)⟩⟩) dW_open_28
    · refine ii_iconst (n := 1) hx hb dW_open_23 ?_
      refine lv_goto (tgt := 28) hx hb dW_open_24 (by decide) ?_
      rw [← hQ]
      exact rd_iret hx hb hr hlocks (Or.inl ⟨by omega, Or.inl ⟨rfl, by rcases hzo with w | w; (exact w.2); (exfalso; omega)⟩⟩) dW_open_28
  · refine ii_iconst (n := (-1)) hx hb dW_open_9 ?_
    rw [← hQ]
    exact rd_iret hx hb hr hlocks (Or.inr ⟨by omega, rfl⟩) dW_open_10

def rm_c_pixels : Room := { frames := 3, cells := 0, slots := 0, locals := 62 }
set_option maxHeartbeats 4000000 in
set_option maxRecDepth 100000 in
theorem c_pixels (l : Launch) (D : va_G) (cA cB cS : ClassId) (wr : Nat) (cs : Nat) (rs : Nat) (ag : Nat) (oo : Nat) (cp : Nat) (aw : Nat) (pl : Nat) (ai : Nat) (at_ : Nat) (fI : Nat → Int) (fS : Nat → Int) (sv : Nat) (en : Nat) (st0 : Nat) (L : List Run3) (h3 : cs ≤ 256) (h4 : rs ≤ 256) (h11 : segL fI st0 L) (h12 : st0 + L.length = en) (h13 : ∀ x ∈ L, runOk cs rs x) (h14 : en ≤ 24000) (h15 : sv ≤ 12) (h16 : fS sv = (st0 : Int)) : Met l yW_pixels wW_pixels rm_c_pixels (pR [.ref wr] D vwCl (vwTy cA cB cS) vwNw [(wr, .inr (0, [.int (iI (cs : Int)), .int (iI (rs : Int)), .ref ag, .ref oo, .ref cp, .ref aw, .ref pl])), (cp, .inr (2, [.ref ai, .ref at_, .int (iI (sv : Int)), .int (iI (en : Int))])), (ai, .inl (cA, 24000, .inl (iA fI))), (at_, .inl (cA, 13, .inl (iA fS)))]) (qI (fun z => z = ((lenS L : Nat) : Int))) 0 0 (fun _ => False) := by
  refine Met.ofW (cc := bW_pixels) (maxL := 1) (ret := (some .int)) (by decide +kernel) rfl ?_
  intro p e s m args below meth c s₁ B hml hv
  obtain ⟨rfl, hP, hKW⟩ := hv
  have hK := hKW.1
  have hN := hKW.2.2
  have hx := B.exec
  have hb := B.bytes
  have hr := B.returns
  have hts := atoms_spec (ws := wW_pixels) B.pre
  have hown : s.vm.findClass "WindingRaster" = some m.cls := findClass_of_methodNamed B.named
  have hlocks := B.notSynchronized
  have hP : va_P D vwCl [(wr, .inr (0, [.int (iI (cs : Int)), .int (iI (rs : Int)), .ref ag, .ref oo, .ref cp, .ref aw, .ref pl])), (cp, .inr (2, [.ref ai, .ref at_, .int (iI (sv : Int)), .int (iI (en : Int))])), (ai, .inl (cA, 24000, .inl (iA fI))), (at_, .inl (cA, 13, .inl (iA fS)))] s.heap := hP
  have in_0 : ∀ w ∈ wsW, w ∈ wW_pixels := fun w h => List.mem_cons_of_mem _ (in0_W w h)
  have fl_47 := (hts _ (List.mem_cons_of_mem _ vm_73))
  have hl := lv_entry ([.ref wr]) (n := 1) (Nat.le_of_ble_eq_true rfl)
  rw [lg_entry_eq]
  generalize (lg_sl ([.ref wr]) ++ List.replicate (1 - (lg_sl ([.ref wr])).length) Slot.unset).toArray = ls at hl ⊢
  have hl : lv_has ls 1 [(0, .ref wr)] := hl
  generalize hQ : MQ below (qI (fun z => z = ((lenS L : Nat) : Int))) [.ref wr].toArray s 0 0 (fun _ => False) = QQ
  refine lv_aload_n hx hb dW_pixels_0 rfl (lv_at hl 0 rfl) ?_
  refine va_get (ci := 0) (v := .ref cp) (C := "WindingRaster") (T := TW) (N := 7) hx hb hts in_0 hown hK hP 0 rfl rfl 4 (by decide) fl_47 (fun _ h9 => h9) rfl dW_pixels_1 ?_
  refine cs_i (va_runVN (As := []) (rest := []) ⟨hx, hb, hml, hown, hts⟩ (c_pixelCount l D cA cB cS cp ai at_ fI fS sv en st0 L cs rs h15 h16 h11 h12 h13 (by omega) (by omega) h14) ⟨(va_cnB 0 hts (gIn vm_197) rfl rfl rfl (hN _ vn_27) (hts _ (List.mem_cons_of_mem _ vm_5)) (by decide +kernel) ⟨Nat.le_of_ble_eq_true rfl, Nat.le_of_ble_eq_true rfl⟩), (hts _ (List.mem_cons_of_mem _ vm_196)), (hts _ (List.mem_cons_of_mem _ vm_401))⟩ (pR.preV (va_recv hK hP (ci := 2) (q0 := 1) rfl rfl) (hP.sub [1, 2, 3] rfl) hKW) rfl rfl hl.1 rfl (lv_room (Nat.le_of_ble_eq_true rfl)) dW_pixels_4 ⟨Nat.le_of_ble_eq_true rfl, Nat.le_of_ble_eq_true rfl⟩) (fun z_1 hz_1 => ?_)
  subst hz_1
  rw [← hQ]
  exact rd_iret hx hb hr hlocks rfl dW_pixels_7

def rm_c_runs : Room := { frames := 0, cells := 0, slots := 0, locals := 0 }
set_option maxHeartbeats 4000000 in
set_option maxRecDepth 100000 in
theorem c_runs (l : Launch) (D : va_G) (cA cB cS : ClassId) (wr : Nat) (cs : Nat) (rs : Nat) (ag : Nat) (oo : Nat) (cp : Nat) (aw : Nat) (pl : Nat) (ai : Nat) (at_ : Nat) (fI : Nat → Int) (fS : Nat → Int) (sv : Nat) (en : Nat) : Met l yW_runs wW_runs rm_c_runs (pR [.ref wr] D vwCl (vwTy cA cB cS) vwNw [(wr, .inr (0, [.int (iI (cs : Int)), .int (iI (rs : Int)), .ref ag, .ref oo, .ref cp, .ref aw, .ref pl])), (cp, .inr (2, [.ref ai, .ref at_, .int (iI (sv : Int)), .int (iI (en : Int))])), (ai, .inl (cA, 24000, .inl (iA fI))), (at_, .inl (cA, 13, .inl (iA fS)))]) (qI (fun z => z = (en : Int))) 0 0 (fun _ => False) := by
  refine Met.ofW (cc := bW_runs) (maxL := 1) (ret := (some .int)) (by decide +kernel) rfl ?_
  intro p e s m args below meth c s₁ B hml hv
  obtain ⟨rfl, hP, hKW⟩ := hv
  have hK := hKW.1
  have hN := hKW.2.2
  have hx := B.exec
  have hb := B.bytes
  have hr := B.returns
  have hts := atoms_spec (ws := wW_runs) B.pre
  have hown : s.vm.findClass "WindingRaster" = some m.cls := findClass_of_methodNamed B.named
  have hlocks := B.notSynchronized
  have hP : va_P D vwCl [(wr, .inr (0, [.int (iI (cs : Int)), .int (iI (rs : Int)), .ref ag, .ref oo, .ref cp, .ref aw, .ref pl])), (cp, .inr (2, [.ref ai, .ref at_, .int (iI (sv : Int)), .int (iI (en : Int))])), (ai, .inl (cA, 24000, .inl (iA fI))), (at_, .inl (cA, 13, .inl (iA fS)))] s.heap := hP
  have in_0 : ∀ w ∈ wsW, w ∈ wW_runs := fun w h => List.mem_cons_of_mem _ (in0_W w h)
  have fl_47 := (hts _ (List.mem_cons_of_mem _ vm_73))
  have in_2 : ∀ w ∈ wsC, w ∈ wW_runs := fun w h => List.mem_cons_of_mem _ (in0_C w h)
  have fl_130 := va_Nw.use (A := [.ref wr].toArray) rfl (hN _ vn_6)
  have hl := lv_entry ([.ref wr]) (n := 1) (Nat.le_of_ble_eq_true rfl)
  rw [lg_entry_eq]
  generalize (lg_sl ([.ref wr]) ++ List.replicate (1 - (lg_sl ([.ref wr])).length) Slot.unset).toArray = ls at hl ⊢
  have hl : lv_has ls 1 [(0, .ref wr)] := hl
  generalize hQ : MQ below (qI (fun z => z = (en : Int))) [.ref wr].toArray s 0 0 (fun _ => False) = QQ
  refine lv_aload_n hx hb dW_runs_0 rfl (lv_at hl 0 rfl) ?_
  refine va_get (ci := 0) (v := .ref cp) (C := "WindingRaster") (T := TW) (N := 7) hx hb hts in_0 hown hK hP 0 rfl rfl 4 (by decide) fl_47 (fun _ h9 => h9) rfl dW_runs_1 ?_
  refine va_getN (ci := 2) (v := .int (iI (en : Int))) (C := "WindingRaster$ClipPile") (T := TC) (N := 4) hx hb hts in_2 hown hK hP 1 rfl rfl 3 (by decide) fl_130 (fun _ h9 => h9) rfl dW_runs_4 ?_
  rw [← hQ]
  exact rd_iret hx hb hr hlocks rfl dW_runs_7

def rm_c_count : Room := { frames := 1, cells := 0, slots := 0, locals := 22 }
set_option maxHeartbeats 4000000 in
set_option maxRecDepth 100000 in
theorem c_count (l : Launch) (D : va_G) (cA cB cS : ClassId) (wr : Nat) (cs : Nat) (rs : Nat) (ag : Nat) (oo : Nat) (cp : Nat) (aw : Nat) (pl : Nat) (fG : Nat → Int) (a1 : Int) (a2 : Int) (h1 : i32 a1) (h2 : i32 a2) (h3 : cs ≤ 256) (h4 : rs ≤ 256) (h5 : cs * rs ≤ 65536) (h7 : 0 < cs) (h8 : ∀ p, p < cs * rs → 0 ≤ fG p ∧ fG p ≤ 255) : Met l yW_count wW_count rm_c_count (pR [.ref wr, .int (iI a1), .int (iI a2)] D vwCl (vwTy cA cB cS) vwNw [(wr, .inr (0, [.int (iI (cs : Int)), .int (iI (rs : Int)), .ref ag, .ref oo, .ref cp, .ref aw, .ref pl])), (ag, .inl (cA, cs * rs, .inl (iA fG)))]) (qI (fun z => ((0 ≤ a1 ∧ a1 < (rs : Int)) ∧ z = sm (fun k => if fG (a1.toNat * cs + k) = a2 then 1 else 0) cs) ∨ (¬ (0 ≤ a1 ∧ a1 < (rs : Int)) ∧ z = -1))) 0 0 (fun _ => False) := by
  refine Met.ofW (cc := bW_count) (maxL := 5) (ret := (some .int)) (by decide +kernel) rfl ?_
  intro p e s m args below meth c s₁ B hml hv
  obtain ⟨rfl, hP, hKW⟩ := hv
  have hK := hKW.1
  have hN := hKW.2.2
  have hx := B.exec
  have hb := B.bytes
  have hr := B.returns
  have hts := atoms_spec (ws := wW_count) B.pre
  have hown : s.vm.findClass "WindingRaster" = some m.cls := findClass_of_methodNamed B.named
  have hlocks := B.notSynchronized
  have hP : va_P D vwCl [(wr, .inr (0, [.int (iI (cs : Int)), .int (iI (rs : Int)), .ref ag, .ref oo, .ref cp, .ref aw, .ref pl])), (ag, .inl (cA, cs * rs, .inl (iA fG)))] s.heap := hP
  have in_0 : ∀ w ∈ wsW, w ∈ wW_count := fun w h => List.mem_cons_of_mem _ (in0_W w h)
  have fl_18 := (hts _ (List.mem_cons_of_mem _ vm_69))
  have fl_25 := (hts _ (List.mem_cons_of_mem _ vm_71))
  have hl := lv_entry ([.ref wr, .int (iI a1), .int (iI a2)]) (n := 5) (Nat.le_of_ble_eq_true rfl)
  rw [lg_entry_eq]
  generalize (lg_sl ([.ref wr, .int (iI a1), .int (iI a2)]) ++ List.replicate (5 - (lg_sl ([.ref wr, .int (iI a1), .int (iI a2)])).length) Slot.unset).toArray = ls at hl ⊢
  have hl : lv_has ls 5 [(0, .ref wr), (1, .int (iI a1)), (2, .int (iI a2))] := hl
  generalize hQ : MQ below (qI (fun z => ((0 ≤ a1 ∧ a1 < (rs : Int)) ∧ z = sm (fun k => if fG (a1.toNat * cs + k) = a2 then 1 else 0) cs) ∨ (¬ (0 ≤ a1 ∧ a1 < (rs : Int)) ∧ z = -1))) [.ref wr, .int (iI a1), .int (iI a2)].toArray s 0 0 (fun _ => False) = QQ
  refine lv_aload_n hx hb dW_count_0 rfl (lv_at hl 0 rfl) ?_
  refine ii_iconst (n := 0) hx hb dW_count_1 ?_
  refine lv_iload_n hx hb dW_count_2 rfl (lv_at hl 1 rfl) ?_
  refine cs_i (va_runV (As := [.int (iI 0), .int (iI a1)]) (rest := []) ⟨hx, hb, hml, hown, hts⟩ (c_hasPixel l D cA cB cS wr cs rs ag oo cp aw pl 0 a1 (by omega) (by omega) (by omega) (by omega)) ⟨(callB_of 2 hts (gIn vm_129) rfl rfl rfl (hts _ (List.mem_cons_of_mem _ vm_1)) (hts _ (List.mem_cons_of_mem _ vm_127)) (by decide +kernel) ⟨Nat.le_of_ble_eq_true rfl, Nat.le_of_ble_eq_true rfl⟩), (hts _ (List.mem_cons_of_mem _ vm_128)), (hts _ (List.mem_cons_of_mem _ vm_390))⟩ (pR.preV (va_recv hK hP (ci := 0) (q0 := 0) rfl rfl) (hP.sub [0] rfl) hKW) rfl rfl hl.1 rfl (lv_room (Nat.le_of_ble_eq_true rfl)) dW_count_3 ⟨Nat.le_of_ble_eq_true rfl, Nat.le_of_ble_eq_true rfl⟩) (fun z_1 hz_1 => ?_)
  refine ii_if_ne (tgt := 11) hx hb dW_count_6 (by decide) (by omega) (fun c6 => ?_) (fun c6 => ?_)
  · obtain ⟨kr, hkr⟩ : ∃ kr : Nat, a1 = (kr : Int) := ⟨a1.toNat, by omega⟩
    rw [hkr] at hl
    have hix := idx_le (cs := cs) (r := kr) (rs := rs) (by omega)
    refine ii_iconst (n := 0) hx hb dW_count_11 ?_
    refine lv_istore_n (lv' := [(3, .int (iI 0)), (0, .ref wr), (1, .int (iI (kr : Int))), (2, .int (iI a2))]) hx hb dW_count_12 rfl hl (by decide) rfl (fun ls hl => ?_)
    refine ii_iconst (n := 0) hx hb dW_count_13 ?_
    refine lv_istore (lv' := [(4, .int (iI 0)), (3, .int (iI 0)), (0, .ref wr), (1, .int (iI (kr : Int))), (2, .int (iI a2))]) hx hb dW_count_14 hl (by decide) rfl (fun ls hl => ?_)
    have lp16 : ∀ (n_ : Nat) (k : Nat) (fo : Nat), (k ≤ cs) → ((fo : Int) = sm (fun k => if fG (kr * cs + k) = a2 then 1 else 0) k) → (cs - k) < n_ → ∀ ls : Array Slot, lv_has ls 5 [(4, .int (iI (k : Int))), (3, .int (iI (fo : Int))), (0, .ref wr), (1, .int (iI (kr : Int))), (2, .int (iI a2))] → W p l e (headSpec wW_count rm_c_count).room s m [.ref wr, .int (iI a1), .int (iI a2)].toArray below meth c s.heap [] 0 0 QQ (F0 m 16 ls []) := by
      intro n_
      induction n_ with
      | zero =>
        intro k fo k1 k2 hm_
        exact absurd hm_ (Nat.not_lt_zero _)
      | succ n_ ih_lp16 =>
        intro k fo k1 k2 hm_lp16 ls hl
        refine lv_iload hx hb dW_count_16 (lv_at hl 0 rfl) ?_
        refine lv_aload_n hx hb dW_count_18 rfl (lv_at hl 2 rfl) ?_
        refine va_get (ci := 0) (v := .int (iI (cs : Int))) (C := "WindingRaster") (T := TW) (N := 7) hx hb hts in_0 hown hK hP 0 rfl rfl 0 (by decide) fl_18 (fun _ h9 => h9) rfl dW_count_19 ?_
        refine ii_icmp_ge (tgt := 52) hx hb dW_count_22 (by decide) (by omega) (by omega) (fun c22 => ?_) (fun c22 => ?_)
        · refine lv_iload_n hx hb dW_count_52 rfl (lv_at hl 1 rfl) ?_
          rw [← hQ]
          exact rd_iret hx hb hr hlocks (Or.inl ⟨by omega, by rw [show a1.toNat = kr by omega, k2, show k = cs by omega]⟩) dW_count_53
        · have g8 := h8 (kr * cs + k) (by omega)
          refine lv_aload_n hx hb dW_count_25 rfl (lv_at hl 2 rfl) ?_
          refine va_get (ci := 0) (v := .ref ag) (C := "WindingRaster") (T := TW) (N := 7) hx hb hts in_0 hown hK hP 0 rfl rfl 2 (by decide) fl_25 (fun _ h9 => h9) rfl dW_count_26 ?_
          refine lv_iload_n hx hb dW_count_29 rfl (lv_at hl 3 rfl) ?_
          refine lv_aload_n hx hb dW_count_30 rfl (lv_at hl 2 rfl) ?_
          refine va_get (ci := 0) (v := .int (iI (cs : Int))) (C := "WindingRaster") (T := TW) (N := 7) hx hb hts in_0 hown hK hP 0 rfl rfl 0 (by decide) fl_18 (fun _ h9 => h9) rfl dW_count_31 ?_
          refine ii_imul hx hb dW_count_34 ?_
          refine ii_top (y := ((kr * cs : Nat) : Int)) (by push_cast; rfl) ?_
          refine lv_iload hx hb dW_count_35 (lv_at hl 0 rfl) ?_
          refine ii_iadd hx hb dW_count_37 ?_
          refine ii_top (y := (((kr * cs) + k : Nat) : Int)) (by push_cast; rfl) ?_
          refine ii_iald hx hb hK hP 1 0 rfl rfl ((kr * cs) + k) rfl (by omega) (by omega) dW_count_38 ?_
          refine lv_iload_n hx hb dW_count_39 rfl (lv_at hl 4 rfl) ?_
          refine ii_icmp_ne (tgt := 46) hx hb dW_count_40 (by decide) (by omega) (by omega) (fun c40 => ?_) (fun c40 => ?_)
          · refine lv_iinc (v := iI ((k + 1 : Nat) : Int)) (lv' := [(4, .int (iI ((k + 1 : Nat) : Int))), (3, .int (iI (fo : Int))), (0, .ref wr), (1, .int (iI (kr : Int))), (2, .int (iI a2))]) hx hb dW_count_46 hl (k := 0) rfl (iI_inc _ 1 (by omega)) (by decide) rfl (fun ls hl => ?_)
            refine lv_goto (tgt := 16) hx hb dW_count_49 (by decide) ?_
            exact ih_lp16 (k + 1) fo (by omega) (by show _ = sm _ k + _; rw [← k2]; dsimp only; rw [if_neg (by omega)]; omega) (by omega) _ (lv_sub hl [0, 1, 2, 3, 4] rfl)
          · refine lv_iinc (v := iI ((fo + 1 : Nat) : Int)) (lv' := [(3, .int (iI ((fo + 1 : Nat) : Int))), (4, .int (iI (k : Int))), (0, .ref wr), (1, .int (iI (kr : Int))), (2, .int (iI a2))]) hx hb dW_count_43 hl (k := 1) rfl (iI_inc _ 1 (by omega)) (by decide) rfl (fun ls hl => ?_)
            refine lv_iinc (v := iI ((k + 1 : Nat) : Int)) (lv' := [(4, .int (iI ((k + 1 : Nat) : Int))), (3, .int (iI ((fo + 1 : Nat) : Int))), (0, .ref wr), (1, .int (iI (kr : Int))), (2, .int (iI a2))]) hx hb dW_count_46 hl (k := 1) rfl (iI_inc _ 1 (by omega)) (by decide) rfl (fun ls hl => ?_)
            refine lv_goto (tgt := 16) hx hb dW_count_49 (by decide) ?_
            exact ih_lp16 (k + 1) (fo + 1) (by omega) (by show _ = sm _ k + _; rw [← k2]; dsimp only; rw [if_pos (by omega)]; omega) (by omega) _ (lv_sub hl [0, 1, 2, 3, 4] rfl)
    exact lp16 (cs - 0 + 1) 0 0 (by omega) rfl (Nat.lt_succ_self _) _ (lv_sub hl [0, 1, 2, 3, 4] rfl)
  · refine ii_iconst (n := (-1)) hx hb dW_count_9 ?_
    rw [← hQ]
    exact rd_iret hx hb hr hlocks (Or.inr ⟨by omega, rfl⟩) dW_count_10

def rm_c_flood : Room := { frames := 3, cells := 0, slots := 0, locals := 69 }
set_option maxHeartbeats 4000000 in
set_option maxRecDepth 100000 in
theorem c_flood (l : Launch) (D : va_G) (cA cB cS : ClassId) (wr : Nat) (cs : Nat) (rs : Nat) (ag : Nat) (oo : Nat) (cp : Nat) (aw : Nat) (pl : Nat) (fG : Nat → Int) (ai : Nat) (at_ : Nat) (fI : Nat → Int) (fS : Nat → Int) (sv : Nat) (en : Nat) (st0 : Nat) (L : List Run3) (a1 : Int) (h1 : i32 a1) (h3 : cs ≤ 256) (h4 : rs ≤ 256) (h5 : cs * rs ≤ 65536) (h11 : segL fI st0 L) (h12 : st0 + L.length = en) (h13 : ∀ x ∈ L, runOk cs rs x) (h14 : en ≤ 24000) (h15 : sv ≤ 12) (h16 : fS sv = (st0 : Int)) (sz : Nat) : Met l yW_flood wW_flood rm_c_flood (pW [.ref wr, .int (iI a1)] D vwCl (vwTy cA cB cS) vwNw [(wr, .inr (0, [.int (iI (cs : Int)), .int (iI (rs : Int)), .ref ag, .ref oo, .ref cp, .ref aw, .ref pl])), (ag, .inl (cA, cs * rs, .inl (iA fG))), (cp, .inr (2, [.ref ai, .ref at_, .int (iI (sv : Int)), .int (iI (en : Int))])), (ai, .inl (cA, 24000, .inl (iA fI))), (at_, .inl (cA, 13, .inl (iA fS)))] sz) (qW (S := (Nat → Int)) (fun (z : Int) (fG1 : (Nat → Int)) => (z = -1 ∧ ¬ (0 ≤ a1 ∧ a1 ≤ 255) ∧ fG1 = fG) ∨ ((0 ≤ a1 ∧ a1 ≤ 255) ∧ z = ((lenS L : Nat) : Int) ∧ ∀ p, fG1 p = paL cs a1 L fG p)) D vwCl [(wr, .inr (0, [.int (iI (cs : Int)), .int (iI (rs : Int)), .ref ag, .ref oo, .ref cp, .ref aw, .ref pl])), (ag, .inl (cA, cs * rs, .inl (iA fG))), (cp, .inr (2, [.ref ai, .ref at_, .int (iI (sv : Int)), .int (iI (en : Int))])), (ai, .inl (cA, 24000, .inl (iA fI))), (at_, .inl (cA, 13, .inl (iA fS)))] sz (fun fG1 : (Nat → Int) => [(wr, .inr (0, [.int (iI (cs : Int)), .int (iI (rs : Int)), .ref ag, .ref oo, .ref cp, .ref aw, .ref pl])), (ag, .inl (cA, cs * rs, .inl (iA fG1))), (cp, .inr (2, [.ref ai, .ref at_, .int (iI (sv : Int)), .int (iI (en : Int))])), (ai, .inl (cA, 24000, .inl (iA fI))), (at_, .inl (cA, 13, .inl (iA fS)))])) 0 0 (va_A [(wr, .inr (0, [.int (iI (cs : Int)), .int (iI (rs : Int)), .ref ag, .ref oo, .ref cp, .ref aw, .ref pl])), (ag, .inl (cA, cs * rs, .inl (iA fG))), (cp, .inr (2, [.ref ai, .ref at_, .int (iI (sv : Int)), .int (iI (en : Int))])), (ai, .inl (cA, 24000, .inl (iA fI))), (at_, .inl (cA, 13, .inl (iA fS)))] sz) := by
  refine Met.ofW (cc := bW_flood) (maxL := 2) (ret := (some .int)) (by decide +kernel) rfl ?_
  intro p e s m args below meth c s₁ B hml hv
  obtain ⟨rfl, hsz, hP, hKW, hD0⟩ := hv
  have hK := hKW.1
  have hN := hKW.2.2
  have hx := B.exec
  have hb := B.bytes
  have hr := B.returns
  have hts := atoms_spec (ws := wW_flood) B.pre
  have hown : s.vm.findClass "WindingRaster" = some m.cls := findClass_of_methodNamed B.named
  have hlocks := B.notSynchronized
  subst hsz
  have hD := hD0.self (sz := s.heap.size)
  obtain ⟨A, hAe⟩ : ∃ A, va_A [(wr, .inr (0, [.int (iI (cs : Int)), .int (iI (rs : Int)), .ref ag, .ref oo, .ref cp, .ref aw, .ref pl])), (ag, .inl (cA, cs * rs, .inl (iA fG))), (cp, .inr (2, [.ref ai, .ref at_, .int (iI (sv : Int)), .int (iI (en : Int))])), (ai, .inl (cA, 24000, .inl (iA fI))), (at_, .inl (cA, 13, .inl (iA fS)))] s.heap.size = A := ⟨_, rfl⟩
  rw [hAe] at hD
  have hA : ∀ q : Nat, s.heap.size ≤ q → A q := fun q h => by rw [← hAe]; exact Or.inr h
  have hS : va_S A s.heap s.heap [] := va_S.rf
  have hP : va_P D vwCl [(wr, .inr (0, [.int (iI (cs : Int)), .int (iI (rs : Int)), .ref ag, .ref oo, .ref cp, .ref aw, .ref pl])), (ag, .inl (cA, cs * rs, .inl (iA fG))), (cp, .inr (2, [.ref ai, .ref at_, .int (iI (sv : Int)), .int (iI (en : Int))])), (ai, .inl (cA, 24000, .inl (iA fI))), (at_, .inl (cA, 13, .inl (iA fS)))] s.heap := hP
  have in_0 : ∀ w ∈ wsW, w ∈ wW_flood := fun w h => List.mem_cons_of_mem _ (in0_W w h)
  have fl_47 := (hts _ (List.mem_cons_of_mem _ vm_73))
  have in_2 : ∀ w ∈ wsC, w ∈ wW_flood := fun w h => List.mem_cons_of_mem _ (in0_C w h)
  have fl_133 := va_Nw.use (A := [.ref wr, .int (iI a1)].toArray) rfl (hN _ vn_4)
  have fl_130 := va_Nw.use (A := [.ref wr, .int (iI a1)].toArray) rfl (hN _ vn_6)
  have hl := lv_entry ([.ref wr, .int (iI a1)]) (n := 2) (Nat.le_of_ble_eq_true rfl)
  rw [lg_entry_eq]
  generalize (lg_sl ([.ref wr, .int (iI a1)]) ++ List.replicate (2 - (lg_sl ([.ref wr, .int (iI a1)])).length) Slot.unset).toArray = ls at hl ⊢
  have hl : lv_has ls 2 [(0, .ref wr), (1, .int (iI a1))] := hl
  generalize hQ : MQ below (qW (S := (Nat → Int)) (fun (z : Int) (fG1 : (Nat → Int)) => (z = -1 ∧ ¬ (0 ≤ a1 ∧ a1 ≤ 255) ∧ fG1 = fG) ∨ ((0 ≤ a1 ∧ a1 ≤ 255) ∧ z = ((lenS L : Nat) : Int) ∧ ∀ p, fG1 p = paL cs a1 L fG p)) D vwCl [(wr, .inr (0, [.int (iI (cs : Int)), .int (iI (rs : Int)), .ref ag, .ref oo, .ref cp, .ref aw, .ref pl])), (ag, .inl (cA, cs * rs, .inl (iA fG))), (cp, .inr (2, [.ref ai, .ref at_, .int (iI (sv : Int)), .int (iI (en : Int))])), (ai, .inl (cA, 24000, .inl (iA fI))), (at_, .inl (cA, 13, .inl (iA fS)))] s.heap.size (fun fG1 : (Nat → Int) => [(wr, .inr (0, [.int (iI (cs : Int)), .int (iI (rs : Int)), .ref ag, .ref oo, .ref cp, .ref aw, .ref pl])), (ag, .inl (cA, cs * rs, .inl (iA fG1))), (cp, .inr (2, [.ref ai, .ref at_, .int (iI (sv : Int)), .int (iI (en : Int))])), (ai, .inl (cA, 24000, .inl (iA fI))), (at_, .inl (cA, 13, .inl (iA fS)))])) [.ref wr, .int (iI a1)].toArray s 0 0 (va_A [(wr, .inr (0, [.int (iI (cs : Int)), .int (iI (rs : Int)), .ref ag, .ref oo, .ref cp, .ref aw, .ref pl])), (ag, .inl (cA, cs * rs, .inl (iA fG))), (cp, .inr (2, [.ref ai, .ref at_, .int (iI (sv : Int)), .int (iI (en : Int))])), (ai, .inl (cA, 24000, .inl (iA fI))), (at_, .inl (cA, 13, .inl (iA fS)))] s.heap.size) = QQ
  refine lv_iload_n hx hb dW_flood_0 rfl (lv_at hl 1 rfl) ?_
  refine cs_i (va_runS (As := [.int (iI a1)]) (rest := []) ⟨hx, hb, hml, hown, hts⟩ (c_isGray l D cA cB cS a1 (by omega)) ⟨(callB_of 1 hts (gIn vm_155) rfl rfl rfl (hts _ (List.mem_cons_of_mem _ vm_1)) (hts _ (List.mem_cons_of_mem _ vm_153)) (by decide +kernel) ⟨Nat.le_of_ble_eq_true rfl, Nat.le_of_ble_eq_true rfl⟩), (hts _ (List.mem_cons_of_mem _ vm_154))⟩ (pR.pre (hP.sub [] rfl) hKW) rfl rfl hl.1 rfl (lv_room (Nat.le_of_ble_eq_true rfl)) dW_flood_1 ⟨Nat.le_of_ble_eq_true rfl, Nat.le_of_ble_eq_true rfl⟩) (fun z_1 hz_1 => ?_)
  refine ii_if_ne (tgt := 9) hx hb dW_flood_4 (by decide) (by omega) (fun c4 => ?_) (fun c4 => ?_)
  · refine lv_aload_n hx hb dW_flood_9 rfl (lv_at hl 0 rfl) ?_
    refine lv_aload_n hx hb dW_flood_10 rfl (lv_at hl 0 rfl) ?_
    refine va_get (ci := 0) (v := .ref cp) (C := "WindingRaster") (T := TW) (N := 7) hx hb hts in_0 hown hK hP 0 rfl rfl 4 (by decide) fl_47 (fun _ h9 => h9) rfl dW_flood_11 ?_
    refine va_getN (ci := 2) (v := .ref ai) (C := "WindingRaster$ClipPile") (T := TC) (N := 4) hx hb hts in_2 hown hK hP 2 rfl rfl 0 (by decide) fl_133 (fun _ h9 => h9) rfl dW_flood_14 ?_
    refine lv_aload_n hx hb dW_flood_17 rfl (lv_at hl 0 rfl) ?_
    refine va_get (ci := 0) (v := .ref cp) (C := "WindingRaster") (T := TW) (N := 7) hx hb hts in_0 hown hK hP 0 rfl rfl 4 (by decide) fl_47 (fun _ h9 => h9) rfl dW_flood_18 ?_
    refine cs_i (va_runVN (As := []) (rest := [.ref ai, .ref wr]) ⟨hx, hb, hml, hown, hts⟩ (c_start l D cA cB cS cp ai at_ fI fS sv en st0 h15 h16) ⟨(va_cnB 0 hts (gIn vm_160) rfl rfl rfl (hN _ vn_18) (hts _ (List.mem_cons_of_mem _ vm_5)) (by decide +kernel) ⟨Nat.le_of_ble_eq_true rfl, Nat.le_of_ble_eq_true rfl⟩), (hts _ (List.mem_cons_of_mem _ vm_159)), (hts _ (List.mem_cons_of_mem _ vm_395))⟩ (pR.preV (va_recv hK hP (ci := 2) (q0 := 2) rfl rfl) (hP.sub [2, 3, 4] rfl) hKW) rfl rfl hl.1 rfl (lv_room (Nat.le_of_ble_eq_true rfl)) dW_flood_21 ⟨Nat.le_of_ble_eq_true rfl, Nat.le_of_ble_eq_true rfl⟩) (fun z_2 hz_2 => ?_)
    subst hz_2
    refine lv_aload_n hx hb dW_flood_24 rfl (lv_at hl 0 rfl) ?_
    refine va_get (ci := 0) (v := .ref cp) (C := "WindingRaster") (T := TW) (N := 7) hx hb hts in_0 hown hK hP 0 rfl rfl 4 (by decide) fl_47 (fun _ h9 => h9) rfl dW_flood_25 ?_
    refine va_getN (ci := 2) (v := .int (iI (en : Int))) (C := "WindingRaster$ClipPile") (T := TC) (N := 4) hx hb hts in_2 hown hK hP 2 rfl rfl 3 (by decide) fl_130 (fun _ h9 => h9) rfl dW_flood_28 ?_
    refine lv_iload_n hx hb dW_flood_31 rfl (lv_at hl 1 rfl) ?_
    refine cw_i (wc := [(wr, .inr (0, [.int (iI (cs : Int)), .int (iI (rs : Int)), .ref ag, .ref oo, .ref cp, .ref aw, .ref pl])), (ai, .inl (cA, 24000, .inl (iA fI))), (ag, .inl (cA, cs * rs, .inl (iA fG)))]) (wr := [(cp, .inr (2, [.ref ai, .ref at_, .int (iI (sv : Int)), .int (iI (en : Int))])), (at_, .inl (cA, 13, .inl (iA fS)))]) hP hD hS hA [0, 3, 1] [2, 4] rfl rfl (by decide) (by decide) (va_runV (As := [.ref ai, .int (iI (st0 : Int)), .int (iI (en : Int)), .int (iI a1)]) (rest := []) ⟨hx, hb, hml, hown, hts⟩ (c_paint l D cA cB cS wr cs rs ag oo cp aw pl ai 24000 fI fG st0 en a1 L h11 h12 h13 (by omega) (by omega) (by omega) (by omega) (by omega) _) ⟨(callB_of 4 hts (gIn vm_181) rfl rfl rfl (hts _ (List.mem_cons_of_mem _ vm_1)) (hts _ (List.mem_cons_of_mem _ vm_179)) (by decide +kernel) ⟨Nat.le_of_ble_eq_true rfl, Nat.le_of_ble_eq_true rfl⟩), (hts _ (List.mem_cons_of_mem _ vm_180)), (hts _ (List.mem_cons_of_mem _ vm_399))⟩ (pW.preV (va_recv hK hP (ci := 0) (q0 := 0) rfl rfl) (hP.sub [0, 3, 1] rfl) (hD.sub [0, 3, 1] (by decide) rfl) hKW) rfl rfl hl.1 rfl (lv_room (Nat.le_of_ble_eq_true rfl)) dW_flood_32 ⟨Nat.le_of_ble_eq_true rfl, Nat.le_of_ble_eq_true rfl⟩) (fun zp u_3 H locs hzp hP hD hS => ?_)
    obtain ⟨fG1, rfl⟩ : ∃ z_, z_ = u_3 := ⟨_, rfl⟩
    try dsimp only at hzp
    have hP : va_P D vwCl [(cp, .inr (2, [.ref ai, .ref at_, .int (iI (sv : Int)), .int (iI (en : Int))])), (at_, .inl (cA, 13, .inl (iA fS))), (wr, .inr (0, [.int (iI (cs : Int)), .int (iI (rs : Int)), .ref ag, .ref oo, .ref cp, .ref aw, .ref pl])), (ai, .inl (cA, 24000, .inl (iA fI))), (ag, .inl (cA, cs * rs, .inl (iA fG1)))] H := hP
    have hD : va_D A [(cp, .inr (2, [.ref ai, .ref at_, .int (iI (sv : Int)), .int (iI (en : Int))])), (at_, .inl (cA, 13, .inl (iA fS))), (wr, .inr (0, [.int (iI (cs : Int)), .int (iI (rs : Int)), .ref ag, .ref oo, .ref cp, .ref aw, .ref pl])), (ai, .inl (cA, 24000, .inl (iA fI))), (ag, .inl (cA, cs * rs, .inl (iA fG1)))] := hD
    rw [← hQ]
    exact wr_iret fG1 hx hb hr hlocks hAe (hP.sub [2, 4, 0, 3, 1] rfl) (hD.sub [2, 4, 0, 3, 1] (by decide) rfl) hS (Or.inr ⟨by omega, hzp⟩) dW_flood_35
  · refine ii_iconst (n := (-1)) hx hb dW_flood_7 ?_
    rw [← hQ]
    exact wr_iret fG hx hb hr hlocks hAe (hP.sub [0, 1, 2, 3, 4] rfl) (hD.sub [0, 1, 2, 3, 4] (by decide) rfl) hS (Or.inl ⟨rfl, by omega, rfl⟩) dW_flood_8

def rm_c_fill : Room := { frames := 4, cells := 0, slots := 0, locals := 109 }
set_option maxHeartbeats 4000000 in
set_option maxRecDepth 100000 in
theorem c_fill (l : Launch) (D : va_G) (cA cB cS : ClassId) (wr : Nat) (cs : Nat) (rs : Nat) (ag : Nat) (oo : Nat) (cp : Nat) (aw : Nat) (pl : Nat) (fG : Nat → Int) (ax : Nat) (ay : Nat) (an : Nat) (fX : Nat → Int) (fY : Nat → Int) (fN : Nat → Int) (np : Nat) (l0 : Nat) (ai : Nat) (at_ : Nat) (fI : Nat → Int) (fS : Nat → Int) (sv : Nat) (en : Nat) (fW : Nat → Int) (ap : Nat) (fP : Nat → Int) (pn : Nat) (pm : Nat) (st0 : Nat) (L : List Run3) (a1 : Int) (a2 : Int) (h1 : i32 a1) (h3 : cs ≤ 256) (h4 : rs ≤ 256) (h5 : cs * rs ≤ 65536) (h6 : ∀ i, i < np → (-536870912 ≤ fX i ∧ fX i ≤ 536870912) ∧ (-536870912 ≤ fY i ∧ fY i ≤ 536870912)) (h7 : ∀ i, i < np → 0 ≤ fN i ∧ fN i < (np : Int)) (h8 : np ≤ 4096) (h9 : 0 < cs) (h10 : (cutA (gW fX fY fN np a1) L).length ≤ pm) (h17 : pm < 2147483648) (h11 : segL fI st0 L) (h12 : st0 + L.length = en) (h13 : ∀ x ∈ L, runOk cs rs x) (h14 : en ≤ 24000) (h15 : sv ≤ 12) (h16 : fS sv = (st0 : Int)) (h2 : i32 a2) (h18 : ∀ x ∈ cutA (gW fX fY fN np a1) L, runOk cs rs x) (sz : Nat) : Met l yW_fill wW_fill rm_c_fill (pW [.ref wr, .int (iI a1), .int (iI a2)] D vwCl (vwTy cA cB cS) vwNw [(wr, .inr (0, [.int (iI (cs : Int)), .int (iI (rs : Int)), .ref ag, .ref oo, .ref cp, .ref aw, .ref pl])), (ag, .inl (cA, cs * rs, .inl (iA fG))), (oo, .inr (1, [.ref ax, .ref ay, .ref an, .int (iI (np : Int)), .int (iI (l0 : Int))])), (ax, .inl (cA, 4096, .inl (iA fX))), (ay, .inl (cA, 4096, .inl (iA fY))), (an, .inl (cA, 4096, .inl (iA fN))), (cp, .inr (2, [.ref ai, .ref at_, .int (iI (sv : Int)), .int (iI (en : Int))])), (ai, .inl (cA, 24000, .inl (iA fI))), (at_, .inl (cA, 13, .inl (iA fS))), (aw, .inl (cA, cs, .inl (iA fW))), (pl, .inr (3, [.ref ap, .int (iI (pn : Int))])), (ap, .inl (cA, pm, .inl (iA fP)))] sz) (qW (S := (Nat → Int) × (Nat → Int) × (Nat → Int) × Nat) (fun (z : Int) (u : (Nat → Int) × (Nat → Int) × (Nat → Int) × Nat) => (z = -1 ∧ ¬ ((a1 = 0 ∨ a1 = 1) ∧ 0 ≤ a2 ∧ a2 ≤ 255) ∧ u.1 = fG) ∨ (((a1 = 0 ∨ a1 = 1) ∧ 0 ≤ a2 ∧ a2 ≤ 255) ∧ z = ((lenS (cutA (gW fX fY fN np a1) L) : Nat) : Int) ∧ ∀ p, u.1 p = paL cs a2 (cutA (gW fX fY fN np a1) L) fG p)) D vwCl [(wr, .inr (0, [.int (iI (cs : Int)), .int (iI (rs : Int)), .ref ag, .ref oo, .ref cp, .ref aw, .ref pl])), (ag, .inl (cA, cs * rs, .inl (iA fG))), (oo, .inr (1, [.ref ax, .ref ay, .ref an, .int (iI (np : Int)), .int (iI (l0 : Int))])), (ax, .inl (cA, 4096, .inl (iA fX))), (ay, .inl (cA, 4096, .inl (iA fY))), (an, .inl (cA, 4096, .inl (iA fN))), (cp, .inr (2, [.ref ai, .ref at_, .int (iI (sv : Int)), .int (iI (en : Int))])), (ai, .inl (cA, 24000, .inl (iA fI))), (at_, .inl (cA, 13, .inl (iA fS))), (aw, .inl (cA, cs, .inl (iA fW))), (pl, .inr (3, [.ref ap, .int (iI (pn : Int))])), (ap, .inl (cA, pm, .inl (iA fP)))] sz (fun u : (Nat → Int) × (Nat → Int) × (Nat → Int) × Nat => [(wr, .inr (0, [.int (iI (cs : Int)), .int (iI (rs : Int)), .ref ag, .ref oo, .ref cp, .ref aw, .ref pl])), (ag, .inl (cA, cs * rs, .inl (iA u.1))), (oo, .inr (1, [.ref ax, .ref ay, .ref an, .int (iI (np : Int)), .int (iI (l0 : Int))])), (ax, .inl (cA, 4096, .inl (iA fX))), (ay, .inl (cA, 4096, .inl (iA fY))), (an, .inl (cA, 4096, .inl (iA fN))), (cp, .inr (2, [.ref ai, .ref at_, .int (iI (sv : Int)), .int (iI (en : Int))])), (ai, .inl (cA, 24000, .inl (iA fI))), (at_, .inl (cA, 13, .inl (iA fS))), (aw, .inl (cA, cs, .inl (iA u.2.1))), (pl, .inr (3, [.ref ap, .int (iI ((u.2.2.2 : Nat) : Int))])), (ap, .inl (cA, pm, .inl (iA u.2.2.1)))])) 0 0 (va_A [(wr, .inr (0, [.int (iI (cs : Int)), .int (iI (rs : Int)), .ref ag, .ref oo, .ref cp, .ref aw, .ref pl])), (ag, .inl (cA, cs * rs, .inl (iA fG))), (oo, .inr (1, [.ref ax, .ref ay, .ref an, .int (iI (np : Int)), .int (iI (l0 : Int))])), (ax, .inl (cA, 4096, .inl (iA fX))), (ay, .inl (cA, 4096, .inl (iA fY))), (an, .inl (cA, 4096, .inl (iA fN))), (cp, .inr (2, [.ref ai, .ref at_, .int (iI (sv : Int)), .int (iI (en : Int))])), (ai, .inl (cA, 24000, .inl (iA fI))), (at_, .inl (cA, 13, .inl (iA fS))), (aw, .inl (cA, cs, .inl (iA fW))), (pl, .inr (3, [.ref ap, .int (iI (pn : Int))])), (ap, .inl (cA, pm, .inl (iA fP)))] sz) := by
  refine Met.ofW (cc := bW_fill) (maxL := 3) (ret := (some .int)) (by decide +kernel) rfl ?_
  intro p e s m args below meth c s₁ B hml hv
  obtain ⟨rfl, hsz, hP, hKW, hD0⟩ := hv
  have hK := hKW.1
  have hN := hKW.2.2
  have hx := B.exec
  have hb := B.bytes
  have hr := B.returns
  have hts := atoms_spec (ws := wW_fill) B.pre
  have hown : s.vm.findClass "WindingRaster" = some m.cls := findClass_of_methodNamed B.named
  have hlocks := B.notSynchronized
  subst hsz
  have hD := hD0.self (sz := s.heap.size)
  obtain ⟨A, hAe⟩ : ∃ A, va_A [(wr, .inr (0, [.int (iI (cs : Int)), .int (iI (rs : Int)), .ref ag, .ref oo, .ref cp, .ref aw, .ref pl])), (ag, .inl (cA, cs * rs, .inl (iA fG))), (oo, .inr (1, [.ref ax, .ref ay, .ref an, .int (iI (np : Int)), .int (iI (l0 : Int))])), (ax, .inl (cA, 4096, .inl (iA fX))), (ay, .inl (cA, 4096, .inl (iA fY))), (an, .inl (cA, 4096, .inl (iA fN))), (cp, .inr (2, [.ref ai, .ref at_, .int (iI (sv : Int)), .int (iI (en : Int))])), (ai, .inl (cA, 24000, .inl (iA fI))), (at_, .inl (cA, 13, .inl (iA fS))), (aw, .inl (cA, cs, .inl (iA fW))), (pl, .inr (3, [.ref ap, .int (iI (pn : Int))])), (ap, .inl (cA, pm, .inl (iA fP)))] s.heap.size = A := ⟨_, rfl⟩
  rw [hAe] at hD
  have hA : ∀ q : Nat, s.heap.size ≤ q → A q := fun q h => by rw [← hAe]; exact Or.inr h
  have hS : va_S A s.heap s.heap [] := va_S.rf
  have hP : va_P D vwCl [(wr, .inr (0, [.int (iI (cs : Int)), .int (iI (rs : Int)), .ref ag, .ref oo, .ref cp, .ref aw, .ref pl])), (ag, .inl (cA, cs * rs, .inl (iA fG))), (oo, .inr (1, [.ref ax, .ref ay, .ref an, .int (iI (np : Int)), .int (iI (l0 : Int))])), (ax, .inl (cA, 4096, .inl (iA fX))), (ay, .inl (cA, 4096, .inl (iA fY))), (an, .inl (cA, 4096, .inl (iA fN))), (cp, .inr (2, [.ref ai, .ref at_, .int (iI (sv : Int)), .int (iI (en : Int))])), (ai, .inl (cA, 24000, .inl (iA fI))), (at_, .inl (cA, 13, .inl (iA fS))), (aw, .inl (cA, cs, .inl (iA fW))), (pl, .inr (3, [.ref ap, .int (iI (pn : Int))])), (ap, .inl (cA, pm, .inl (iA fP)))] s.heap := hP
  have in_0 : ∀ w ∈ wsW, w ∈ wW_fill := fun w h => List.mem_cons_of_mem _ (in0_W w h)
  have fl_59 := (hts _ (List.mem_cons_of_mem _ vm_75))
  have in_3 : ∀ w ∈ wsL, w ∈ wW_fill := fun w h => List.mem_cons_of_mem _ (in0_L w h)
  have fl_102 := va_Nw.use (A := [.ref wr, .int (iI a1), .int (iI a2)].toArray) rfl (hN _ vn_9)
  have fl_105 := va_Nw.use (A := [.ref wr, .int (iI a1), .int (iI a2)].toArray) rfl (hN _ vn_11)
  have hl := lv_entry ([.ref wr, .int (iI a1), .int (iI a2)]) (n := 3) (Nat.le_of_ble_eq_true rfl)
  rw [lg_entry_eq]
  generalize (lg_sl ([.ref wr, .int (iI a1), .int (iI a2)]) ++ List.replicate (3 - (lg_sl ([.ref wr, .int (iI a1), .int (iI a2)])).length) Slot.unset).toArray = ls at hl ⊢
  have hl : lv_has ls 3 [(0, .ref wr), (1, .int (iI a1)), (2, .int (iI a2))] := hl
  generalize hQ : MQ below (qW (S := (Nat → Int) × (Nat → Int) × (Nat → Int) × Nat) (fun (z : Int) (u : (Nat → Int) × (Nat → Int) × (Nat → Int) × Nat) => (z = -1 ∧ ¬ ((a1 = 0 ∨ a1 = 1) ∧ 0 ≤ a2 ∧ a2 ≤ 255) ∧ u.1 = fG) ∨ (((a1 = 0 ∨ a1 = 1) ∧ 0 ≤ a2 ∧ a2 ≤ 255) ∧ z = ((lenS (cutA (gW fX fY fN np a1) L) : Nat) : Int) ∧ ∀ p, u.1 p = paL cs a2 (cutA (gW fX fY fN np a1) L) fG p)) D vwCl [(wr, .inr (0, [.int (iI (cs : Int)), .int (iI (rs : Int)), .ref ag, .ref oo, .ref cp, .ref aw, .ref pl])), (ag, .inl (cA, cs * rs, .inl (iA fG))), (oo, .inr (1, [.ref ax, .ref ay, .ref an, .int (iI (np : Int)), .int (iI (l0 : Int))])), (ax, .inl (cA, 4096, .inl (iA fX))), (ay, .inl (cA, 4096, .inl (iA fY))), (an, .inl (cA, 4096, .inl (iA fN))), (cp, .inr (2, [.ref ai, .ref at_, .int (iI (sv : Int)), .int (iI (en : Int))])), (ai, .inl (cA, 24000, .inl (iA fI))), (at_, .inl (cA, 13, .inl (iA fS))), (aw, .inl (cA, cs, .inl (iA fW))), (pl, .inr (3, [.ref ap, .int (iI (pn : Int))])), (ap, .inl (cA, pm, .inl (iA fP)))] s.heap.size (fun u : (Nat → Int) × (Nat → Int) × (Nat → Int) × Nat => [(wr, .inr (0, [.int (iI (cs : Int)), .int (iI (rs : Int)), .ref ag, .ref oo, .ref cp, .ref aw, .ref pl])), (ag, .inl (cA, cs * rs, .inl (iA u.1))), (oo, .inr (1, [.ref ax, .ref ay, .ref an, .int (iI (np : Int)), .int (iI (l0 : Int))])), (ax, .inl (cA, 4096, .inl (iA fX))), (ay, .inl (cA, 4096, .inl (iA fY))), (an, .inl (cA, 4096, .inl (iA fN))), (cp, .inr (2, [.ref ai, .ref at_, .int (iI (sv : Int)), .int (iI (en : Int))])), (ai, .inl (cA, 24000, .inl (iA fI))), (at_, .inl (cA, 13, .inl (iA fS))), (aw, .inl (cA, cs, .inl (iA u.2.1))), (pl, .inr (3, [.ref ap, .int (iI ((u.2.2.2 : Nat) : Int))])), (ap, .inl (cA, pm, .inl (iA u.2.2.1)))])) [.ref wr, .int (iI a1), .int (iI a2)].toArray s 0 0 (va_A [(wr, .inr (0, [.int (iI (cs : Int)), .int (iI (rs : Int)), .ref ag, .ref oo, .ref cp, .ref aw, .ref pl])), (ag, .inl (cA, cs * rs, .inl (iA fG))), (oo, .inr (1, [.ref ax, .ref ay, .ref an, .int (iI (np : Int)), .int (iI (l0 : Int))])), (ax, .inl (cA, 4096, .inl (iA fX))), (ay, .inl (cA, 4096, .inl (iA fY))), (an, .inl (cA, 4096, .inl (iA fN))), (cp, .inr (2, [.ref ai, .ref at_, .int (iI (sv : Int)), .int (iI (en : Int))])), (ai, .inl (cA, 24000, .inl (iA fI))), (at_, .inl (cA, 13, .inl (iA fS))), (aw, .inl (cA, cs, .inl (iA fW))), (pl, .inr (3, [.ref ap, .int (iI (pn : Int))])), (ap, .inl (cA, pm, .inl (iA fP)))] s.heap.size) = QQ
  refine lv_iload_n hx hb dW_fill_0 rfl (lv_at hl 1 rfl) ?_
  refine cs_i (va_runS (As := [.int (iI a1)]) (rest := []) ⟨hx, hb, hml, hown, hts⟩ (c_isRule l D cA cB cS a1 (by omega)) ⟨(callB_of 1 hts (gIn vm_152) rfl rfl rfl (hts _ (List.mem_cons_of_mem _ vm_1)) (hts _ (List.mem_cons_of_mem _ vm_150)) (by decide +kernel) ⟨Nat.le_of_ble_eq_true rfl, Nat.le_of_ble_eq_true rfl⟩), (hts _ (List.mem_cons_of_mem _ vm_151))⟩ (pR.pre (hP.sub [] rfl) hKW) rfl rfl hl.1 rfl (lv_room (Nat.le_of_ble_eq_true rfl)) dW_fill_1 ⟨Nat.le_of_ble_eq_true rfl, Nat.le_of_ble_eq_true rfl⟩) (fun z_1 hz_1 => ?_)
  refine ii_if_eq (tgt := 14) hx hb dW_fill_4 (by decide) (by omega) (fun c4 => ?_) (fun c4 => ?_)
  · refine ii_iconst (n := (-1)) hx hb dW_fill_14 ?_
    rw [← hQ]
    exact wr_iret (fG, fW, fP, pn) hx hb hr hlocks hAe (hP.sub [0, 1, 2, 3, 4, 5, 6, 7, 8, 9, 10, 11] rfl) (hD.sub [0, 1, 2, 3, 4, 5, 6, 7, 8, 9, 10, 11] (by decide) rfl) hS (Or.inl ⟨rfl, by omega, rfl⟩) dW_fill_15
  · refine lv_iload_n hx hb dW_fill_7 rfl (lv_at hl 2 rfl) ?_
    refine cs_i (va_runS (As := [.int (iI a2)]) (rest := []) ⟨hx, hb, hml, hown, hts⟩ (c_isGray l D cA cB cS a2 (by omega)) ⟨(callB_of 1 hts (gIn vm_155) rfl rfl rfl (hts _ (List.mem_cons_of_mem _ vm_1)) (hts _ (List.mem_cons_of_mem _ vm_153)) (by decide +kernel) ⟨Nat.le_of_ble_eq_true rfl, Nat.le_of_ble_eq_true rfl⟩), (hts _ (List.mem_cons_of_mem _ vm_154))⟩ (pR.pre (hP.sub [] rfl) hKW) rfl rfl hl.1 rfl (lv_room (Nat.le_of_ble_eq_true rfl)) dW_fill_8 ⟨Nat.le_of_ble_eq_true rfl, Nat.le_of_ble_eq_true rfl⟩) (fun z_2 hz_2 => ?_)
    refine ii_if_ne (tgt := 16) hx hb dW_fill_11 (by decide) (by omega) (fun c11 => ?_) (fun c11 => ?_)
    · refine lv_aload_n hx hb dW_fill_16 rfl (lv_at hl 0 rfl) ?_
      refine lv_iload_n hx hb dW_fill_17 rfl (lv_at hl 1 rfl) ?_
      refine cw_v (wc := [(wr, .inr (0, [.int (iI (cs : Int)), .int (iI (rs : Int)), .ref ag, .ref oo, .ref cp, .ref aw, .ref pl])), (oo, .inr (1, [.ref ax, .ref ay, .ref an, .int (iI (np : Int)), .int (iI (l0 : Int))])), (ax, .inl (cA, 4096, .inl (iA fX))), (ay, .inl (cA, 4096, .inl (iA fY))), (an, .inl (cA, 4096, .inl (iA fN))), (cp, .inr (2, [.ref ai, .ref at_, .int (iI (sv : Int)), .int (iI (en : Int))])), (ai, .inl (cA, 24000, .inl (iA fI))), (at_, .inl (cA, 13, .inl (iA fS))), (aw, .inl (cA, cs, .inl (iA fW))), (pl, .inr (3, [.ref ap, .int (iI (pn : Int))])), (ap, .inl (cA, pm, .inl (iA fP)))]) (wr := [(ag, .inl (cA, cs * rs, .inl (iA fG)))]) hP hD hS hA [0, 2, 3, 4, 5, 6, 7, 8, 9, 10, 11] [1] rfl rfl (by decide) (by decide) (va_runV (As := [.int (iI a1)]) (rest := []) ⟨hx, hb, hml, hown, hts⟩ (c_cutClip l D cA cB cS wr cs rs ag oo cp aw pl ax ay an fX fY fN np l0 ai at_ fI fS sv en fW ap fP pn pm st0 a1 L h15 h16 h11 h12 h13 h3 h4 h14 h8 h6 h7 h10 h17 (by omega) (by omega) _) ⟨(callB_of 1 hts (gIn vm_158) rfl rfl rfl (hts _ (List.mem_cons_of_mem _ vm_1)) (hts _ (List.mem_cons_of_mem _ vm_156)) (by decide +kernel) ⟨Nat.le_of_ble_eq_true rfl, Nat.le_of_ble_eq_true rfl⟩), (hts _ (List.mem_cons_of_mem _ vm_157)), (hts _ (List.mem_cons_of_mem _ vm_394))⟩ (pW.preV (va_recv hK hP (ci := 0) (q0 := 0) rfl rfl) (hP.sub [0, 2, 3, 4, 5, 6, 7, 8, 9, 10, 11] rfl) (hD.sub [0, 2, 3, 4, 5, 6, 7, 8, 9, 10, 11] (by decide) rfl) hKW) rfl rfl hl.1 rfl (lv_room (Nat.le_of_ble_eq_true rfl)) dW_fill_18 ⟨Nat.le_of_ble_eq_true rfl, Nat.le_of_ble_eq_true rfl⟩) (fun u_3 H locs hzc hP hD hS => ?_)
      obtain ⟨fW1, fP1, pn1⟩ := u_3
      try dsimp only at hzc
      have hP : va_P D vwCl [(ag, .inl (cA, cs * rs, .inl (iA fG))), (wr, .inr (0, [.int (iI (cs : Int)), .int (iI (rs : Int)), .ref ag, .ref oo, .ref cp, .ref aw, .ref pl])), (oo, .inr (1, [.ref ax, .ref ay, .ref an, .int (iI (np : Int)), .int (iI (l0 : Int))])), (ax, .inl (cA, 4096, .inl (iA fX))), (ay, .inl (cA, 4096, .inl (iA fY))), (an, .inl (cA, 4096, .inl (iA fN))), (cp, .inr (2, [.ref ai, .ref at_, .int (iI (sv : Int)), .int (iI (en : Int))])), (ai, .inl (cA, 24000, .inl (iA fI))), (at_, .inl (cA, 13, .inl (iA fS))), (aw, .inl (cA, cs, .inl (iA fW1))), (pl, .inr (3, [.ref ap, .int (iI (pn1 : Int))])), (ap, .inl (cA, pm, .inl (iA fP1)))] H := hP
      have hD : va_D A [(ag, .inl (cA, cs * rs, .inl (iA fG))), (wr, .inr (0, [.int (iI (cs : Int)), .int (iI (rs : Int)), .ref ag, .ref oo, .ref cp, .ref aw, .ref pl])), (oo, .inr (1, [.ref ax, .ref ay, .ref an, .int (iI (np : Int)), .int (iI (l0 : Int))])), (ax, .inl (cA, 4096, .inl (iA fX))), (ay, .inl (cA, 4096, .inl (iA fY))), (an, .inl (cA, 4096, .inl (iA fN))), (cp, .inr (2, [.ref ai, .ref at_, .int (iI (sv : Int)), .int (iI (en : Int))])), (ai, .inl (cA, 24000, .inl (iA fI))), (at_, .inl (cA, 13, .inl (iA fS))), (aw, .inl (cA, cs, .inl (iA fW1))), (pl, .inr (3, [.ref ap, .int (iI (pn1 : Int))])), (ap, .inl (cA, pm, .inl (iA fP1)))] := hD
      have hpm : pn1 ≤ pm := by rw [← hzc.2]; exact h10
      refine lv_aload_n hx hb dW_fill_21 rfl (lv_at hl 0 rfl) ?_
      refine lv_aload_n hx hb dW_fill_22 rfl (lv_at hl 0 rfl) ?_
      refine va_get (ci := 0) (v := .ref pl) (C := "WindingRaster") (T := TW) (N := 7) hx hb hts in_0 hown hK hP 1 rfl rfl 6 (by decide) fl_59 (fun _ h9 => h9) rfl dW_fill_23 ?_
      refine va_getN (ci := 3) (v := .ref ap) (C := "WindingRaster$RunList") (T := TL) (N := 2) hx hb hts in_3 hown hK hP 10 rfl rfl 0 (by decide) fl_102 (fun _ h9 => h9) rfl dW_fill_26 ?_
      refine ii_iconst (n := 0) hx hb dW_fill_29 ?_
      refine lv_aload_n hx hb dW_fill_30 rfl (lv_at hl 0 rfl) ?_
      refine va_get (ci := 0) (v := .ref pl) (C := "WindingRaster") (T := TW) (N := 7) hx hb hts in_0 hown hK hP 1 rfl rfl 6 (by decide) fl_59 (fun _ h9 => h9) rfl dW_fill_31 ?_
      refine va_getN (ci := 3) (v := .int (iI (pn1 : Int))) (C := "WindingRaster$RunList") (T := TL) (N := 2) hx hb hts in_3 hown hK hP 10 rfl rfl 1 (by decide) fl_105 (fun _ h9 => h9) rfl dW_fill_34 ?_
      refine lv_iload_n hx hb dW_fill_37 rfl (lv_at hl 2 rfl) ?_
      refine cw_i (wc := [(wr, .inr (0, [.int (iI (cs : Int)), .int (iI (rs : Int)), .ref ag, .ref oo, .ref cp, .ref aw, .ref pl])), (ap, .inl (cA, pm, .inl (iA fP1))), (ag, .inl (cA, cs * rs, .inl (iA fG)))]) (wr := [(oo, .inr (1, [.ref ax, .ref ay, .ref an, .int (iI (np : Int)), .int (iI (l0 : Int))])), (ax, .inl (cA, 4096, .inl (iA fX))), (ay, .inl (cA, 4096, .inl (iA fY))), (an, .inl (cA, 4096, .inl (iA fN))), (cp, .inr (2, [.ref ai, .ref at_, .int (iI (sv : Int)), .int (iI (en : Int))])), (ai, .inl (cA, 24000, .inl (iA fI))), (at_, .inl (cA, 13, .inl (iA fS))), (aw, .inl (cA, cs, .inl (iA fW1))), (pl, .inr (3, [.ref ap, .int (iI (pn1 : Int))]))]) hP hD hS hA [1, 11, 0] [2, 3, 4, 5, 6, 7, 8, 9, 10] rfl rfl (by decide) (by decide) (va_runV (As := [.ref ap, .int (iI 0), .int (iI (pn1 : Int)), .int (iI a2)]) (rest := []) ⟨hx, hb, hml, hown, hts⟩ (c_paint l D cA cB cS wr cs rs ag oo cp aw pl ap pm fP1 fG 0 pn1 a2 (cutA (gW fX fY fN np a1) L) hzc.1 (by rw [hzc.2]; omega) h18 (by omega) (by omega) (by omega) (by omega) (by omega) _) ⟨(callB_of 4 hts (gIn vm_181) rfl rfl rfl (hts _ (List.mem_cons_of_mem _ vm_1)) (hts _ (List.mem_cons_of_mem _ vm_179)) (by decide +kernel) ⟨Nat.le_of_ble_eq_true rfl, Nat.le_of_ble_eq_true rfl⟩), (hts _ (List.mem_cons_of_mem _ vm_180)), (hts _ (List.mem_cons_of_mem _ vm_399))⟩ (pW.preV (va_recv hK hP (ci := 0) (q0 := 1) rfl rfl) (hP.sub [1, 11, 0] rfl) (hD.sub [1, 11, 0] (by decide) rfl) hKW) rfl rfl hl.1 rfl (lv_room (Nat.le_of_ble_eq_true rfl)) dW_fill_38 ⟨Nat.le_of_ble_eq_true rfl, Nat.le_of_ble_eq_true rfl⟩) (fun zp u_4 H locs hzp hP hD hS => ?_)
      obtain ⟨fG1, rfl⟩ : ∃ z_, z_ = u_4 := ⟨_, rfl⟩
      try dsimp only at hzp
      have hP : va_P D vwCl [(oo, .inr (1, [.ref ax, .ref ay, .ref an, .int (iI (np : Int)), .int (iI (l0 : Int))])), (ax, .inl (cA, 4096, .inl (iA fX))), (ay, .inl (cA, 4096, .inl (iA fY))), (an, .inl (cA, 4096, .inl (iA fN))), (cp, .inr (2, [.ref ai, .ref at_, .int (iI (sv : Int)), .int (iI (en : Int))])), (ai, .inl (cA, 24000, .inl (iA fI))), (at_, .inl (cA, 13, .inl (iA fS))), (aw, .inl (cA, cs, .inl (iA fW1))), (pl, .inr (3, [.ref ap, .int (iI (pn1 : Int))])), (wr, .inr (0, [.int (iI (cs : Int)), .int (iI (rs : Int)), .ref ag, .ref oo, .ref cp, .ref aw, .ref pl])), (ap, .inl (cA, pm, .inl (iA fP1))), (ag, .inl (cA, cs * rs, .inl (iA fG1)))] H := hP
      have hD : va_D A [(oo, .inr (1, [.ref ax, .ref ay, .ref an, .int (iI (np : Int)), .int (iI (l0 : Int))])), (ax, .inl (cA, 4096, .inl (iA fX))), (ay, .inl (cA, 4096, .inl (iA fY))), (an, .inl (cA, 4096, .inl (iA fN))), (cp, .inr (2, [.ref ai, .ref at_, .int (iI (sv : Int)), .int (iI (en : Int))])), (ai, .inl (cA, 24000, .inl (iA fI))), (at_, .inl (cA, 13, .inl (iA fS))), (aw, .inl (cA, cs, .inl (iA fW1))), (pl, .inr (3, [.ref ap, .int (iI (pn1 : Int))])), (wr, .inr (0, [.int (iI (cs : Int)), .int (iI (rs : Int)), .ref ag, .ref oo, .ref cp, .ref aw, .ref pl])), (ap, .inl (cA, pm, .inl (iA fP1))), (ag, .inl (cA, cs * rs, .inl (iA fG1)))] := hD
      rw [← hQ]
      exact wr_iret (fG1, fW1, fP1, pn1) hx hb hr hlocks hAe (hP.sub [9, 11, 0, 1, 2, 3, 4, 5, 6, 7, 8, 10] rfl) (hD.sub [9, 11, 0, 1, 2, 3, 4, 5, 6, 7, 8, 10] (by decide) rfl) hS (Or.inr ⟨by omega, hzp⟩) dW_fill_41
    · refine ii_iconst (n := (-1)) hx hb dW_fill_14 ?_
      rw [← hQ]
      exact wr_iret (fG, fW, fP, pn) hx hb hr hlocks hAe (hP.sub [0, 1, 2, 3, 4, 5, 6, 7, 8, 9, 10, 11] rfl) (hD.sub [0, 1, 2, 3, 4, 5, 6, 7, 8, 9, 10, 11] (by decide) rfl) hS (Or.inl ⟨rfl, by omega, rfl⟩) dW_fill_15

def rm_c_clip : Room := { frames := 4, cells := 0, slots := 0, locals := 109 }
set_option maxHeartbeats 4000000 in
set_option maxRecDepth 100000 in
theorem c_clip (l : Launch) (D : va_G) (cA cB cS : ClassId) (wr : Nat) (cs : Nat) (rs : Nat) (ag : Nat) (oo : Nat) (cp : Nat) (aw : Nat) (pl : Nat) (ax : Nat) (ay : Nat) (an : Nat) (fX : Nat → Int) (fY : Nat → Int) (fN : Nat → Int) (np : Nat) (l0 : Nat) (ai : Nat) (at_ : Nat) (fI : Nat → Int) (fS : Nat → Int) (sv : Nat) (en : Nat) (fW : Nat → Int) (ap : Nat) (fP : Nat → Int) (pn : Nat) (pm : Nat) (st0 : Nat) (L : List Run3) (a1 : Int) (h1 : i32 a1) (h3 : cs ≤ 256) (h4 : rs ≤ 256) (h6 : ∀ i, i < np → (-536870912 ≤ fX i ∧ fX i ≤ 536870912) ∧ (-536870912 ≤ fY i ∧ fY i ≤ 536870912)) (h7 : ∀ i, i < np → 0 ≤ fN i ∧ fN i < (np : Int)) (h8 : np ≤ 4096) (h9 : 0 < cs) (h10 : (cutA (gW fX fY fN np a1) L).length ≤ pm) (h17 : pm < 2147483648) (h11 : segL fI st0 L) (h12 : st0 + L.length = en) (h13 : ∀ x ∈ L, runOk cs rs x) (h14 : en ≤ 24000) (h15 : sv ≤ 12) (h16 : fS sv = (st0 : Int)) (h18 : ∀ x ∈ cutA (gW fX fY fN np a1) L, runOk cs rs x) (sz : Nat) : Met l yW_clip wW_clip rm_c_clip (pW [.ref wr, .int (iI a1)] D vwCl (vwTy cA cB cS) vwNw [(wr, .inr (0, [.int (iI (cs : Int)), .int (iI (rs : Int)), .ref ag, .ref oo, .ref cp, .ref aw, .ref pl])), (oo, .inr (1, [.ref ax, .ref ay, .ref an, .int (iI (np : Int)), .int (iI (l0 : Int))])), (ax, .inl (cA, 4096, .inl (iA fX))), (ay, .inl (cA, 4096, .inl (iA fY))), (an, .inl (cA, 4096, .inl (iA fN))), (cp, .inr (2, [.ref ai, .ref at_, .int (iI (sv : Int)), .int (iI (en : Int))])), (ai, .inl (cA, 24000, .inl (iA fI))), (at_, .inl (cA, 13, .inl (iA fS))), (aw, .inl (cA, cs, .inl (iA fW))), (pl, .inr (3, [.ref ap, .int (iI (pn : Int))])), (ap, .inl (cA, pm, .inl (iA fP)))] sz) (qW (S := (Nat → Int) × Nat × (Nat → Int) × (Nat → Int) × Nat) (fun (z : Int) (u : (Nat → Int) × Nat × (Nat → Int) × (Nat → Int) × Nat) => (z = -1 ∧ ¬ (a1 = 0 ∨ a1 = 1) ∧ u.1 = fI ∧ u.2.1 = en) ∨ ((a1 = 0 ∨ a1 = 1) ∧ z = -3 ∧ 24000 < st0 + (cutA (gW fX fY fN np a1) L).length ∧ u.1 = fI ∧ u.2.1 = en) ∨ ((a1 = 0 ∨ a1 = 1) ∧ st0 + (cutA (gW fX fY fN np a1) L).length ≤ 24000 ∧ z = ((lenS (cutA (gW fX fY fN np a1) L) : Nat) : Int) ∧ u.2.1 = st0 + (cutA (gW fX fY fN np a1) L).length ∧ segL u.1 st0 (cutA (gW fX fY fN np a1) L) ∧ ∀ k, k < st0 → u.1 k = fI k)) D vwCl [(wr, .inr (0, [.int (iI (cs : Int)), .int (iI (rs : Int)), .ref ag, .ref oo, .ref cp, .ref aw, .ref pl])), (oo, .inr (1, [.ref ax, .ref ay, .ref an, .int (iI (np : Int)), .int (iI (l0 : Int))])), (ax, .inl (cA, 4096, .inl (iA fX))), (ay, .inl (cA, 4096, .inl (iA fY))), (an, .inl (cA, 4096, .inl (iA fN))), (cp, .inr (2, [.ref ai, .ref at_, .int (iI (sv : Int)), .int (iI (en : Int))])), (ai, .inl (cA, 24000, .inl (iA fI))), (at_, .inl (cA, 13, .inl (iA fS))), (aw, .inl (cA, cs, .inl (iA fW))), (pl, .inr (3, [.ref ap, .int (iI (pn : Int))])), (ap, .inl (cA, pm, .inl (iA fP)))] sz (fun u : (Nat → Int) × Nat × (Nat → Int) × (Nat → Int) × Nat => [(wr, .inr (0, [.int (iI (cs : Int)), .int (iI (rs : Int)), .ref ag, .ref oo, .ref cp, .ref aw, .ref pl])), (oo, .inr (1, [.ref ax, .ref ay, .ref an, .int (iI (np : Int)), .int (iI (l0 : Int))])), (ax, .inl (cA, 4096, .inl (iA fX))), (ay, .inl (cA, 4096, .inl (iA fY))), (an, .inl (cA, 4096, .inl (iA fN))), (cp, .inr (2, [.ref ai, .ref at_, .int (iI (sv : Int)), .int (iI ((u.2.1 : Nat) : Int))])), (ai, .inl (cA, 24000, .inl (iA u.1))), (at_, .inl (cA, 13, .inl (iA fS))), (aw, .inl (cA, cs, .inl (iA u.2.2.1))), (pl, .inr (3, [.ref ap, .int (iI ((u.2.2.2.2 : Nat) : Int))])), (ap, .inl (cA, pm, .inl (iA u.2.2.2.1)))])) 0 0 (va_A [(wr, .inr (0, [.int (iI (cs : Int)), .int (iI (rs : Int)), .ref ag, .ref oo, .ref cp, .ref aw, .ref pl])), (oo, .inr (1, [.ref ax, .ref ay, .ref an, .int (iI (np : Int)), .int (iI (l0 : Int))])), (ax, .inl (cA, 4096, .inl (iA fX))), (ay, .inl (cA, 4096, .inl (iA fY))), (an, .inl (cA, 4096, .inl (iA fN))), (cp, .inr (2, [.ref ai, .ref at_, .int (iI (sv : Int)), .int (iI (en : Int))])), (ai, .inl (cA, 24000, .inl (iA fI))), (at_, .inl (cA, 13, .inl (iA fS))), (aw, .inl (cA, cs, .inl (iA fW))), (pl, .inr (3, [.ref ap, .int (iI (pn : Int))])), (ap, .inl (cA, pm, .inl (iA fP)))] sz) := by
  refine Met.ofW (cc := bW_clip) (maxL := 2) (ret := (some .int)) (by decide +kernel) rfl ?_
  intro p e s m args below meth c s₁ B hml hv
  obtain ⟨rfl, hsz, hP, hKW, hD0⟩ := hv
  have hK := hKW.1
  have hN := hKW.2.2
  have hx := B.exec
  have hb := B.bytes
  have hr := B.returns
  have hts := atoms_spec (ws := wW_clip) B.pre
  have hown : s.vm.findClass "WindingRaster" = some m.cls := findClass_of_methodNamed B.named
  have hlocks := B.notSynchronized
  subst hsz
  have hD := hD0.self (sz := s.heap.size)
  obtain ⟨A, hAe⟩ : ∃ A, va_A [(wr, .inr (0, [.int (iI (cs : Int)), .int (iI (rs : Int)), .ref ag, .ref oo, .ref cp, .ref aw, .ref pl])), (oo, .inr (1, [.ref ax, .ref ay, .ref an, .int (iI (np : Int)), .int (iI (l0 : Int))])), (ax, .inl (cA, 4096, .inl (iA fX))), (ay, .inl (cA, 4096, .inl (iA fY))), (an, .inl (cA, 4096, .inl (iA fN))), (cp, .inr (2, [.ref ai, .ref at_, .int (iI (sv : Int)), .int (iI (en : Int))])), (ai, .inl (cA, 24000, .inl (iA fI))), (at_, .inl (cA, 13, .inl (iA fS))), (aw, .inl (cA, cs, .inl (iA fW))), (pl, .inr (3, [.ref ap, .int (iI (pn : Int))])), (ap, .inl (cA, pm, .inl (iA fP)))] s.heap.size = A := ⟨_, rfl⟩
  rw [hAe] at hD
  have hA : ∀ q : Nat, s.heap.size ≤ q → A q := fun q h => by rw [← hAe]; exact Or.inr h
  have hS : va_S A s.heap s.heap [] := va_S.rf
  have hP : va_P D vwCl [(wr, .inr (0, [.int (iI (cs : Int)), .int (iI (rs : Int)), .ref ag, .ref oo, .ref cp, .ref aw, .ref pl])), (oo, .inr (1, [.ref ax, .ref ay, .ref an, .int (iI (np : Int)), .int (iI (l0 : Int))])), (ax, .inl (cA, 4096, .inl (iA fX))), (ay, .inl (cA, 4096, .inl (iA fY))), (an, .inl (cA, 4096, .inl (iA fN))), (cp, .inr (2, [.ref ai, .ref at_, .int (iI (sv : Int)), .int (iI (en : Int))])), (ai, .inl (cA, 24000, .inl (iA fI))), (at_, .inl (cA, 13, .inl (iA fS))), (aw, .inl (cA, cs, .inl (iA fW))), (pl, .inr (3, [.ref ap, .int (iI (pn : Int))])), (ap, .inl (cA, pm, .inl (iA fP)))] s.heap := hP
  have in_0 : ∀ w ∈ wsW, w ∈ wW_clip := fun w h => List.mem_cons_of_mem _ (in0_W w h)
  have fl_47 := (hts _ (List.mem_cons_of_mem _ vm_73))
  have fl_59 := (hts _ (List.mem_cons_of_mem _ vm_75))
  have hl := lv_entry ([.ref wr, .int (iI a1)]) (n := 2) (Nat.le_of_ble_eq_true rfl)
  rw [lg_entry_eq]
  generalize (lg_sl ([.ref wr, .int (iI a1)]) ++ List.replicate (2 - (lg_sl ([.ref wr, .int (iI a1)])).length) Slot.unset).toArray = ls at hl ⊢
  have hl : lv_has ls 2 [(0, .ref wr), (1, .int (iI a1))] := hl
  generalize hQ : MQ below (qW (S := (Nat → Int) × Nat × (Nat → Int) × (Nat → Int) × Nat) (fun (z : Int) (u : (Nat → Int) × Nat × (Nat → Int) × (Nat → Int) × Nat) => (z = -1 ∧ ¬ (a1 = 0 ∨ a1 = 1) ∧ u.1 = fI ∧ u.2.1 = en) ∨ ((a1 = 0 ∨ a1 = 1) ∧ z = -3 ∧ 24000 < st0 + (cutA (gW fX fY fN np a1) L).length ∧ u.1 = fI ∧ u.2.1 = en) ∨ ((a1 = 0 ∨ a1 = 1) ∧ st0 + (cutA (gW fX fY fN np a1) L).length ≤ 24000 ∧ z = ((lenS (cutA (gW fX fY fN np a1) L) : Nat) : Int) ∧ u.2.1 = st0 + (cutA (gW fX fY fN np a1) L).length ∧ segL u.1 st0 (cutA (gW fX fY fN np a1) L) ∧ ∀ k, k < st0 → u.1 k = fI k)) D vwCl [(wr, .inr (0, [.int (iI (cs : Int)), .int (iI (rs : Int)), .ref ag, .ref oo, .ref cp, .ref aw, .ref pl])), (oo, .inr (1, [.ref ax, .ref ay, .ref an, .int (iI (np : Int)), .int (iI (l0 : Int))])), (ax, .inl (cA, 4096, .inl (iA fX))), (ay, .inl (cA, 4096, .inl (iA fY))), (an, .inl (cA, 4096, .inl (iA fN))), (cp, .inr (2, [.ref ai, .ref at_, .int (iI (sv : Int)), .int (iI (en : Int))])), (ai, .inl (cA, 24000, .inl (iA fI))), (at_, .inl (cA, 13, .inl (iA fS))), (aw, .inl (cA, cs, .inl (iA fW))), (pl, .inr (3, [.ref ap, .int (iI (pn : Int))])), (ap, .inl (cA, pm, .inl (iA fP)))] s.heap.size (fun u : (Nat → Int) × Nat × (Nat → Int) × (Nat → Int) × Nat => [(wr, .inr (0, [.int (iI (cs : Int)), .int (iI (rs : Int)), .ref ag, .ref oo, .ref cp, .ref aw, .ref pl])), (oo, .inr (1, [.ref ax, .ref ay, .ref an, .int (iI (np : Int)), .int (iI (l0 : Int))])), (ax, .inl (cA, 4096, .inl (iA fX))), (ay, .inl (cA, 4096, .inl (iA fY))), (an, .inl (cA, 4096, .inl (iA fN))), (cp, .inr (2, [.ref ai, .ref at_, .int (iI (sv : Int)), .int (iI ((u.2.1 : Nat) : Int))])), (ai, .inl (cA, 24000, .inl (iA u.1))), (at_, .inl (cA, 13, .inl (iA fS))), (aw, .inl (cA, cs, .inl (iA u.2.2.1))), (pl, .inr (3, [.ref ap, .int (iI ((u.2.2.2.2 : Nat) : Int))])), (ap, .inl (cA, pm, .inl (iA u.2.2.2.1)))])) [.ref wr, .int (iI a1)].toArray s 0 0 (va_A [(wr, .inr (0, [.int (iI (cs : Int)), .int (iI (rs : Int)), .ref ag, .ref oo, .ref cp, .ref aw, .ref pl])), (oo, .inr (1, [.ref ax, .ref ay, .ref an, .int (iI (np : Int)), .int (iI (l0 : Int))])), (ax, .inl (cA, 4096, .inl (iA fX))), (ay, .inl (cA, 4096, .inl (iA fY))), (an, .inl (cA, 4096, .inl (iA fN))), (cp, .inr (2, [.ref ai, .ref at_, .int (iI (sv : Int)), .int (iI (en : Int))])), (ai, .inl (cA, 24000, .inl (iA fI))), (at_, .inl (cA, 13, .inl (iA fS))), (aw, .inl (cA, cs, .inl (iA fW))), (pl, .inr (3, [.ref ap, .int (iI (pn : Int))])), (ap, .inl (cA, pm, .inl (iA fP)))] s.heap.size) = QQ
  refine lv_iload_n hx hb dW_clip_0 rfl (lv_at hl 1 rfl) ?_
  refine cs_i (va_runS (As := [.int (iI a1)]) (rest := []) ⟨hx, hb, hml, hown, hts⟩ (c_isRule l D cA cB cS a1 (by omega)) ⟨(callB_of 1 hts (gIn vm_152) rfl rfl rfl (hts _ (List.mem_cons_of_mem _ vm_1)) (hts _ (List.mem_cons_of_mem _ vm_150)) (by decide +kernel) ⟨Nat.le_of_ble_eq_true rfl, Nat.le_of_ble_eq_true rfl⟩), (hts _ (List.mem_cons_of_mem _ vm_151))⟩ (pR.pre (hP.sub [] rfl) hKW) rfl rfl hl.1 rfl (lv_room (Nat.le_of_ble_eq_true rfl)) dW_clip_1 ⟨Nat.le_of_ble_eq_true rfl, Nat.le_of_ble_eq_true rfl⟩) (fun z_1 hz_1 => ?_)
  refine ii_if_ne (tgt := 9) hx hb dW_clip_4 (by decide) (by omega) (fun c4 => ?_) (fun c4 => ?_)
  · refine lv_aload_n hx hb dW_clip_9 rfl (lv_at hl 0 rfl) ?_
    refine lv_iload_n hx hb dW_clip_10 rfl (lv_at hl 1 rfl) ?_
    refine cw_v (wc := [(wr, .inr (0, [.int (iI (cs : Int)), .int (iI (rs : Int)), .ref ag, .ref oo, .ref cp, .ref aw, .ref pl])), (oo, .inr (1, [.ref ax, .ref ay, .ref an, .int (iI (np : Int)), .int (iI (l0 : Int))])), (ax, .inl (cA, 4096, .inl (iA fX))), (ay, .inl (cA, 4096, .inl (iA fY))), (an, .inl (cA, 4096, .inl (iA fN))), (cp, .inr (2, [.ref ai, .ref at_, .int (iI (sv : Int)), .int (iI (en : Int))])), (ai, .inl (cA, 24000, .inl (iA fI))), (at_, .inl (cA, 13, .inl (iA fS))), (aw, .inl (cA, cs, .inl (iA fW))), (pl, .inr (3, [.ref ap, .int (iI (pn : Int))])), (ap, .inl (cA, pm, .inl (iA fP)))]) (wr := []) hP hD hS hA [0, 1, 2, 3, 4, 5, 6, 7, 8, 9, 10] [] rfl rfl (by decide) (by decide) (va_runV (As := [.int (iI a1)]) (rest := []) ⟨hx, hb, hml, hown, hts⟩ (c_cutClip l D cA cB cS wr cs rs ag oo cp aw pl ax ay an fX fY fN np l0 ai at_ fI fS sv en fW ap fP pn pm st0 a1 L h15 h16 h11 h12 h13 h3 h4 h14 h8 h6 h7 h10 h17 (by omega) (by omega) _) ⟨(callB_of 1 hts (gIn vm_158) rfl rfl rfl (hts _ (List.mem_cons_of_mem _ vm_1)) (hts _ (List.mem_cons_of_mem _ vm_156)) (by decide +kernel) ⟨Nat.le_of_ble_eq_true rfl, Nat.le_of_ble_eq_true rfl⟩), (hts _ (List.mem_cons_of_mem _ vm_157)), (hts _ (List.mem_cons_of_mem _ vm_394))⟩ (pW.preV (va_recv hK hP (ci := 0) (q0 := 0) rfl rfl) (hP.sub [0, 1, 2, 3, 4, 5, 6, 7, 8, 9, 10] rfl) (hD.sub [0, 1, 2, 3, 4, 5, 6, 7, 8, 9, 10] (by decide) rfl) hKW) rfl rfl hl.1 rfl (lv_room (Nat.le_of_ble_eq_true rfl)) dW_clip_11 ⟨Nat.le_of_ble_eq_true rfl, Nat.le_of_ble_eq_true rfl⟩) (fun u_2 H locs hzc hP hD hS => ?_)
    obtain ⟨fW1, fP1, pn1⟩ := u_2
    try dsimp only at hzc
    have hP : va_P D vwCl [(wr, .inr (0, [.int (iI (cs : Int)), .int (iI (rs : Int)), .ref ag, .ref oo, .ref cp, .ref aw, .ref pl])), (oo, .inr (1, [.ref ax, .ref ay, .ref an, .int (iI (np : Int)), .int (iI (l0 : Int))])), (ax, .inl (cA, 4096, .inl (iA fX))), (ay, .inl (cA, 4096, .inl (iA fY))), (an, .inl (cA, 4096, .inl (iA fN))), (cp, .inr (2, [.ref ai, .ref at_, .int (iI (sv : Int)), .int (iI (en : Int))])), (ai, .inl (cA, 24000, .inl (iA fI))), (at_, .inl (cA, 13, .inl (iA fS))), (aw, .inl (cA, cs, .inl (iA fW1))), (pl, .inr (3, [.ref ap, .int (iI (pn1 : Int))])), (ap, .inl (cA, pm, .inl (iA fP1)))] H := hP
    have hD : va_D A [(wr, .inr (0, [.int (iI (cs : Int)), .int (iI (rs : Int)), .ref ag, .ref oo, .ref cp, .ref aw, .ref pl])), (oo, .inr (1, [.ref ax, .ref ay, .ref an, .int (iI (np : Int)), .int (iI (l0 : Int))])), (ax, .inl (cA, 4096, .inl (iA fX))), (ay, .inl (cA, 4096, .inl (iA fY))), (an, .inl (cA, 4096, .inl (iA fN))), (cp, .inr (2, [.ref ai, .ref at_, .int (iI (sv : Int)), .int (iI (en : Int))])), (ai, .inl (cA, 24000, .inl (iA fI))), (at_, .inl (cA, 13, .inl (iA fS))), (aw, .inl (cA, cs, .inl (iA fW1))), (pl, .inr (3, [.ref ap, .int (iI (pn1 : Int))])), (ap, .inl (cA, pm, .inl (iA fP1)))] := hD
    have hpm : pn1 ≤ pm := by rw [← hzc.2]; exact h10
    have hst : st0 ≤ 24000 := by omega
    refine lv_aload_n hx hb dW_clip_14 rfl (lv_at hl 0 rfl) ?_
    refine va_get (ci := 0) (v := .ref cp) (C := "WindingRaster") (T := TW) (N := 7) hx hb hts in_0 hown hK hP 0 rfl rfl 4 (by decide) fl_47 (fun _ h9 => h9) rfl dW_clip_15 ?_
    refine lv_aload_n hx hb dW_clip_18 rfl (lv_at hl 0 rfl) ?_
    refine va_get (ci := 0) (v := .ref pl) (C := "WindingRaster") (T := TW) (N := 7) hx hb hts in_0 hown hK hP 0 rfl rfl 6 (by decide) fl_59 (fun _ h9 => h9) rfl dW_clip_19 ?_
    refine cw_i (wc := [(cp, .inr (2, [.ref ai, .ref at_, .int (iI (sv : Int)), .int (iI (en : Int))])), (ai, .inl (cA, 24000, .inl (iA fI))), (at_, .inl (cA, 13, .inl (iA fS))), (pl, .inr (3, [.ref ap, .int (iI (pn1 : Int))])), (ap, .inl (cA, pm, .inl (iA fP1)))]) (wr := [(wr, .inr (0, [.int (iI (cs : Int)), .int (iI (rs : Int)), .ref ag, .ref oo, .ref cp, .ref aw, .ref pl])), (oo, .inr (1, [.ref ax, .ref ay, .ref an, .int (iI (np : Int)), .int (iI (l0 : Int))])), (ax, .inl (cA, 4096, .inl (iA fX))), (ay, .inl (cA, 4096, .inl (iA fY))), (an, .inl (cA, 4096, .inl (iA fN))), (aw, .inl (cA, cs, .inl (iA fW1)))]) hP hD hS hA [5, 6, 7, 9, 10] [0, 1, 2, 3, 4, 8] rfl rfl (by decide) (by decide) (va_runVN (As := [.ref pl]) (rest := []) ⟨hx, hb, hml, hown, hts⟩ (c_replace l D cA cB cS cp ai at_ fI fS sv en pl ap fP1 pn1 pm st0 h15 h16 (by omega) (by omega) (by omega) _) ⟨(va_cnB 1 hts (gIn vm_191) rfl rfl rfl (hN _ vn_26) (hts _ (List.mem_cons_of_mem _ vm_5)) (by decide +kernel) ⟨Nat.le_of_ble_eq_true rfl, Nat.le_of_ble_eq_true rfl⟩), (hts _ (List.mem_cons_of_mem _ vm_190)), (hts _ (List.mem_cons_of_mem _ vm_400))⟩ (pW.preV (va_recv hK hP (ci := 2) (q0 := 5) rfl rfl) (hP.sub [5, 6, 7, 9, 10] rfl) (hD.sub [5, 6, 7, 9, 10] (by decide) rfl) hKW) rfl rfl hl.1 rfl (lv_room (Nat.le_of_ble_eq_true rfl)) dW_clip_22 ⟨Nat.le_of_ble_eq_true rfl, Nat.le_of_ble_eq_true rfl⟩) (fun zr u_3 H locs hzr hP hD hS => ?_)
    obtain ⟨fI1, en1⟩ := u_3
    try dsimp only at hzr
    have hP : va_P D vwCl [(wr, .inr (0, [.int (iI (cs : Int)), .int (iI (rs : Int)), .ref ag, .ref oo, .ref cp, .ref aw, .ref pl])), (oo, .inr (1, [.ref ax, .ref ay, .ref an, .int (iI (np : Int)), .int (iI (l0 : Int))])), (ax, .inl (cA, 4096, .inl (iA fX))), (ay, .inl (cA, 4096, .inl (iA fY))), (an, .inl (cA, 4096, .inl (iA fN))), (aw, .inl (cA, cs, .inl (iA fW1))), (cp, .inr (2, [.ref ai, .ref at_, .int (iI (sv : Int)), .int (iI (en1 : Int))])), (ai, .inl (cA, 24000, .inl (iA fI1))), (at_, .inl (cA, 13, .inl (iA fS))), (pl, .inr (3, [.ref ap, .int (iI (pn1 : Int))])), (ap, .inl (cA, pm, .inl (iA fP1)))] H := hP
    have hD : va_D A [(wr, .inr (0, [.int (iI (cs : Int)), .int (iI (rs : Int)), .ref ag, .ref oo, .ref cp, .ref aw, .ref pl])), (oo, .inr (1, [.ref ax, .ref ay, .ref an, .int (iI (np : Int)), .int (iI (l0 : Int))])), (ax, .inl (cA, 4096, .inl (iA fX))), (ay, .inl (cA, 4096, .inl (iA fY))), (an, .inl (cA, 4096, .inl (iA fN))), (aw, .inl (cA, cs, .inl (iA fW1))), (cp, .inr (2, [.ref ai, .ref at_, .int (iI (sv : Int)), .int (iI (en1 : Int))])), (ai, .inl (cA, 24000, .inl (iA fI1))), (at_, .inl (cA, 13, .inl (iA fS))), (pl, .inr (3, [.ref ap, .int (iI (pn1 : Int))])), (ap, .inl (cA, pm, .inl (iA fP1)))] := hD
    refine ii_if_eq (tgt := 38) hx hb dW_clip_25 (by decide) (by omega) (fun c25 => ?_) (fun c25 => ?_)
    · obtain ⟨r1, r2, r3, r4⟩ : 24000 < st0 + pn1 ∧ fI1 = fI ∧ en1 = en ∧ True := by
        rcases hzr with ⟨w1, w2, w3, w4⟩ | ⟨w1, w2, w3, w4⟩
        · exact ⟨w2, w3, w4, trivial⟩
        · exfalso; omega
      have hz2 := hzc.2
      refine ii_bipush (n := (-3)) hx hb dW_clip_38 (by decide +kernel) ?_
      rw [← hQ]
      exact wr_iret (fI1, en1, fW1, fP1, pn1) hx hb hr hlocks hAe (hP.sub [0, 1, 2, 3, 4, 6, 7, 8, 5, 9, 10] rfl) (hD.sub [0, 1, 2, 3, 4, 6, 7, 8, 5, 9, 10] (by decide) rfl) hS (Or.inr (Or.inl ⟨by omega, rfl, by omega, r2, r3⟩)) dW_clip_40
    · obtain ⟨r1, r2, r3⟩ : st0 + pn1 ≤ 24000 ∧ fI1 = va_cpy fP1 fI 0 st0 pn1 ∧ en1 = st0 + pn1 := by
        rcases hzr with ⟨w1, w2, w3, w4⟩ | ⟨w1, w2, w3, w4⟩
        · exfalso; omega
        · exact ⟨w2, w3, w4⟩
      have hz2 := hzc.2
      have hsg : segL fI1 st0 (cutA (gW fX fY fN np a1) L) := by
        refine segL_move _ 0 st0 (fun k hk => ?_) hzc.1
        rw [r2, pk_cpy_in (by omega) (by omega)]
        congr 1
        omega
      refine lv_aload_n hx hb dW_clip_28 rfl (lv_at hl 0 rfl) ?_
      refine va_get (ci := 0) (v := .ref cp) (C := "WindingRaster") (T := TW) (N := 7) hx hb hts in_0 hown hK hP 0 rfl rfl 4 (by decide) fl_47 (fun _ h9 => h9) rfl dW_clip_29 ?_
      refine cs_i (va_runVN (As := []) (rest := []) ⟨hx, hb, hml, hown, hts⟩ (c_pixelCount l D cA cB cS cp ai at_ fI1 fS sv en1 st0 (cutA (gW fX fY fN np a1) L) cs rs h15 h16 hsg (by omega) h18 (by omega) (by omega) (by omega)) ⟨(va_cnB 0 hts (gIn vm_197) rfl rfl rfl (hN _ vn_27) (hts _ (List.mem_cons_of_mem _ vm_5)) (by decide +kernel) ⟨Nat.le_of_ble_eq_true rfl, Nat.le_of_ble_eq_true rfl⟩), (hts _ (List.mem_cons_of_mem _ vm_196)), (hts _ (List.mem_cons_of_mem _ vm_401))⟩ (pR.preV (va_recv hK hP (ci := 2) (q0 := 6) rfl rfl) (hP.sub [6, 7, 8] rfl) hKW) rfl rfl hl.1 rfl (lv_room (Nat.le_of_ble_eq_true rfl)) dW_clip_32 ⟨Nat.le_of_ble_eq_true rfl, Nat.le_of_ble_eq_true rfl⟩) (fun z_4 hz_4 => ?_)
      subst hz_4
      refine lv_goto (tgt := 40) hx hb dW_clip_35 (by decide) ?_
      rw [← hQ]
      exact wr_iret (fI1, en1, fW1, fP1, pn1) hx hb hr hlocks hAe (hP.sub [0, 1, 2, 3, 4, 6, 7, 8, 5, 9, 10] rfl) (hD.sub [0, 1, 2, 3, 4, 6, 7, 8, 5, 9, 10] (by decide) rfl) hS (Or.inr (Or.inr ⟨by omega, by omega, rfl, by dsimp only; omega, hsg, fun k hk => by dsimp only; rw [r2, pk_cpy_out (by omega)]⟩)) dW_clip_40
  · refine ii_iconst (n := (-1)) hx hb dW_clip_7 ?_
    rw [← hQ]
    exact wr_iret (fI, en, fW, fP, pn) hx hb hr hlocks hAe (hP.sub [0, 1, 2, 3, 4, 5, 6, 7, 8, 9, 10] rfl) (hD.sub [0, 1, 2, 3, 4, 5, 6, 7, 8, 9, 10] (by decide) rfl) hS (Or.inl ⟨rfl, by omega, rfl, rfl⟩) dW_clip_8

def rm_c_save : Room := { frames := 2, cells := 0, slots := 0, locals := 69 }
set_option maxHeartbeats 4000000 in
set_option maxRecDepth 100000 in
theorem c_save (l : Launch) (D : va_G) (cA cB cS : ClassId) (wr : Nat) (cs : Nat) (rs : Nat) (ag : Nat) (oo : Nat) (cp : Nat) (aw : Nat) (pl : Nat) (ai : Nat) (at_ : Nat) (fI : Nat → Int) (fS : Nat → Int) (sv : Nat) (en : Nat) (st0 : Nat) (h1 : sv ≤ 12) (h2 : fS sv = (st0 : Int)) (h3 : st0 ≤ en) (h4 : en ≤ 24000) (sz : Nat) : Met l yW_save wW_save rm_c_save (pW [.ref wr] D vwCl (vwTy cA cB cS) vwNw [(wr, .inr (0, [.int (iI (cs : Int)), .int (iI (rs : Int)), .ref ag, .ref oo, .ref cp, .ref aw, .ref pl])), (cp, .inr (2, [.ref ai, .ref at_, .int (iI (sv : Int)), .int (iI (en : Int))])), (ai, .inl (cA, 24000, .inl (iA fI))), (at_, .inl (cA, 13, .inl (iA fS)))] sz) (qW (S := (Nat → Int) × (Nat → Int) × Nat × Nat) (fun (z : Int) (u : (Nat → Int) × (Nat → Int) × Nat × Nat) => (z = -3 ∧ (12 ≤ sv ∨ 24000 < en + (en - st0)) ∧ u.1 = fI ∧ u.2.1 = fS ∧ u.2.2.1 = sv ∧ u.2.2.2 = en) ∨ (z = ((sv + 1 : Nat) : Int) ∧ sv < 12 ∧ en + (en - st0) ≤ 24000 ∧ u.1 = va_cpy fI fI st0 en (en - st0) ∧ u.2.1 = uZ fS (sv + 1) (en : Int) ∧ u.2.2.1 = sv + 1 ∧ u.2.2.2 = en + (en - st0))) D vwCl [(wr, .inr (0, [.int (iI (cs : Int)), .int (iI (rs : Int)), .ref ag, .ref oo, .ref cp, .ref aw, .ref pl])), (cp, .inr (2, [.ref ai, .ref at_, .int (iI (sv : Int)), .int (iI (en : Int))])), (ai, .inl (cA, 24000, .inl (iA fI))), (at_, .inl (cA, 13, .inl (iA fS)))] sz (fun u : (Nat → Int) × (Nat → Int) × Nat × Nat => [(wr, .inr (0, [.int (iI (cs : Int)), .int (iI (rs : Int)), .ref ag, .ref oo, .ref cp, .ref aw, .ref pl])), (cp, .inr (2, [.ref ai, .ref at_, .int (iI ((u.2.2.1 : Nat) : Int)), .int (iI ((u.2.2.2 : Nat) : Int))])), (ai, .inl (cA, 24000, .inl (iA u.1))), (at_, .inl (cA, 13, .inl (iA u.2.1)))])) 0 0 (va_A [(wr, .inr (0, [.int (iI (cs : Int)), .int (iI (rs : Int)), .ref ag, .ref oo, .ref cp, .ref aw, .ref pl])), (cp, .inr (2, [.ref ai, .ref at_, .int (iI (sv : Int)), .int (iI (en : Int))])), (ai, .inl (cA, 24000, .inl (iA fI))), (at_, .inl (cA, 13, .inl (iA fS)))] sz) := by
  refine Met.ofW (cc := bW_save) (maxL := 1) (ret := (some .int)) (by decide +kernel) rfl ?_
  intro p e s m args below meth c s₁ B hml hv
  obtain ⟨rfl, hsz, hP, hKW, hD0⟩ := hv
  have hK := hKW.1
  have hN := hKW.2.2
  have hx := B.exec
  have hb := B.bytes
  have hr := B.returns
  have hts := atoms_spec (ws := wW_save) B.pre
  have hown : s.vm.findClass "WindingRaster" = some m.cls := findClass_of_methodNamed B.named
  have hlocks := B.notSynchronized
  subst hsz
  have hD := hD0.self (sz := s.heap.size)
  obtain ⟨A, hAe⟩ : ∃ A, va_A [(wr, .inr (0, [.int (iI (cs : Int)), .int (iI (rs : Int)), .ref ag, .ref oo, .ref cp, .ref aw, .ref pl])), (cp, .inr (2, [.ref ai, .ref at_, .int (iI (sv : Int)), .int (iI (en : Int))])), (ai, .inl (cA, 24000, .inl (iA fI))), (at_, .inl (cA, 13, .inl (iA fS)))] s.heap.size = A := ⟨_, rfl⟩
  rw [hAe] at hD
  have hA : ∀ q : Nat, s.heap.size ≤ q → A q := fun q h => by rw [← hAe]; exact Or.inr h
  have hS : va_S A s.heap s.heap [] := va_S.rf
  have hP : va_P D vwCl [(wr, .inr (0, [.int (iI (cs : Int)), .int (iI (rs : Int)), .ref ag, .ref oo, .ref cp, .ref aw, .ref pl])), (cp, .inr (2, [.ref ai, .ref at_, .int (iI (sv : Int)), .int (iI (en : Int))])), (ai, .inl (cA, 24000, .inl (iA fI))), (at_, .inl (cA, 13, .inl (iA fS)))] s.heap := hP
  have in_0 : ∀ w ∈ wsW, w ∈ wW_save := fun w h => List.mem_cons_of_mem _ (in0_W w h)
  have fl_47 := (hts _ (List.mem_cons_of_mem _ vm_73))
  have in_2 : ∀ w ∈ wsC, w ∈ wW_save := fun w h => List.mem_cons_of_mem _ (in0_C w h)
  have fl_121 := va_Nw.use (A := [.ref wr].toArray) rfl (hN _ vn_5)
  have hl := lv_entry ([.ref wr]) (n := 1) (Nat.le_of_ble_eq_true rfl)
  rw [lg_entry_eq]
  generalize (lg_sl ([.ref wr]) ++ List.replicate (1 - (lg_sl ([.ref wr])).length) Slot.unset).toArray = ls at hl ⊢
  have hl : lv_has ls 1 [(0, .ref wr)] := hl
  generalize hQ : MQ below (qW (S := (Nat → Int) × (Nat → Int) × Nat × Nat) (fun (z : Int) (u : (Nat → Int) × (Nat → Int) × Nat × Nat) => (z = -3 ∧ (12 ≤ sv ∨ 24000 < en + (en - st0)) ∧ u.1 = fI ∧ u.2.1 = fS ∧ u.2.2.1 = sv ∧ u.2.2.2 = en) ∨ (z = ((sv + 1 : Nat) : Int) ∧ sv < 12 ∧ en + (en - st0) ≤ 24000 ∧ u.1 = va_cpy fI fI st0 en (en - st0) ∧ u.2.1 = uZ fS (sv + 1) (en : Int) ∧ u.2.2.1 = sv + 1 ∧ u.2.2.2 = en + (en - st0))) D vwCl [(wr, .inr (0, [.int (iI (cs : Int)), .int (iI (rs : Int)), .ref ag, .ref oo, .ref cp, .ref aw, .ref pl])), (cp, .inr (2, [.ref ai, .ref at_, .int (iI (sv : Int)), .int (iI (en : Int))])), (ai, .inl (cA, 24000, .inl (iA fI))), (at_, .inl (cA, 13, .inl (iA fS)))] s.heap.size (fun u : (Nat → Int) × (Nat → Int) × Nat × Nat => [(wr, .inr (0, [.int (iI (cs : Int)), .int (iI (rs : Int)), .ref ag, .ref oo, .ref cp, .ref aw, .ref pl])), (cp, .inr (2, [.ref ai, .ref at_, .int (iI ((u.2.2.1 : Nat) : Int)), .int (iI ((u.2.2.2 : Nat) : Int))])), (ai, .inl (cA, 24000, .inl (iA u.1))), (at_, .inl (cA, 13, .inl (iA u.2.1)))])) [.ref wr].toArray s 0 0 (va_A [(wr, .inr (0, [.int (iI (cs : Int)), .int (iI (rs : Int)), .ref ag, .ref oo, .ref cp, .ref aw, .ref pl])), (cp, .inr (2, [.ref ai, .ref at_, .int (iI (sv : Int)), .int (iI (en : Int))])), (ai, .inl (cA, 24000, .inl (iA fI))), (at_, .inl (cA, 13, .inl (iA fS)))] s.heap.size) = QQ
  refine lv_aload_n hx hb dW_save_0 rfl (lv_at hl 0 rfl) ?_
  refine va_get (ci := 0) (v := .ref cp) (C := "WindingRaster") (T := TW) (N := 7) hx hb hts in_0 hown hK hP 0 rfl rfl 4 (by decide) fl_47 (fun _ h9 => h9) rfl dW_save_1 ?_
  refine cw_i (wc := [(cp, .inr (2, [.ref ai, .ref at_, .int (iI (sv : Int)), .int (iI (en : Int))])), (ai, .inl (cA, 24000, .inl (iA fI))), (at_, .inl (cA, 13, .inl (iA fS)))]) (wr := [(wr, .inr (0, [.int (iI (cs : Int)), .int (iI (rs : Int)), .ref ag, .ref oo, .ref cp, .ref aw, .ref pl]))]) hP hD hS hA [1, 2, 3] [0] rfl rfl (by decide) (by decide) (va_runVN (As := []) (rest := []) ⟨hx, hb, hml, hown, hts⟩ (c_push l D cA cB cS cp ai at_ fI fS sv en st0 (by omega) h2 (by omega) (by omega) _) ⟨(va_cnB 0 hts (gIn vm_203) rfl rfl rfl (hN _ vn_29) (hts _ (List.mem_cons_of_mem _ vm_5)) (by decide +kernel) ⟨Nat.le_of_ble_eq_true rfl, Nat.le_of_ble_eq_true rfl⟩), (hts _ (List.mem_cons_of_mem _ vm_202)), (hts _ (List.mem_cons_of_mem _ vm_402))⟩ (pW.preV (va_recv hK hP (ci := 2) (q0 := 1) rfl rfl) (hP.sub [1, 2, 3] rfl) (hD.sub [1, 2, 3] (by decide) rfl) hKW) rfl rfl hl.1 rfl (lv_room (Nat.le_of_ble_eq_true rfl)) dW_save_4 ⟨Nat.le_of_ble_eq_true rfl, Nat.le_of_ble_eq_true rfl⟩) (fun zp u_1 H locs hzp hP hD hS => ?_)
  obtain ⟨fI1, fS1, sv1, en1⟩ := u_1
  try dsimp only at hzp
  have hP : va_P D vwCl [(wr, .inr (0, [.int (iI (cs : Int)), .int (iI (rs : Int)), .ref ag, .ref oo, .ref cp, .ref aw, .ref pl])), (cp, .inr (2, [.ref ai, .ref at_, .int (iI (sv1 : Int)), .int (iI (en1 : Int))])), (ai, .inl (cA, 24000, .inl (iA fI1))), (at_, .inl (cA, 13, .inl (iA fS1)))] H := hP
  have hD : va_D A [(wr, .inr (0, [.int (iI (cs : Int)), .int (iI (rs : Int)), .ref ag, .ref oo, .ref cp, .ref aw, .ref pl])), (cp, .inr (2, [.ref ai, .ref at_, .int (iI (sv1 : Int)), .int (iI (en1 : Int))])), (ai, .inl (cA, 24000, .inl (iA fI1))), (at_, .inl (cA, 13, .inl (iA fS1)))] := hD
  refine ii_if_eq (tgt := 20) hx hb dW_save_7 (by decide) (by omega) (fun c7 => ?_) (fun c7 => ?_)
  · refine ii_bipush (n := (-3)) hx hb dW_save_20 (by decide +kernel) ?_
    rw [← hQ]
    exact wr_iret (fI1, fS1, sv1, en1) hx hb hr hlocks hAe (hP.sub [0, 1, 2, 3] rfl) (hD.sub [0, 1, 2, 3] (by decide) rfl) hS (Or.inl ⟨rfl, by rcases hzp with w | w; (exact w.2); (exfalso; omega)⟩) dW_save_22
  · refine lv_aload_n hx hb dW_save_10 rfl (lv_at hl 0 rfl) ?_
    refine va_get (ci := 0) (v := .ref cp) (C := "WindingRaster") (T := TW) (N := 7) hx hb hts in_0 hown hK hP 0 rfl rfl 4 (by decide) fl_47 (fun _ h9 => h9) rfl dW_save_11 ?_
    refine va_getN (ci := 2) (v := .int (iI (sv1 : Int))) (C := "WindingRaster$ClipPile") (T := TC) (N := 4) hx hb hts in_2 hown hK hP 1 rfl rfl 2 (by decide) fl_121 (fun _ h9 => h9) rfl dW_save_14 ?_
    refine lv_goto (tgt := 22) hx hb dW_save_17 (by decide) ?_
    rw [← hQ]
    exact wr_iret (fI1, fS1, sv1, en1) hx hb hr hlocks hAe (hP.sub [0, 1, 2, 3] rfl) (hD.sub [0, 1, 2, 3] (by decide) rfl) hS (Or.inr (by rcases hzp with w | w; (exfalso; omega); (exact ⟨by rw [w.2.2.2.2.2.1], w.2⟩))) dW_save_22

def rm_c_restore : Room := { frames := 2, cells := 0, slots := 0, locals := 40 }
set_option maxHeartbeats 4000000 in
set_option maxRecDepth 100000 in
theorem c_restore (l : Launch) (D : va_G) (cA cB cS : ClassId) (wr : Nat) (cs : Nat) (rs : Nat) (ag : Nat) (oo : Nat) (cp : Nat) (aw : Nat) (pl : Nat) (ai : Nat) (at_ : Nat) (fI : Nat → Int) (fS : Nat → Int) (sv : Nat) (en : Nat) (st0 : Nat) (h1 : sv ≤ 12) (h2 : fS sv = (st0 : Int)) (sz : Nat) : Met l yW_restore wW_restore rm_c_restore (pW [.ref wr] D vwCl (vwTy cA cB cS) vwNw [(wr, .inr (0, [.int (iI (cs : Int)), .int (iI (rs : Int)), .ref ag, .ref oo, .ref cp, .ref aw, .ref pl])), (cp, .inr (2, [.ref ai, .ref at_, .int (iI (sv : Int)), .int (iI (en : Int))])), (ai, .inl (cA, 24000, .inl (iA fI))), (at_, .inl (cA, 13, .inl (iA fS)))] sz) (qW (S := Nat × Nat) (fun (z : Int) (u : Nat × Nat) => (z = -2 ∧ sv = 0 ∧ u.1 = sv ∧ u.2 = en) ∨ (z = ((sv - 1 : Nat) : Int) ∧ 0 < sv ∧ u.1 = sv - 1 ∧ u.2 = st0)) D vwCl [(wr, .inr (0, [.int (iI (cs : Int)), .int (iI (rs : Int)), .ref ag, .ref oo, .ref cp, .ref aw, .ref pl])), (cp, .inr (2, [.ref ai, .ref at_, .int (iI (sv : Int)), .int (iI (en : Int))])), (ai, .inl (cA, 24000, .inl (iA fI))), (at_, .inl (cA, 13, .inl (iA fS)))] sz (fun u : Nat × Nat => [(wr, .inr (0, [.int (iI (cs : Int)), .int (iI (rs : Int)), .ref ag, .ref oo, .ref cp, .ref aw, .ref pl])), (cp, .inr (2, [.ref ai, .ref at_, .int (iI ((u.1 : Nat) : Int)), .int (iI ((u.2 : Nat) : Int))])), (ai, .inl (cA, 24000, .inl (iA fI))), (at_, .inl (cA, 13, .inl (iA fS)))])) 0 0 (va_A [(wr, .inr (0, [.int (iI (cs : Int)), .int (iI (rs : Int)), .ref ag, .ref oo, .ref cp, .ref aw, .ref pl])), (cp, .inr (2, [.ref ai, .ref at_, .int (iI (sv : Int)), .int (iI (en : Int))])), (ai, .inl (cA, 24000, .inl (iA fI))), (at_, .inl (cA, 13, .inl (iA fS)))] sz) := by
  refine Met.ofW (cc := bW_restore) (maxL := 1) (ret := (some .int)) (by decide +kernel) rfl ?_
  intro p e s m args below meth c s₁ B hml hv
  obtain ⟨rfl, hsz, hP, hKW, hD0⟩ := hv
  have hK := hKW.1
  have hN := hKW.2.2
  have hx := B.exec
  have hb := B.bytes
  have hr := B.returns
  have hts := atoms_spec (ws := wW_restore) B.pre
  have hown : s.vm.findClass "WindingRaster" = some m.cls := findClass_of_methodNamed B.named
  have hlocks := B.notSynchronized
  subst hsz
  have hD := hD0.self (sz := s.heap.size)
  obtain ⟨A, hAe⟩ : ∃ A, va_A [(wr, .inr (0, [.int (iI (cs : Int)), .int (iI (rs : Int)), .ref ag, .ref oo, .ref cp, .ref aw, .ref pl])), (cp, .inr (2, [.ref ai, .ref at_, .int (iI (sv : Int)), .int (iI (en : Int))])), (ai, .inl (cA, 24000, .inl (iA fI))), (at_, .inl (cA, 13, .inl (iA fS)))] s.heap.size = A := ⟨_, rfl⟩
  rw [hAe] at hD
  have hA : ∀ q : Nat, s.heap.size ≤ q → A q := fun q h => by rw [← hAe]; exact Or.inr h
  have hS : va_S A s.heap s.heap [] := va_S.rf
  have hP : va_P D vwCl [(wr, .inr (0, [.int (iI (cs : Int)), .int (iI (rs : Int)), .ref ag, .ref oo, .ref cp, .ref aw, .ref pl])), (cp, .inr (2, [.ref ai, .ref at_, .int (iI (sv : Int)), .int (iI (en : Int))])), (ai, .inl (cA, 24000, .inl (iA fI))), (at_, .inl (cA, 13, .inl (iA fS)))] s.heap := hP
  have in_0 : ∀ w ∈ wsW, w ∈ wW_restore := fun w h => List.mem_cons_of_mem _ (in0_W w h)
  have fl_47 := (hts _ (List.mem_cons_of_mem _ vm_73))
  have in_2 : ∀ w ∈ wsC, w ∈ wW_restore := fun w h => List.mem_cons_of_mem _ (in0_C w h)
  have fl_121 := va_Nw.use (A := [.ref wr].toArray) rfl (hN _ vn_5)
  have hl := lv_entry ([.ref wr]) (n := 1) (Nat.le_of_ble_eq_true rfl)
  rw [lg_entry_eq]
  generalize (lg_sl ([.ref wr]) ++ List.replicate (1 - (lg_sl ([.ref wr])).length) Slot.unset).toArray = ls at hl ⊢
  have hl : lv_has ls 1 [(0, .ref wr)] := hl
  generalize hQ : MQ below (qW (S := Nat × Nat) (fun (z : Int) (u : Nat × Nat) => (z = -2 ∧ sv = 0 ∧ u.1 = sv ∧ u.2 = en) ∨ (z = ((sv - 1 : Nat) : Int) ∧ 0 < sv ∧ u.1 = sv - 1 ∧ u.2 = st0)) D vwCl [(wr, .inr (0, [.int (iI (cs : Int)), .int (iI (rs : Int)), .ref ag, .ref oo, .ref cp, .ref aw, .ref pl])), (cp, .inr (2, [.ref ai, .ref at_, .int (iI (sv : Int)), .int (iI (en : Int))])), (ai, .inl (cA, 24000, .inl (iA fI))), (at_, .inl (cA, 13, .inl (iA fS)))] s.heap.size (fun u : Nat × Nat => [(wr, .inr (0, [.int (iI (cs : Int)), .int (iI (rs : Int)), .ref ag, .ref oo, .ref cp, .ref aw, .ref pl])), (cp, .inr (2, [.ref ai, .ref at_, .int (iI ((u.1 : Nat) : Int)), .int (iI ((u.2 : Nat) : Int))])), (ai, .inl (cA, 24000, .inl (iA fI))), (at_, .inl (cA, 13, .inl (iA fS)))])) [.ref wr].toArray s 0 0 (va_A [(wr, .inr (0, [.int (iI (cs : Int)), .int (iI (rs : Int)), .ref ag, .ref oo, .ref cp, .ref aw, .ref pl])), (cp, .inr (2, [.ref ai, .ref at_, .int (iI (sv : Int)), .int (iI (en : Int))])), (ai, .inl (cA, 24000, .inl (iA fI))), (at_, .inl (cA, 13, .inl (iA fS)))] s.heap.size) = QQ
  refine lv_aload_n hx hb dW_restore_0 rfl (lv_at hl 0 rfl) ?_
  refine va_get (ci := 0) (v := .ref cp) (C := "WindingRaster") (T := TW) (N := 7) hx hb hts in_0 hown hK hP 0 rfl rfl 4 (by decide) fl_47 (fun _ h9 => h9) rfl dW_restore_1 ?_
  refine cw_i (wc := [(cp, .inr (2, [.ref ai, .ref at_, .int (iI (sv : Int)), .int (iI (en : Int))])), (ai, .inl (cA, 24000, .inl (iA fI))), (at_, .inl (cA, 13, .inl (iA fS)))]) (wr := [(wr, .inr (0, [.int (iI (cs : Int)), .int (iI (rs : Int)), .ref ag, .ref oo, .ref cp, .ref aw, .ref pl]))]) hP hD hS hA [1, 2, 3] [0] rfl rfl (by decide) (by decide) (va_runVN (As := []) (rest := []) ⟨hx, hb, hml, hown, hts⟩ (c_pop l D cA cB cS cp ai at_ fI fS sv en st0 (by omega) h2 _) ⟨(va_cnB 0 hts (gIn vm_209) rfl rfl rfl (hN _ vn_30) (hts _ (List.mem_cons_of_mem _ vm_5)) (by decide +kernel) ⟨Nat.le_of_ble_eq_true rfl, Nat.le_of_ble_eq_true rfl⟩), (hts _ (List.mem_cons_of_mem _ vm_208)), (hts _ (List.mem_cons_of_mem _ vm_403))⟩ (pW.preV (va_recv hK hP (ci := 2) (q0 := 1) rfl rfl) (hP.sub [1, 2, 3] rfl) (hD.sub [1, 2, 3] (by decide) rfl) hKW) rfl rfl hl.1 rfl (lv_room (Nat.le_of_ble_eq_true rfl)) dW_restore_4 ⟨Nat.le_of_ble_eq_true rfl, Nat.le_of_ble_eq_true rfl⟩) (fun zp u_1 H locs hzp hP hD hS => ?_)
  obtain ⟨sv1, en1⟩ := u_1
  try dsimp only at hzp
  have hP : va_P D vwCl [(wr, .inr (0, [.int (iI (cs : Int)), .int (iI (rs : Int)), .ref ag, .ref oo, .ref cp, .ref aw, .ref pl])), (cp, .inr (2, [.ref ai, .ref at_, .int (iI (sv1 : Int)), .int (iI (en1 : Int))])), (ai, .inl (cA, 24000, .inl (iA fI))), (at_, .inl (cA, 13, .inl (iA fS)))] H := hP
  have hD : va_D A [(wr, .inr (0, [.int (iI (cs : Int)), .int (iI (rs : Int)), .ref ag, .ref oo, .ref cp, .ref aw, .ref pl])), (cp, .inr (2, [.ref ai, .ref at_, .int (iI (sv1 : Int)), .int (iI (en1 : Int))])), (ai, .inl (cA, 24000, .inl (iA fI))), (at_, .inl (cA, 13, .inl (iA fS)))] := hD
  refine ii_if_eq (tgt := 20) hx hb dW_restore_7 (by decide) (by omega) (fun c7 => ?_) (fun c7 => ?_)
  · refine ii_bipush (n := (-2)) hx hb dW_restore_20 (by decide +kernel) ?_
    rw [← hQ]
    exact wr_iret (sv1, en1) hx hb hr hlocks hAe (hP.sub [0, 1, 2, 3] rfl) (hD.sub [0, 1, 2, 3] (by decide) rfl) hS (Or.inl ⟨rfl, by rcases hzp with w | w; (exact w.2); (exfalso; omega)⟩) dW_restore_22
  · refine lv_aload_n hx hb dW_restore_10 rfl (lv_at hl 0 rfl) ?_
    refine va_get (ci := 0) (v := .ref cp) (C := "WindingRaster") (T := TW) (N := 7) hx hb hts in_0 hown hK hP 0 rfl rfl 4 (by decide) fl_47 (fun _ h9 => h9) rfl dW_restore_11 ?_
    refine va_getN (ci := 2) (v := .int (iI (sv1 : Int))) (C := "WindingRaster$ClipPile") (T := TC) (N := 4) hx hb hts in_2 hown hK hP 1 rfl rfl 2 (by decide) fl_121 (fun _ h9 => h9) rfl dW_restore_14 ?_
    refine lv_goto (tgt := 22) hx hb dW_restore_17 (by decide) ?_
    rw [← hQ]
    exact wr_iret (sv1, en1) hx hb hr hlocks hAe (hP.sub [0, 1, 2, 3] rfl) (hD.sub [0, 1, 2, 3] (by decide) rfl) hS (Or.inr (by rcases hzp with w | w; (exfalso; omega); (exact ⟨by rw [w.2.2.1], w.2⟩))) dW_restore_22
end
section
def rm_c_Outline_init : Room := { frames := 1, cells := 3, slots := 12288, locals := 20 }
set_option maxHeartbeats 4000000 in
set_option maxRecDepth 100000 in
theorem c_Outline_init (l : Launch) (D : va_G) (cA cB cS : ClassId) (oo : Nat) (sz : Nat) : Met l yO_init wO_init rm_c_Outline_init (pW [.ref oo] D vwCl (vwTy cA cB cS) vwNw [(oo, .inr (1, [.null, .null, .null, .int (iI 0), .int (iI 0)]))] sz) (qV (S := Nat × Nat × Nat) (fun u : Nat × Nat × Nat => True) D vwCl [(oo, .inr (1, [.null, .null, .null, .int (iI 0), .int (iI 0)]))] sz (fun u : Nat × Nat × Nat => [(oo, .inr (1, [.ref u.1, .ref u.2.1, .ref u.2.2, .int (iI 0), .int (iI 0)])), (u.1, .inl (cA, 4096, .inl (iA (fun _ => 0)))), (u.2.1, .inl (cA, 4096, .inl (iA (fun _ => 0)))), (u.2.2, .inl (cA, 4096, .inl (iA (fun _ => 0))))])) 3 12288 (va_A [(oo, .inr (1, [.null, .null, .null, .int (iI 0), .int (iI 0)]))] sz) := by
  refine Met.ofW (cc := bO_init) (maxL := 1) (ret := none) (by decide +kernel) rfl ?_
  intro p e s m args below meth c s₁ B hml hv
  obtain ⟨rfl, hsz, hP, hKW, hD0⟩ := hv
  have hK := hKW.1
  have hN := hKW.2.2
  have hx := B.exec
  have hb := B.bytes
  have hr := B.returns
  have hts := atoms_spec (ws := wO_init) B.pre
  have hown : s.vm.findClass "WindingRaster$Outline" = some m.cls := findClass_of_methodNamed B.named
  have hlocks := B.notSynchronized
  subst hsz
  have hD := hD0.self (sz := s.heap.size)
  obtain ⟨A, hAe⟩ : ∃ A, va_A [(oo, .inr (1, [.null, .null, .null, .int (iI 0), .int (iI 0)]))] s.heap.size = A := ⟨_, rfl⟩
  rw [hAe] at hD
  have hA : ∀ q : Nat, s.heap.size ≤ q → A q := fun q h => by rw [← hAe]; exact Or.inr h
  have hS : va_S A s.heap s.heap [] := va_S.rf
  have hP : va_P D vwCl [(oo, .inr (1, [.null, .null, .null, .int (iI 0), .int (iI 0)]))] s.heap := hP
  have ml_3 := (hts _ (List.mem_cons_of_mem _ vm_31))
  have oi_i := (hts _ (List.mem_cons_of_mem _ vm_16))
  have oi_c := (hts _ (List.mem_cons_of_mem _ vx_obj))
  have hari := (hts _ (List.mem_cons_of_mem _ vm_42))
  have in_1 : ∀ w ∈ wsO, w ∈ wO_init := fun w h => List.mem_cons_of_mem _ (in0_O w h)
  have fl_9 := (hts _ (List.mem_cons_of_mem _ vm_32))
  have hin : meth.name = "<init>" := (name_of_methodNamed B.named B.method).1
  have fl_15 := (hts _ (List.mem_cons_of_mem _ vm_33))
  have fl_18 := (hts _ (List.mem_cons_of_mem _ vm_34))
  have hl := lv_entry ([.ref oo]) (n := 1) (Nat.le_of_ble_eq_true rfl)
  rw [lg_entry_eq]
  generalize (lg_sl ([.ref oo]) ++ List.replicate (1 - (lg_sl ([.ref oo])).length) Slot.unset).toArray = ls at hl ⊢
  have hl : lv_has ls 1 [(0, .ref oo)] := hl
  generalize hQ : MQ below (qV (S := Nat × Nat × Nat) (fun u : Nat × Nat × Nat => True) D vwCl [(oo, .inr (1, [.null, .null, .null, .int (iI 0), .int (iI 0)]))] s.heap.size (fun u : Nat × Nat × Nat => [(oo, .inr (1, [.ref u.1, .ref u.2.1, .ref u.2.2, .int (iI 0), .int (iI 0)])), (u.1, .inl (cA, 4096, .inl (iA (fun _ => 0)))), (u.2.1, .inl (cA, 4096, .inl (iA (fun _ => 0)))), (u.2.2, .inl (cA, 4096, .inl (iA (fun _ => 0))))])) [.ref oo].toArray s 3 12288 (va_A [(oo, .inr (1, [.null, .null, .null, .int (iI 0), .int (iI 0)]))] s.heap.size) = QQ
  refine lv_aload_n hx hb dO_init_0 rfl (lv_at hl 0 rfl) ?_
  refine W.objInit hx hb hown ml_3 oi_i oi_c rfl (by rw [hml]; exact hl.1) rfl dO_init_1 (Nat.le_of_ble_eq_true rfl) (Nat.le_of_ble_eq_true rfl) ?_
  refine W.eq (g2 := F0 m 4 ls []) rfl ?_
  refine lv_aload_n hx hb dO_init_4 rfl (lv_at hl 0 rfl) ?_
  refine ii_sipush (n := 4096) hx hb dO_init_5 (by decide +kernel) ?_
  refine ii_newa hx hb hari hK hP hD hS hA 0 rfl 4096 rfl (by omega) (by decide) (by decide) dO_init_8 (fun ax H hP hD hS => ?_)
  refine W.widen (k := 1) (n := 4096) (by omega) (by omega) ?_
  have hP : va_P D vwCl [(oo, .inr (1, [.null, .null, .null, .int (iI 0), .int (iI 0)])), (ax, .inl (cA, 4096, .inl (iA (fun _ => 0))))] H := hP
  have hD : va_D A [(oo, .inr (1, [.null, .null, .null, .int (iI 0), .int (iI 0)])), (ax, .inl (cA, 4096, .inl (iA (fun _ => 0))))] := hD
  refine va_putF (ci := 1) (v := .ref ax) (ty := (.array .int)) (C := "WindingRaster$Outline") (T := TO) (N := 5) hx hb hts in_1 tO tO_ok nO hown hK hP hD hS 0 rfl rfl 0 (by decide) fl_9 (fun _ h9 => h9) rfl hin rfl (by decide +kernel) rfl rfl (Nat.le_of_ble_eq_true rfl) dO_init_10 (fun H locs hP hD hS => ?_)
  have hP : va_P D vwCl [(oo, .inr (1, [.ref ax, .null, .null, .int (iI 0), .int (iI 0)])), (ax, .inl (cA, 4096, .inl (iA (fun _ => 0))))] H := hP
  have hD : va_D A [(oo, .inr (1, [.ref ax, .null, .null, .int (iI 0), .int (iI 0)])), (ax, .inl (cA, 4096, .inl (iA (fun _ => 0))))] := hD
  refine lv_aload_n hx hb dO_init_13 rfl (lv_at hl 0 rfl) ?_
  refine ii_sipush (n := 4096) hx hb dO_init_14 (by decide +kernel) ?_
  refine ii_newa hx hb hari hK hP hD hS hA 0 rfl 4096 rfl (by omega) (by decide) (by decide) dO_init_17 (fun ay H hP hD hS => ?_)
  refine W.widen (k := 2) (n := 8192) (by omega) (by omega) ?_
  have hP : va_P D vwCl [(oo, .inr (1, [.ref ax, .null, .null, .int (iI 0), .int (iI 0)])), (ax, .inl (cA, 4096, .inl (iA (fun _ => 0)))), (ay, .inl (cA, 4096, .inl (iA (fun _ => 0))))] H := hP
  have hD : va_D A [(oo, .inr (1, [.ref ax, .null, .null, .int (iI 0), .int (iI 0)])), (ax, .inl (cA, 4096, .inl (iA (fun _ => 0)))), (ay, .inl (cA, 4096, .inl (iA (fun _ => 0))))] := hD
  refine va_putF (ci := 1) (v := .ref ay) (ty := (.array .int)) (C := "WindingRaster$Outline") (T := TO) (N := 5) hx hb hts in_1 tO tO_ok nO hown hK hP hD hS 0 rfl rfl 1 (by decide) fl_15 (fun _ h9 => h9) rfl hin rfl (by decide +kernel) rfl rfl (Nat.le_of_ble_eq_true rfl) dO_init_19 (fun H locs hP hD hS => ?_)
  have hP : va_P D vwCl [(oo, .inr (1, [.ref ax, .ref ay, .null, .int (iI 0), .int (iI 0)])), (ax, .inl (cA, 4096, .inl (iA (fun _ => 0)))), (ay, .inl (cA, 4096, .inl (iA (fun _ => 0))))] H := hP
  have hD : va_D A [(oo, .inr (1, [.ref ax, .ref ay, .null, .int (iI 0), .int (iI 0)])), (ax, .inl (cA, 4096, .inl (iA (fun _ => 0)))), (ay, .inl (cA, 4096, .inl (iA (fun _ => 0))))] := hD
  refine lv_aload_n hx hb dO_init_22 rfl (lv_at hl 0 rfl) ?_
  refine ii_sipush (n := 4096) hx hb dO_init_23 (by decide +kernel) ?_
  refine ii_newa hx hb hari hK hP hD hS hA 0 rfl 4096 rfl (by omega) (by decide) (by decide) dO_init_26 (fun an H hP hD hS => ?_)
  refine W.widen (k := 3) (n := 12288) (by omega) (by omega) ?_
  have hP : va_P D vwCl [(oo, .inr (1, [.ref ax, .ref ay, .null, .int (iI 0), .int (iI 0)])), (ax, .inl (cA, 4096, .inl (iA (fun _ => 0)))), (ay, .inl (cA, 4096, .inl (iA (fun _ => 0)))), (an, .inl (cA, 4096, .inl (iA (fun _ => 0))))] H := hP
  have hD : va_D A [(oo, .inr (1, [.ref ax, .ref ay, .null, .int (iI 0), .int (iI 0)])), (ax, .inl (cA, 4096, .inl (iA (fun _ => 0)))), (ay, .inl (cA, 4096, .inl (iA (fun _ => 0)))), (an, .inl (cA, 4096, .inl (iA (fun _ => 0))))] := hD
  refine va_putF (ci := 1) (v := .ref an) (ty := (.array .int)) (C := "WindingRaster$Outline") (T := TO) (N := 5) hx hb hts in_1 tO tO_ok nO hown hK hP hD hS 0 rfl rfl 2 (by decide) fl_18 (fun _ h9 => h9) rfl hin rfl (by decide +kernel) rfl rfl (Nat.le_of_ble_eq_true rfl) dO_init_28 (fun H locs hP hD hS => ?_)
  have hP : va_P D vwCl [(oo, .inr (1, [.ref ax, .ref ay, .ref an, .int (iI 0), .int (iI 0)])), (ax, .inl (cA, 4096, .inl (iA (fun _ => 0)))), (ay, .inl (cA, 4096, .inl (iA (fun _ => 0)))), (an, .inl (cA, 4096, .inl (iA (fun _ => 0))))] H := hP
  have hD : va_D A [(oo, .inr (1, [.ref ax, .ref ay, .ref an, .int (iI 0), .int (iI 0)])), (ax, .inl (cA, 4096, .inl (iA (fun _ => 0)))), (ay, .inl (cA, 4096, .inl (iA (fun _ => 0)))), (an, .inl (cA, 4096, .inl (iA (fun _ => 0))))] := hD
  rw [← hQ]
  exact wr_vret (ax, ay, an) hx hb hr hlocks hAe (hP.sub [0, 1, 2, 3] rfl) (hD.sub [0, 1, 2, 3] (by decide) rfl) hS trivial dO_init_31

def rm_c_WR_init : Room := { frames := 2, cells := 11, slots := 134872, locals := 45 }
set_option maxHeartbeats 4000000 in
set_option maxRecDepth 100000 in
theorem c_WR_init (l : Launch) (D : va_G) (cA cB cS : ClassId) (wr : Nat) (a1 : Int) (a2 : Int) (cs : Nat) (rs : Nat) (h1 : i32 a1) (h2 : i32 a2) (h3 : (cs : Int) = max 1 (min 256 a1)) (h4 : (rs : Int) = max 1 (min 256 a2)) (sz : Nat) : Met l yW_init wW_init rm_c_WR_init (pW [.ref wr, .int (iI a1), .int (iI a2)] D vwCl (vwTy cA cB cS) vwNw [(wr, .inr (0, [.int (iI 0), .int (iI 0), .null, .null, .null, .null, .null]))] sz) (qV (S := Nat × Nat × Nat × Nat × Nat × Nat × Nat × Nat × Nat × Nat × Nat × (Nat → Int) × (Nat → Int)) (fun u : Nat × Nat × Nat × Nat × Nat × Nat × Nat × Nat × Nat × Nat × Nat × (Nat → Int) × (Nat → Int) => (∀ p, p < cs * rs → u.2.2.2.2.2.2.2.2.2.2.2.1 p = 255) ∧ ∀ k : Nat, k < rs → u.2.2.2.2.2.2.2.2.2.2.2.2 k = ((enc (k, 0, cs) : Nat) : Int)) D vwCl [(wr, .inr (0, [.int (iI 0), .int (iI 0), .null, .null, .null, .null, .null]))] sz (fun u : Nat × Nat × Nat × Nat × Nat × Nat × Nat × Nat × Nat × Nat × Nat × (Nat → Int) × (Nat → Int) => [(wr, .inr (0, [.int (iI (cs : Int)), .int (iI (rs : Int)), .ref u.1, .ref u.2.1, .ref u.2.2.2.2.2.1, .ref u.2.2.2.2.2.2.2.2.1, .ref u.2.2.2.2.2.2.2.2.2.1])), (u.1, .inl (cA, cs * rs, .inl (iA u.2.2.2.2.2.2.2.2.2.2.2.1))), (u.2.1, .inr (1, [.ref u.2.2.1, .ref u.2.2.2.1, .ref u.2.2.2.2.1, .int (iI 0), .int (iI 0)])), (u.2.2.1, .inl (cA, 4096, .inl (iA (fun _ => 0)))), (u.2.2.2.1, .inl (cA, 4096, .inl (iA (fun _ => 0)))), (u.2.2.2.2.1, .inl (cA, 4096, .inl (iA (fun _ => 0)))), (u.2.2.2.2.2.1, .inr (2, [.ref u.2.2.2.2.2.2.1, .ref u.2.2.2.2.2.2.2.1, .int (iI 0), .int (iI (rs : Int))])), (u.2.2.2.2.2.2.1, .inl (cA, 24000, .inl (iA u.2.2.2.2.2.2.2.2.2.2.2.2))), (u.2.2.2.2.2.2.2.1, .inl (cA, 13, .inl (iA (fun _ => 0)))), (u.2.2.2.2.2.2.2.2.1, .inl (cA, cs, .inl (iA (fun _ => 0)))), (u.2.2.2.2.2.2.2.2.2.1, .inr (3, [.ref u.2.2.2.2.2.2.2.2.2.2.1, .int (iI 0)])), (u.2.2.2.2.2.2.2.2.2.2.1, .inl (cA, (cs + 1) / 2 * rs, .inl (iA (fun _ => 0))))])) 11 134872 (va_A [(wr, .inr (0, [.int (iI 0), .int (iI 0), .null, .null, .null, .null, .null]))] sz) := by
  refine Met.ofW (cc := bW_init) (maxL := 3) (ret := none) (by decide +kernel) rfl ?_
  intro p e s m args below meth c s₁ B hml hv
  obtain ⟨rfl, hsz, hP, hKW, hD0⟩ := hv
  have hK := hKW.1
  have hN := hKW.2.2
  have hx := B.exec
  have hb := B.bytes
  have hr := B.returns
  have hts := atoms_spec (ws := wW_init) B.pre
  have hown : s.vm.findClass "WindingRaster" = some m.cls := findClass_of_methodNamed B.named
  have hlocks := B.notSynchronized
  subst hsz
  have hD := hD0.self (sz := s.heap.size)
  obtain ⟨A, hAe⟩ : ∃ A, va_A [(wr, .inr (0, [.int (iI 0), .int (iI 0), .null, .null, .null, .null, .null]))] s.heap.size = A := ⟨_, rfl⟩
  rw [hAe] at hD
  have hA : ∀ q : Nat, s.heap.size ≤ q → A q := fun q h => by rw [← hAe]; exact Or.inr h
  have hS : va_S A s.heap s.heap [] := va_S.rf
  have hP : va_P D vwCl [(wr, .inr (0, [.int (iI 0), .int (iI 0), .null, .null, .null, .null, .null]))] s.heap := hP
  have ml_1 := (hts _ (List.mem_cons_of_mem _ vm_15))
  have oi_i := (hts _ (List.mem_cons_of_mem _ vm_16))
  have oi_c := (hts _ (List.mem_cons_of_mem _ vx_obj))
  have ml_9 := (hts _ (List.mem_cons_of_mem _ vm_18))
  have ms_min := (hts _ (List.mem_cons_of_mem _ vm_19))
  have mi_math := (hts _ (List.mem_cons_of_mem _ vm_2))
  have mc_min := (hts _ (List.mem_cons_of_mem _ vx_min))
  have ml_15 := (hts _ (List.mem_cons_of_mem _ vm_21))
  have ms_max := (hts _ (List.mem_cons_of_mem _ vm_22))
  have mc_max := (hts _ (List.mem_cons_of_mem _ vx_max))
  have in_0 : ∀ w ∈ wsW, w ∈ wW_init := fun w h => List.mem_cons_of_mem _ (in0_W w h)
  have fl_18 := (hts _ (List.mem_cons_of_mem _ vm_69))
  have hin : meth.name = "<init>" := (name_of_methodNamed B.named B.method).1
  have fl_22 := (hts _ (List.mem_cons_of_mem _ vm_70))
  have hari := (hts _ (List.mem_cons_of_mem _ vm_42))
  have fl_25 := (hts _ (List.mem_cons_of_mem _ vm_71))
  have in_1 : ∀ w ∈ wsO, w ∈ wW_init := fun w h => List.mem_cons_of_mem _ (in0_O w h)
  have fl_38 := (hts _ (List.mem_cons_of_mem _ vm_72))
  have in_2 : ∀ w ∈ wsC, w ∈ wW_init := fun w h => List.mem_cons_of_mem _ (in0_C w h)
  have fl_47 := (hts _ (List.mem_cons_of_mem _ vm_73))
  have fl_51 := (hts _ (List.mem_cons_of_mem _ vm_74))
  have in_3 : ∀ w ∈ wsL, w ∈ wW_init := fun w h => List.mem_cons_of_mem _ (in0_L w h)
  have fl_59 := (hts _ (List.mem_cons_of_mem _ vm_75))
  have hl := lv_entry ([.ref wr, .int (iI a1), .int (iI a2)]) (n := 3) (Nat.le_of_ble_eq_true rfl)
  rw [lg_entry_eq]
  generalize (lg_sl ([.ref wr, .int (iI a1), .int (iI a2)]) ++ List.replicate (3 - (lg_sl ([.ref wr, .int (iI a1), .int (iI a2)])).length) Slot.unset).toArray = ls at hl ⊢
  have hl : lv_has ls 3 [(0, .ref wr), (1, .int (iI a1)), (2, .int (iI a2))] := hl
  generalize hQ : MQ below (qV (S := Nat × Nat × Nat × Nat × Nat × Nat × Nat × Nat × Nat × Nat × Nat × (Nat → Int) × (Nat → Int)) (fun u : Nat × Nat × Nat × Nat × Nat × Nat × Nat × Nat × Nat × Nat × Nat × (Nat → Int) × (Nat → Int) => (∀ p, p < cs * rs → u.2.2.2.2.2.2.2.2.2.2.2.1 p = 255) ∧ ∀ k : Nat, k < rs → u.2.2.2.2.2.2.2.2.2.2.2.2 k = ((enc (k, 0, cs) : Nat) : Int)) D vwCl [(wr, .inr (0, [.int (iI 0), .int (iI 0), .null, .null, .null, .null, .null]))] s.heap.size (fun u : Nat × Nat × Nat × Nat × Nat × Nat × Nat × Nat × Nat × Nat × Nat × (Nat → Int) × (Nat → Int) => [(wr, .inr (0, [.int (iI (cs : Int)), .int (iI (rs : Int)), .ref u.1, .ref u.2.1, .ref u.2.2.2.2.2.1, .ref u.2.2.2.2.2.2.2.2.1, .ref u.2.2.2.2.2.2.2.2.2.1])), (u.1, .inl (cA, cs * rs, .inl (iA u.2.2.2.2.2.2.2.2.2.2.2.1))), (u.2.1, .inr (1, [.ref u.2.2.1, .ref u.2.2.2.1, .ref u.2.2.2.2.1, .int (iI 0), .int (iI 0)])), (u.2.2.1, .inl (cA, 4096, .inl (iA (fun _ => 0)))), (u.2.2.2.1, .inl (cA, 4096, .inl (iA (fun _ => 0)))), (u.2.2.2.2.1, .inl (cA, 4096, .inl (iA (fun _ => 0)))), (u.2.2.2.2.2.1, .inr (2, [.ref u.2.2.2.2.2.2.1, .ref u.2.2.2.2.2.2.2.1, .int (iI 0), .int (iI (rs : Int))])), (u.2.2.2.2.2.2.1, .inl (cA, 24000, .inl (iA u.2.2.2.2.2.2.2.2.2.2.2.2))), (u.2.2.2.2.2.2.2.1, .inl (cA, 13, .inl (iA (fun _ => 0)))), (u.2.2.2.2.2.2.2.2.1, .inl (cA, cs, .inl (iA (fun _ => 0)))), (u.2.2.2.2.2.2.2.2.2.1, .inr (3, [.ref u.2.2.2.2.2.2.2.2.2.2.1, .int (iI 0)])), (u.2.2.2.2.2.2.2.2.2.2.1, .inl (cA, (cs + 1) / 2 * rs, .inl (iA (fun _ => 0))))])) [.ref wr, .int (iI a1), .int (iI a2)].toArray s 11 134872 (va_A [(wr, .inr (0, [.int (iI 0), .int (iI 0), .null, .null, .null, .null, .null]))] s.heap.size) = QQ
  have hpm : (cs + 1) / 2 * rs ≤ 128 * 256 := Nat.mul_le_mul (by omega) (by omega)
  have hgm : cs * rs ≤ 256 * 256 := Nat.mul_le_mul (by omega) (by omega)
  refine lv_aload_n hx hb dW_init_0 rfl (lv_at hl 0 rfl) ?_
  refine W.objInit hx hb hown ml_1 oi_i oi_c rfl (by rw [hml]; exact hl.1) rfl dW_init_1 (Nat.le_of_ble_eq_true rfl) (Nat.le_of_ble_eq_true rfl) ?_
  refine W.eq (g2 := F0 m 4 ls []) rfl ?_
  refine lv_aload_n hx hb dW_init_4 rfl (lv_at hl 0 rfl) ?_
  refine ii_iconst (n := 1) hx hb dW_init_5 ?_
  refine ii_sipush (n := 256) hx hb dW_init_6 (by decide +kernel) ?_
  refine lv_iload_n hx hb dW_init_9 rfl (lv_at hl 1 rfl) ?_
  refine ii_mmin hx hb (hml.trans hl.1.symm) hown ml_9 ms_min mi_math mc_min (Nat.le_of_ble_eq_true rfl) (Nat.le_of_ble_eq_true rfl) (Nat.le_of_ble_eq_true rfl) (Nat.le_of_ble_eq_true rfl) (by omega) (by omega) dW_init_10 ?_
  refine ii_mmax hx hb (hml.trans hl.1.symm) hown ml_15 ms_max mi_math mc_max (Nat.le_of_ble_eq_true rfl) (Nat.le_of_ble_eq_true rfl) (Nat.le_of_ble_eq_true rfl) (Nat.le_of_ble_eq_true rfl) (by omega) (by omega) dW_init_13 ?_
  refine ii_top (y := (cs : Int)) h3.symm ?_
  refine va_putF (ci := 0) (v := .int (iI (cs : Int))) (ty := .int) (C := "WindingRaster") (T := TW) (N := 7) hx hb hts in_0 tW tW_ok nW hown hK hP hD hS 0 rfl rfl 0 (by decide) fl_18 (fun _ h9 => h9) rfl hin rfl (by decide +kernel) rfl rfl (Nat.le_of_ble_eq_true rfl) dW_init_16 (fun H locs hP hD hS => ?_)
  have hP : va_P D vwCl [(wr, .inr (0, [.int (iI (cs : Int)), .int (iI 0), .null, .null, .null, .null, .null]))] H := hP
  have hD : va_D A [(wr, .inr (0, [.int (iI (cs : Int)), .int (iI 0), .null, .null, .null, .null, .null]))] := hD
  refine lv_aload_n hx hb dW_init_19 rfl (lv_at hl 0 rfl) ?_
  refine ii_iconst (n := 1) hx hb dW_init_20 ?_
  refine ii_sipush (n := 256) hx hb dW_init_21 (by decide +kernel) ?_
  refine lv_iload_n hx hb dW_init_24 rfl (lv_at hl 2 rfl) ?_
  refine ii_mmin hx hb (hml.trans hl.1.symm) hown ml_9 ms_min mi_math mc_min (Nat.le_of_ble_eq_true rfl) (Nat.le_of_ble_eq_true rfl) (Nat.le_of_ble_eq_true rfl) (Nat.le_of_ble_eq_true rfl) (by omega) (by omega) dW_init_25 ?_
  refine ii_mmax hx hb (hml.trans hl.1.symm) hown ml_15 ms_max mi_math mc_max (Nat.le_of_ble_eq_true rfl) (Nat.le_of_ble_eq_true rfl) (Nat.le_of_ble_eq_true rfl) (Nat.le_of_ble_eq_true rfl) (by omega) (by omega) dW_init_28 ?_
  refine ii_top (y := (rs : Int)) h4.symm ?_
  refine va_putF (ci := 0) (v := .int (iI (rs : Int))) (ty := .int) (C := "WindingRaster") (T := TW) (N := 7) hx hb hts in_0 tW tW_ok nW hown hK hP hD hS 0 rfl rfl 1 (by decide) fl_22 (fun _ h9 => h9) rfl hin rfl (by decide +kernel) rfl rfl (Nat.le_of_ble_eq_true rfl) dW_init_31 (fun H locs hP hD hS => ?_)
  have hP : va_P D vwCl [(wr, .inr (0, [.int (iI (cs : Int)), .int (iI (rs : Int)), .null, .null, .null, .null, .null]))] H := hP
  have hD : va_D A [(wr, .inr (0, [.int (iI (cs : Int)), .int (iI (rs : Int)), .null, .null, .null, .null, .null]))] := hD
  refine lv_aload_n hx hb dW_init_34 rfl (lv_at hl 0 rfl) ?_
  refine lv_aload_n hx hb dW_init_35 rfl (lv_at hl 0 rfl) ?_
  refine va_get (ci := 0) (v := .int (iI (cs : Int))) (C := "WindingRaster") (T := TW) (N := 7) hx hb hts in_0 hown hK hP 0 rfl rfl 0 (by decide) fl_18 (fun _ h9 => h9) rfl dW_init_36 ?_
  refine lv_aload_n hx hb dW_init_39 rfl (lv_at hl 0 rfl) ?_
  refine va_get (ci := 0) (v := .int (iI (rs : Int))) (C := "WindingRaster") (T := TW) (N := 7) hx hb hts in_0 hown hK hP 0 rfl rfl 1 (by decide) fl_22 (fun _ h9 => h9) rfl dW_init_40 ?_
  refine ii_imul hx hb dW_init_43 ?_
  refine ii_top (y := ((cs * rs : Nat) : Int)) (by push_cast; rfl) ?_
  refine ii_newa hx hb hari hK hP hD hS hA 0 rfl (cs * rs) rfl (by omega) (by decide) (by show 0 + cs * rs ≤ 134872; omega) dW_init_44 (fun ag H hP hD hS => ?_)
  refine W.widen (k := 1) (n := 65536) (by omega) (by omega) ?_
  have hP : va_P D vwCl [(wr, .inr (0, [.int (iI (cs : Int)), .int (iI (rs : Int)), .null, .null, .null, .null, .null])), (ag, .inl (cA, cs * rs, .inl (iA (fun _ => 0))))] H := hP
  have hD : va_D A [(wr, .inr (0, [.int (iI (cs : Int)), .int (iI (rs : Int)), .null, .null, .null, .null, .null])), (ag, .inl (cA, cs * rs, .inl (iA (fun _ => 0))))] := hD
  refine va_putF (ci := 0) (v := .ref ag) (ty := (.array .int)) (C := "WindingRaster") (T := TW) (N := 7) hx hb hts in_0 tW tW_ok nW hown hK hP hD hS 0 rfl rfl 2 (by decide) fl_25 (fun _ h9 => h9) rfl hin rfl (by decide +kernel) rfl rfl (Nat.le_of_ble_eq_true rfl) dW_init_46 (fun H locs hP hD hS => ?_)
  have hP : va_P D vwCl [(wr, .inr (0, [.int (iI (cs : Int)), .int (iI (rs : Int)), .ref ag, .null, .null, .null, .null])), (ag, .inl (cA, cs * rs, .inl (iA (fun _ => 0))))] H := hP
  have hD : va_D A [(wr, .inr (0, [.int (iI (cs : Int)), .int (iI (rs : Int)), .ref ag, .null, .null, .null, .null])), (ag, .inl (cA, cs * rs, .inl (iA (fun _ => 0))))] := hD
  refine lv_aload_n hx hb dW_init_49 rfl (lv_at hl 0 rfl) ?_
  refine va_get (ci := 0) (v := .ref ag) (C := "WindingRaster") (T := TW) (N := 7) hx hb hts in_0 hown hK hP 0 rfl rfl 2 (by decide) fl_25 (fun _ h9 => h9) rfl dW_init_50 ?_
  refine ii_sipush (n := 255) hx hb dW_init_53 (by decide +kernel) ?_
  refine cw_v (wc := [(ag, .inl (cA, cs * rs, .inl (iA (fun _ => 0))))]) (wr := [(wr, .inr (0, [.int (iI (cs : Int)), .int (iI (rs : Int)), .ref ag, .null, .null, .null, .null]))]) hP hD hS hA [1] [0] rfl rfl (by decide) (by decide) (va_runS (As := [.ref ag, .int (iI 255)]) (rest := []) ⟨hx, hb, hml, hown, hts⟩ (c_afill l D cA cB cS ag (cs * rs) (fun _ => 0) 255 (by omega) _) ⟨(callB_of 2 hts (gIn vm_26) rfl rfl rfl (hts _ (List.mem_cons_of_mem _ vm_3)) (hts _ (List.mem_cons_of_mem _ vm_24)) (by decide +kernel) ⟨Nat.le_of_ble_eq_true rfl, Nat.le_of_ble_eq_true rfl⟩), (hts _ (List.mem_cons_of_mem _ vm_25))⟩ (pW.pre (hP.sub [1] rfl) (hD.sub [1] (by decide) rfl) hKW) rfl rfl hl.1 rfl (lv_room (Nat.le_of_ble_eq_true rfl)) dW_init_56 ⟨Nat.le_of_ble_eq_true rfl, Nat.le_of_ble_eq_true rfl⟩) (fun u_1 H locs hzf hP hD hS => ?_)
  obtain ⟨fG, rfl⟩ : ∃ z_, z_ = u_1 := ⟨_, rfl⟩
  try dsimp only at hzf
  have hP : va_P D vwCl [(wr, .inr (0, [.int (iI (cs : Int)), .int (iI (rs : Int)), .ref ag, .null, .null, .null, .null])), (ag, .inl (cA, cs * rs, .inl (iA fG)))] H := hP
  have hD : va_D A [(wr, .inr (0, [.int (iI (cs : Int)), .int (iI (rs : Int)), .ref ag, .null, .null, .null, .null])), (ag, .inl (cA, cs * rs, .inl (iA fG)))] := hD
  refine lv_aload_n hx hb dW_init_59 rfl (lv_at hl 0 rfl) ?_
  refine va_new (ci := 1) (fs := [.null, .null, .null, .int (iI 0), .int (iI 0)]) (C := "WindingRaster$Outline") (T := TO) (N := 5) hx hb hts in_1 tO tO_ok hown (hts _ (List.mem_cons_of_mem _ vm_27)) (hts _ (List.mem_cons_of_mem _ vm_28)) (hts _ (List.mem_cons_of_mem _ vm_4)) hK hP hD hS hA rfl (fun j hj => by rcases (show j = 0 ∨ j = 1 ∨ j = 2 ∨ j = 3 ∨ j = 4 by omega) with rfl | rfl | rfl | rfl | rfl <;> rfl) (by decide) (by decide) dW_init_60 (fun oo H hP hD hS => ?_)
  refine W.widen (k := 2) (n := 65541) (by omega) (by omega) ?_
  have hP : va_P D vwCl [(wr, .inr (0, [.int (iI (cs : Int)), .int (iI (rs : Int)), .ref ag, .null, .null, .null, .null])), (ag, .inl (cA, cs * rs, .inl (iA fG))), (oo, .inr (1, [.null, .null, .null, .int (iI 0), .int (iI 0)]))] H := hP
  have hD : va_D A [(wr, .inr (0, [.int (iI (cs : Int)), .int (iI (rs : Int)), .ref ag, .null, .null, .null, .null])), (ag, .inl (cA, cs * rs, .inl (iA fG))), (oo, .inr (1, [.null, .null, .null, .int (iI 0), .int (iI 0)]))] := hD
  refine lv_dup hx hb dW_init_63 rfl ?_
  refine cw_v (wc := [(oo, .inr (1, [.null, .null, .null, .int (iI 0), .int (iI 0)]))]) (wr := [(wr, .inr (0, [.int (iI (cs : Int)), .int (iI (rs : Int)), .ref ag, .null, .null, .null, .null])), (ag, .inl (cA, cs * rs, .inl (iA fG)))]) hP hD hS hA [2] [0, 1] rfl rfl (by decide) (by decide) (va_runIN (As := []) (rest := [.ref oo, .ref wr]) ⟨hx, hb, hml, hown, hts⟩ (c_Outline_init l D cA cB cS oo _) ⟨(va_cnB 0 hts (gIn vm_30) rfl rfl rfl (hN _ vn_0) (hts _ (List.mem_cons_of_mem _ vm_4)) (by decide +kernel) ⟨Nat.le_of_ble_eq_true rfl, Nat.le_of_ble_eq_true rfl⟩), rfl, (hts _ (List.mem_cons_of_mem _ vm_29))⟩ (pW.pre (hP.sub [2] rfl) (hD.sub [2] (by decide) rfl) hKW) rfl rfl hl.1 rfl (lv_room (Nat.le_of_ble_eq_true rfl)) dW_init_64 ⟨Nat.le_of_ble_eq_true rfl, Nat.le_of_ble_eq_true rfl⟩) (fun u_3 H locs hz_2 hP hD hS => ?_)
  obtain ⟨ax, ay, an⟩ := u_3
  try dsimp only at hz_2
  refine W.widen (k := 5) (n := 77829) (by omega) (by omega) ?_
  have hP : va_P D vwCl [(wr, .inr (0, [.int (iI (cs : Int)), .int (iI (rs : Int)), .ref ag, .null, .null, .null, .null])), (ag, .inl (cA, cs * rs, .inl (iA fG))), (oo, .inr (1, [.ref ax, .ref ay, .ref an, .int (iI 0), .int (iI 0)])), (ax, .inl (cA, 4096, .inl (iA (fun _ => 0)))), (ay, .inl (cA, 4096, .inl (iA (fun _ => 0)))), (an, .inl (cA, 4096, .inl (iA (fun _ => 0))))] H := hP
  have hD : va_D A [(wr, .inr (0, [.int (iI (cs : Int)), .int (iI (rs : Int)), .ref ag, .null, .null, .null, .null])), (ag, .inl (cA, cs * rs, .inl (iA fG))), (oo, .inr (1, [.ref ax, .ref ay, .ref an, .int (iI 0), .int (iI 0)])), (ax, .inl (cA, 4096, .inl (iA (fun _ => 0)))), (ay, .inl (cA, 4096, .inl (iA (fun _ => 0)))), (an, .inl (cA, 4096, .inl (iA (fun _ => 0))))] := hD
  refine va_putF (ci := 0) (v := .ref oo) (ty := (.object "WindingRaster$Outline")) (C := "WindingRaster") (T := TW) (N := 7) hx hb hts in_0 tW tW_ok nW hown hK hP hD hS 0 rfl rfl 3 (by decide) fl_38 (fun _ h9 => h9) rfl hin rfl (by decide +kernel) rfl rfl (Nat.le_of_ble_eq_true rfl) dW_init_67 (fun H locs hP hD hS => ?_)
  have hP : va_P D vwCl [(wr, .inr (0, [.int (iI (cs : Int)), .int (iI (rs : Int)), .ref ag, .ref oo, .null, .null, .null])), (ag, .inl (cA, cs * rs, .inl (iA fG))), (oo, .inr (1, [.ref ax, .ref ay, .ref an, .int (iI 0), .int (iI 0)])), (ax, .inl (cA, 4096, .inl (iA (fun _ => 0)))), (ay, .inl (cA, 4096, .inl (iA (fun _ => 0)))), (an, .inl (cA, 4096, .inl (iA (fun _ => 0))))] H := hP
  have hD : va_D A [(wr, .inr (0, [.int (iI (cs : Int)), .int (iI (rs : Int)), .ref ag, .ref oo, .null, .null, .null])), (ag, .inl (cA, cs * rs, .inl (iA fG))), (oo, .inr (1, [.ref ax, .ref ay, .ref an, .int (iI 0), .int (iI 0)])), (ax, .inl (cA, 4096, .inl (iA (fun _ => 0)))), (ay, .inl (cA, 4096, .inl (iA (fun _ => 0)))), (an, .inl (cA, 4096, .inl (iA (fun _ => 0))))] := hD
  refine lv_aload_n hx hb dW_init_70 rfl (lv_at hl 0 rfl) ?_
  refine va_new (ci := 2) (fs := [.null, .null, .int (iI 0), .int (iI 0)]) (C := "WindingRaster$ClipPile") (T := TC) (N := 4) hx hb hts in_2 tC tC_ok hown (hts _ (List.mem_cons_of_mem _ vm_43)) (hts _ (List.mem_cons_of_mem _ vm_44)) (hts _ (List.mem_cons_of_mem _ vm_5)) hK hP hD hS hA rfl (fun j hj => by rcases (show j = 0 ∨ j = 1 ∨ j = 2 ∨ j = 3 by omega) with rfl | rfl | rfl | rfl <;> rfl) (by decide) (by decide) dW_init_71 (fun cp H hP hD hS => ?_)
  refine W.widen (k := 6) (n := 77833) (by omega) (by omega) ?_
  have hP : va_P D vwCl [(wr, .inr (0, [.int (iI (cs : Int)), .int (iI (rs : Int)), .ref ag, .ref oo, .null, .null, .null])), (ag, .inl (cA, cs * rs, .inl (iA fG))), (oo, .inr (1, [.ref ax, .ref ay, .ref an, .int (iI 0), .int (iI 0)])), (ax, .inl (cA, 4096, .inl (iA (fun _ => 0)))), (ay, .inl (cA, 4096, .inl (iA (fun _ => 0)))), (an, .inl (cA, 4096, .inl (iA (fun _ => 0)))), (cp, .inr (2, [.null, .null, .int (iI 0), .int (iI 0)]))] H := hP
  have hD : va_D A [(wr, .inr (0, [.int (iI (cs : Int)), .int (iI (rs : Int)), .ref ag, .ref oo, .null, .null, .null])), (ag, .inl (cA, cs * rs, .inl (iA fG))), (oo, .inr (1, [.ref ax, .ref ay, .ref an, .int (iI 0), .int (iI 0)])), (ax, .inl (cA, 4096, .inl (iA (fun _ => 0)))), (ay, .inl (cA, 4096, .inl (iA (fun _ => 0)))), (an, .inl (cA, 4096, .inl (iA (fun _ => 0)))), (cp, .inr (2, [.null, .null, .int (iI 0), .int (iI 0)]))] := hD
  refine lv_dup hx hb dW_init_74 rfl ?_
  refine lv_aload_n hx hb dW_init_75 rfl (lv_at hl 0 rfl) ?_
  refine va_get (ci := 0) (v := .int (iI (cs : Int))) (C := "WindingRaster") (T := TW) (N := 7) hx hb hts in_0 hown hK hP 0 rfl rfl 0 (by decide) fl_18 (fun _ h9 => h9) rfl dW_init_76 ?_
  refine lv_aload_n hx hb dW_init_79 rfl (lv_at hl 0 rfl) ?_
  refine va_get (ci := 0) (v := .int (iI (rs : Int))) (C := "WindingRaster") (T := TW) (N := 7) hx hb hts in_0 hown hK hP 0 rfl rfl 1 (by decide) fl_22 (fun _ h9 => h9) rfl dW_init_80 ?_
  refine cw_v (wc := [(cp, .inr (2, [.null, .null, .int (iI 0), .int (iI 0)]))]) (wr := [(wr, .inr (0, [.int (iI (cs : Int)), .int (iI (rs : Int)), .ref ag, .ref oo, .null, .null, .null])), (ag, .inl (cA, cs * rs, .inl (iA fG))), (oo, .inr (1, [.ref ax, .ref ay, .ref an, .int (iI 0), .int (iI 0)])), (ax, .inl (cA, 4096, .inl (iA (fun _ => 0)))), (ay, .inl (cA, 4096, .inl (iA (fun _ => 0)))), (an, .inl (cA, 4096, .inl (iA (fun _ => 0))))]) hP hD hS hA [6] [0, 1, 2, 3, 4, 5] rfl rfl (by decide) (by decide) (va_runIN (As := [.int (iI (cs : Int)), .int (iI (rs : Int))]) (rest := [.ref cp, .ref wr]) ⟨hx, hb, hml, hown, hts⟩ (c_ClipPile_init l D cA cB cS cp cs rs (by omega) (by omega) _) ⟨(va_cnB 2 hts (gIn vm_46) rfl rfl rfl (hN _ vn_2) (hts _ (List.mem_cons_of_mem _ vm_5)) (by decide +kernel) ⟨Nat.le_of_ble_eq_true rfl, Nat.le_of_ble_eq_true rfl⟩), rfl, (hts _ (List.mem_cons_of_mem _ vm_45))⟩ (pW.pre (hP.sub [6] rfl) (hD.sub [6] (by decide) rfl) hKW) rfl rfl hl.1 rfl (lv_room (Nat.le_of_ble_eq_true rfl)) dW_init_83 ⟨Nat.le_of_ble_eq_true rfl, Nat.le_of_ble_eq_true rfl⟩) (fun u_4 H locs hzc hP hD hS => ?_)
  obtain ⟨ai, at_, fI⟩ := u_4
  try dsimp only at hzc
  refine W.widen (k := 8) (n := 101846) (by omega) (by omega) ?_
  have hP : va_P D vwCl [(wr, .inr (0, [.int (iI (cs : Int)), .int (iI (rs : Int)), .ref ag, .ref oo, .null, .null, .null])), (ag, .inl (cA, cs * rs, .inl (iA fG))), (oo, .inr (1, [.ref ax, .ref ay, .ref an, .int (iI 0), .int (iI 0)])), (ax, .inl (cA, 4096, .inl (iA (fun _ => 0)))), (ay, .inl (cA, 4096, .inl (iA (fun _ => 0)))), (an, .inl (cA, 4096, .inl (iA (fun _ => 0)))), (cp, .inr (2, [.ref ai, .ref at_, .int (iI 0), .int (iI (rs : Int))])), (ai, .inl (cA, 24000, .inl (iA fI))), (at_, .inl (cA, 13, .inl (iA (fun _ => 0))))] H := hP
  have hD : va_D A [(wr, .inr (0, [.int (iI (cs : Int)), .int (iI (rs : Int)), .ref ag, .ref oo, .null, .null, .null])), (ag, .inl (cA, cs * rs, .inl (iA fG))), (oo, .inr (1, [.ref ax, .ref ay, .ref an, .int (iI 0), .int (iI 0)])), (ax, .inl (cA, 4096, .inl (iA (fun _ => 0)))), (ay, .inl (cA, 4096, .inl (iA (fun _ => 0)))), (an, .inl (cA, 4096, .inl (iA (fun _ => 0)))), (cp, .inr (2, [.ref ai, .ref at_, .int (iI 0), .int (iI (rs : Int))])), (ai, .inl (cA, 24000, .inl (iA fI))), (at_, .inl (cA, 13, .inl (iA (fun _ => 0))))] := hD
  refine va_putF (ci := 0) (v := .ref cp) (ty := (.object "WindingRaster$ClipPile")) (C := "WindingRaster") (T := TW) (N := 7) hx hb hts in_0 tW tW_ok nW hown hK hP hD hS 0 rfl rfl 4 (by decide) fl_47 (fun _ h9 => h9) rfl hin rfl (by decide +kernel) rfl rfl (Nat.le_of_ble_eq_true rfl) dW_init_86 (fun H locs hP hD hS => ?_)
  have hP : va_P D vwCl [(wr, .inr (0, [.int (iI (cs : Int)), .int (iI (rs : Int)), .ref ag, .ref oo, .ref cp, .null, .null])), (ag, .inl (cA, cs * rs, .inl (iA fG))), (oo, .inr (1, [.ref ax, .ref ay, .ref an, .int (iI 0), .int (iI 0)])), (ax, .inl (cA, 4096, .inl (iA (fun _ => 0)))), (ay, .inl (cA, 4096, .inl (iA (fun _ => 0)))), (an, .inl (cA, 4096, .inl (iA (fun _ => 0)))), (cp, .inr (2, [.ref ai, .ref at_, .int (iI 0), .int (iI (rs : Int))])), (ai, .inl (cA, 24000, .inl (iA fI))), (at_, .inl (cA, 13, .inl (iA (fun _ => 0))))] H := hP
  have hD : va_D A [(wr, .inr (0, [.int (iI (cs : Int)), .int (iI (rs : Int)), .ref ag, .ref oo, .ref cp, .null, .null])), (ag, .inl (cA, cs * rs, .inl (iA fG))), (oo, .inr (1, [.ref ax, .ref ay, .ref an, .int (iI 0), .int (iI 0)])), (ax, .inl (cA, 4096, .inl (iA (fun _ => 0)))), (ay, .inl (cA, 4096, .inl (iA (fun _ => 0)))), (an, .inl (cA, 4096, .inl (iA (fun _ => 0)))), (cp, .inr (2, [.ref ai, .ref at_, .int (iI 0), .int (iI (rs : Int))])), (ai, .inl (cA, 24000, .inl (iA fI))), (at_, .inl (cA, 13, .inl (iA (fun _ => 0))))] := hD
  refine lv_aload_n hx hb dW_init_89 rfl (lv_at hl 0 rfl) ?_
  refine lv_aload_n hx hb dW_init_90 rfl (lv_at hl 0 rfl) ?_
  refine va_get (ci := 0) (v := .int (iI (cs : Int))) (C := "WindingRaster") (T := TW) (N := 7) hx hb hts in_0 hown hK hP 0 rfl rfl 0 (by decide) fl_18 (fun _ h9 => h9) rfl dW_init_91 ?_
  refine ii_newa hx hb hari hK hP hD hS hA 0 rfl cs rfl (by omega) (by decide) (by show 101846 + cs ≤ 134872; omega) dW_init_94 (fun aw H hP hD hS => ?_)
  refine W.widen (k := 9) (n := 102102) (by omega) (by omega) ?_
  have hP : va_P D vwCl [(wr, .inr (0, [.int (iI (cs : Int)), .int (iI (rs : Int)), .ref ag, .ref oo, .ref cp, .null, .null])), (ag, .inl (cA, cs * rs, .inl (iA fG))), (oo, .inr (1, [.ref ax, .ref ay, .ref an, .int (iI 0), .int (iI 0)])), (ax, .inl (cA, 4096, .inl (iA (fun _ => 0)))), (ay, .inl (cA, 4096, .inl (iA (fun _ => 0)))), (an, .inl (cA, 4096, .inl (iA (fun _ => 0)))), (cp, .inr (2, [.ref ai, .ref at_, .int (iI 0), .int (iI (rs : Int))])), (ai, .inl (cA, 24000, .inl (iA fI))), (at_, .inl (cA, 13, .inl (iA (fun _ => 0)))), (aw, .inl (cA, cs, .inl (iA (fun _ => 0))))] H := hP
  have hD : va_D A [(wr, .inr (0, [.int (iI (cs : Int)), .int (iI (rs : Int)), .ref ag, .ref oo, .ref cp, .null, .null])), (ag, .inl (cA, cs * rs, .inl (iA fG))), (oo, .inr (1, [.ref ax, .ref ay, .ref an, .int (iI 0), .int (iI 0)])), (ax, .inl (cA, 4096, .inl (iA (fun _ => 0)))), (ay, .inl (cA, 4096, .inl (iA (fun _ => 0)))), (an, .inl (cA, 4096, .inl (iA (fun _ => 0)))), (cp, .inr (2, [.ref ai, .ref at_, .int (iI 0), .int (iI (rs : Int))])), (ai, .inl (cA, 24000, .inl (iA fI))), (at_, .inl (cA, 13, .inl (iA (fun _ => 0)))), (aw, .inl (cA, cs, .inl (iA (fun _ => 0))))] := hD
  refine va_putF (ci := 0) (v := .ref aw) (ty := (.array .int)) (C := "WindingRaster") (T := TW) (N := 7) hx hb hts in_0 tW tW_ok nW hown hK hP hD hS 0 rfl rfl 5 (by decide) fl_51 (fun _ h9 => h9) rfl hin rfl (by decide +kernel) rfl rfl (Nat.le_of_ble_eq_true rfl) dW_init_96 (fun H locs hP hD hS => ?_)
  have hP : va_P D vwCl [(wr, .inr (0, [.int (iI (cs : Int)), .int (iI (rs : Int)), .ref ag, .ref oo, .ref cp, .ref aw, .null])), (ag, .inl (cA, cs * rs, .inl (iA fG))), (oo, .inr (1, [.ref ax, .ref ay, .ref an, .int (iI 0), .int (iI 0)])), (ax, .inl (cA, 4096, .inl (iA (fun _ => 0)))), (ay, .inl (cA, 4096, .inl (iA (fun _ => 0)))), (an, .inl (cA, 4096, .inl (iA (fun _ => 0)))), (cp, .inr (2, [.ref ai, .ref at_, .int (iI 0), .int (iI (rs : Int))])), (ai, .inl (cA, 24000, .inl (iA fI))), (at_, .inl (cA, 13, .inl (iA (fun _ => 0)))), (aw, .inl (cA, cs, .inl (iA (fun _ => 0))))] H := hP
  have hD : va_D A [(wr, .inr (0, [.int (iI (cs : Int)), .int (iI (rs : Int)), .ref ag, .ref oo, .ref cp, .ref aw, .null])), (ag, .inl (cA, cs * rs, .inl (iA fG))), (oo, .inr (1, [.ref ax, .ref ay, .ref an, .int (iI 0), .int (iI 0)])), (ax, .inl (cA, 4096, .inl (iA (fun _ => 0)))), (ay, .inl (cA, 4096, .inl (iA (fun _ => 0)))), (an, .inl (cA, 4096, .inl (iA (fun _ => 0)))), (cp, .inr (2, [.ref ai, .ref at_, .int (iI 0), .int (iI (rs : Int))])), (ai, .inl (cA, 24000, .inl (iA fI))), (at_, .inl (cA, 13, .inl (iA (fun _ => 0)))), (aw, .inl (cA, cs, .inl (iA (fun _ => 0))))] := hD
  refine lv_aload_n hx hb dW_init_99 rfl (lv_at hl 0 rfl) ?_
  refine va_new (ci := 3) (fs := [.null, .int (iI 0)]) (C := "WindingRaster$RunList") (T := TL) (N := 2) hx hb hts in_3 tL tL_ok hown (hts _ (List.mem_cons_of_mem _ vm_59)) (hts _ (List.mem_cons_of_mem _ vm_60)) (hts _ (List.mem_cons_of_mem _ vm_7)) hK hP hD hS hA rfl (fun j hj => by rcases (show j = 0 ∨ j = 1 by omega) with rfl | rfl <;> rfl) (by decide) (by decide) dW_init_100 (fun pl H hP hD hS => ?_)
  refine W.widen (k := 10) (n := 102104) (by omega) (by omega) ?_
  have hP : va_P D vwCl [(wr, .inr (0, [.int (iI (cs : Int)), .int (iI (rs : Int)), .ref ag, .ref oo, .ref cp, .ref aw, .null])), (ag, .inl (cA, cs * rs, .inl (iA fG))), (oo, .inr (1, [.ref ax, .ref ay, .ref an, .int (iI 0), .int (iI 0)])), (ax, .inl (cA, 4096, .inl (iA (fun _ => 0)))), (ay, .inl (cA, 4096, .inl (iA (fun _ => 0)))), (an, .inl (cA, 4096, .inl (iA (fun _ => 0)))), (cp, .inr (2, [.ref ai, .ref at_, .int (iI 0), .int (iI (rs : Int))])), (ai, .inl (cA, 24000, .inl (iA fI))), (at_, .inl (cA, 13, .inl (iA (fun _ => 0)))), (aw, .inl (cA, cs, .inl (iA (fun _ => 0)))), (pl, .inr (3, [.null, .int (iI 0)]))] H := hP
  have hD : va_D A [(wr, .inr (0, [.int (iI (cs : Int)), .int (iI (rs : Int)), .ref ag, .ref oo, .ref cp, .ref aw, .null])), (ag, .inl (cA, cs * rs, .inl (iA fG))), (oo, .inr (1, [.ref ax, .ref ay, .ref an, .int (iI 0), .int (iI 0)])), (ax, .inl (cA, 4096, .inl (iA (fun _ => 0)))), (ay, .inl (cA, 4096, .inl (iA (fun _ => 0)))), (an, .inl (cA, 4096, .inl (iA (fun _ => 0)))), (cp, .inr (2, [.ref ai, .ref at_, .int (iI 0), .int (iI (rs : Int))])), (ai, .inl (cA, 24000, .inl (iA fI))), (at_, .inl (cA, 13, .inl (iA (fun _ => 0)))), (aw, .inl (cA, cs, .inl (iA (fun _ => 0)))), (pl, .inr (3, [.null, .int (iI 0)]))] := hD
  refine lv_dup hx hb dW_init_103 rfl ?_
  refine lv_aload_n hx hb dW_init_104 rfl (lv_at hl 0 rfl) ?_
  refine va_get (ci := 0) (v := .int (iI (cs : Int))) (C := "WindingRaster") (T := TW) (N := 7) hx hb hts in_0 hown hK hP 0 rfl rfl 0 (by decide) fl_18 (fun _ h9 => h9) rfl dW_init_105 ?_
  refine ii_iconst (n := 1) hx hb dW_init_108 ?_
  refine ii_iadd hx hb dW_init_109 ?_
  refine ii_top (y := ((cs + 1 : Nat) : Int)) (by push_cast; rfl) ?_
  refine ii_iconst (n := 2) hx hb dW_init_110 ?_
  refine ii_idiv (z := (((cs + 1) / 2 : Nat) : Int)) hx hb dW_init_111 (by decide +kernel) (iI_div2 (by omega)) ?_
  refine ii_top (y := (((cs + 1) / 2 : Nat) : Int)) rfl ?_
  refine lv_aload_n hx hb dW_init_112 rfl (lv_at hl 0 rfl) ?_
  refine va_get (ci := 0) (v := .int (iI (rs : Int))) (C := "WindingRaster") (T := TW) (N := 7) hx hb hts in_0 hown hK hP 0 rfl rfl 1 (by decide) fl_22 (fun _ h9 => h9) rfl dW_init_113 ?_
  refine ii_imul hx hb dW_init_116 ?_
  refine ii_top (y := ((((cs + 1) / 2) * rs : Nat) : Int)) (by push_cast; rfl) ?_
  refine cw_v (wc := [(pl, .inr (3, [.null, .int (iI 0)]))]) (wr := [(wr, .inr (0, [.int (iI (cs : Int)), .int (iI (rs : Int)), .ref ag, .ref oo, .ref cp, .ref aw, .null])), (ag, .inl (cA, cs * rs, .inl (iA fG))), (oo, .inr (1, [.ref ax, .ref ay, .ref an, .int (iI 0), .int (iI 0)])), (ax, .inl (cA, 4096, .inl (iA (fun _ => 0)))), (ay, .inl (cA, 4096, .inl (iA (fun _ => 0)))), (an, .inl (cA, 4096, .inl (iA (fun _ => 0)))), (cp, .inr (2, [.ref ai, .ref at_, .int (iI 0), .int (iI (rs : Int))])), (ai, .inl (cA, 24000, .inl (iA fI))), (at_, .inl (cA, 13, .inl (iA (fun _ => 0)))), (aw, .inl (cA, cs, .inl (iA (fun _ => 0))))]) hP hD hS hA [10] [0, 1, 2, 3, 4, 5, 6, 7, 8, 9] rfl rfl (by decide) (by decide) (va_runIN (As := [.int (iI ((((cs + 1) / 2) * rs : Nat) : Int))]) (rest := [.ref pl, .ref wr]) ⟨hx, hb, hml, hown, hts⟩ (c_RunList_init l D cA cB cS pl (((cs + 1) / 2) * rs) (by omega) _) ⟨(va_cnB 1 hts (gIn vm_62) rfl rfl rfl (hN _ vn_7) (hts _ (List.mem_cons_of_mem _ vm_7)) (by decide +kernel) ⟨Nat.le_of_ble_eq_true rfl, Nat.le_of_ble_eq_true rfl⟩), rfl, (hts _ (List.mem_cons_of_mem _ vm_61))⟩ (pW.pre (hP.sub [10] rfl) (hD.sub [10] (by decide) rfl) hKW) rfl rfl hl.1 rfl (lv_room (Nat.le_of_ble_eq_true rfl)) dW_init_117 ⟨Nat.le_of_ble_eq_true rfl, Nat.le_of_ble_eq_true rfl⟩) (fun u_6 H locs hz_5 hP hD hS => ?_)
  obtain ⟨ap, rfl⟩ : ∃ z_, z_ = u_6 := ⟨_, rfl⟩
  try dsimp only at hz_5
  refine W.widen (k := 11) (n := 134872) (by omega) (by omega) ?_
  have hP : va_P D vwCl [(wr, .inr (0, [.int (iI (cs : Int)), .int (iI (rs : Int)), .ref ag, .ref oo, .ref cp, .ref aw, .null])), (ag, .inl (cA, cs * rs, .inl (iA fG))), (oo, .inr (1, [.ref ax, .ref ay, .ref an, .int (iI 0), .int (iI 0)])), (ax, .inl (cA, 4096, .inl (iA (fun _ => 0)))), (ay, .inl (cA, 4096, .inl (iA (fun _ => 0)))), (an, .inl (cA, 4096, .inl (iA (fun _ => 0)))), (cp, .inr (2, [.ref ai, .ref at_, .int (iI 0), .int (iI (rs : Int))])), (ai, .inl (cA, 24000, .inl (iA fI))), (at_, .inl (cA, 13, .inl (iA (fun _ => 0)))), (aw, .inl (cA, cs, .inl (iA (fun _ => 0)))), (pl, .inr (3, [.ref ap, .int (iI 0)])), (ap, .inl (cA, ((cs + 1) / 2) * rs, .inl (iA (fun _ => 0))))] H := hP
  have hD : va_D A [(wr, .inr (0, [.int (iI (cs : Int)), .int (iI (rs : Int)), .ref ag, .ref oo, .ref cp, .ref aw, .null])), (ag, .inl (cA, cs * rs, .inl (iA fG))), (oo, .inr (1, [.ref ax, .ref ay, .ref an, .int (iI 0), .int (iI 0)])), (ax, .inl (cA, 4096, .inl (iA (fun _ => 0)))), (ay, .inl (cA, 4096, .inl (iA (fun _ => 0)))), (an, .inl (cA, 4096, .inl (iA (fun _ => 0)))), (cp, .inr (2, [.ref ai, .ref at_, .int (iI 0), .int (iI (rs : Int))])), (ai, .inl (cA, 24000, .inl (iA fI))), (at_, .inl (cA, 13, .inl (iA (fun _ => 0)))), (aw, .inl (cA, cs, .inl (iA (fun _ => 0)))), (pl, .inr (3, [.ref ap, .int (iI 0)])), (ap, .inl (cA, ((cs + 1) / 2) * rs, .inl (iA (fun _ => 0))))] := hD
  refine va_putF (ci := 0) (v := .ref pl) (ty := (.object "WindingRaster$RunList")) (C := "WindingRaster") (T := TW) (N := 7) hx hb hts in_0 tW tW_ok nW hown hK hP hD hS 0 rfl rfl 6 (by decide) fl_59 (fun _ h9 => h9) rfl hin rfl (by decide +kernel) rfl rfl (Nat.le_of_ble_eq_true rfl) dW_init_120 (fun H locs hP hD hS => ?_)
  have hP : va_P D vwCl [(wr, .inr (0, [.int (iI (cs : Int)), .int (iI (rs : Int)), .ref ag, .ref oo, .ref cp, .ref aw, .ref pl])), (ag, .inl (cA, cs * rs, .inl (iA fG))), (oo, .inr (1, [.ref ax, .ref ay, .ref an, .int (iI 0), .int (iI 0)])), (ax, .inl (cA, 4096, .inl (iA (fun _ => 0)))), (ay, .inl (cA, 4096, .inl (iA (fun _ => 0)))), (an, .inl (cA, 4096, .inl (iA (fun _ => 0)))), (cp, .inr (2, [.ref ai, .ref at_, .int (iI 0), .int (iI (rs : Int))])), (ai, .inl (cA, 24000, .inl (iA fI))), (at_, .inl (cA, 13, .inl (iA (fun _ => 0)))), (aw, .inl (cA, cs, .inl (iA (fun _ => 0)))), (pl, .inr (3, [.ref ap, .int (iI 0)])), (ap, .inl (cA, ((cs + 1) / 2) * rs, .inl (iA (fun _ => 0))))] H := hP
  have hD : va_D A [(wr, .inr (0, [.int (iI (cs : Int)), .int (iI (rs : Int)), .ref ag, .ref oo, .ref cp, .ref aw, .ref pl])), (ag, .inl (cA, cs * rs, .inl (iA fG))), (oo, .inr (1, [.ref ax, .ref ay, .ref an, .int (iI 0), .int (iI 0)])), (ax, .inl (cA, 4096, .inl (iA (fun _ => 0)))), (ay, .inl (cA, 4096, .inl (iA (fun _ => 0)))), (an, .inl (cA, 4096, .inl (iA (fun _ => 0)))), (cp, .inr (2, [.ref ai, .ref at_, .int (iI 0), .int (iI (rs : Int))])), (ai, .inl (cA, 24000, .inl (iA fI))), (at_, .inl (cA, 13, .inl (iA (fun _ => 0)))), (aw, .inl (cA, cs, .inl (iA (fun _ => 0)))), (pl, .inr (3, [.ref ap, .int (iI 0)])), (ap, .inl (cA, ((cs + 1) / 2) * rs, .inl (iA (fun _ => 0))))] := hD
  rw [← hQ]
  exact wr_vret (ag, oo, ax, ay, an, cp, ai, at_, aw, pl, ap, fG, fI) hx hb hr hlocks hAe (hP.sub [0, 1, 2, 3, 4, 5, 6, 7, 8, 9, 10, 11] rfl) (hD.sub [0, 1, 2, 3, 4, 5, 6, 7, 8, 9, 10, 11] (by decide) rfl) hS ⟨hzf, hzc⟩ dW_init_123
end
section
/-! BYTES, SHORTS, BITS -/
theorem iI_8 {z : Int} (h : -128 ≤ z ∧ z < 128) : (iI z).toInt8.toInt32 = iI z := by
  apply Int32.toInt_inj.mp
  rw [Int8.toInt_toInt32, Int32.toInt_toInt8, iI_toInt (by omega)]
  show z.bmod 256 = z
  rw [Int.bmod_eq_of_le (by omega) (by omega)]
theorem iI_8b {z : Int} (h : 0 ≤ z ∧ z ≤ 255) : (iI z).toInt8.toInt32 = iI (if z < 128 then z else z - 256) := by
  apply Int32.toInt_inj.mp
  rw [Int8.toInt_toInt32, Int32.toInt_toInt8, iI_toInt (by omega), iI_toInt (by split <;> omega)]
  show z.bmod 256 = _
  split
  · rw [Int.bmod_eq_of_le (by omega) (by omega)]
  · rw [Int.bmod_def]
    omega
theorem iI_16 {z : Int} (h : -32768 ≤ z ∧ z < 32768) : (iI z).toInt16.toInt32 = iI z := by
  apply Int32.toInt_inj.mp
  rw [Int16.toInt_toInt32, Int32.toInt_toInt16, iI_toInt (by omega)]
  show z.bmod 65536 = z
  rw [Int.bmod_eq_of_le (by omega) (by omega)]
theorem sh_amt : ∀ j, j < 31 → ((iI ((j : Nat) : Int) &&& 31).toBitVec.smod 32).toNat = j := by decide +kernel
theorem iI_shrV {m j : Nat} (hm : m < 2147483648) (hj : j < 31) : iI (m : Int) >>> (iI (j : Int) &&& 31) = iI ((m / 2 ^ j : Nat) : Int) := by
  apply Int32.toInt_inj.mp
  have h1 : m / 2 ^ j ≤ m := Nat.div_le_self _ _
  have h2 : ∀ q : Nat, q ≤ m → i32 (q : Int) := fun q hq => by omega
  rw [pk_shr _ _ j (sh_amt j hj), iI_toInt (h2 m (Nat.le_refl _)), iI_toInt (h2 _ h1), Int.shiftRight_eq_div_pow]
  exact (Int.natCast_ediv m (2 ^ j)).symm
theorem p2_lt {j : Nat} (hj : j < 14) : 2 ^ j ≤ 8192 := Nat.pow_le_pow_right (by decide) (show j ≤ 13 by omega)
theorem iI_shl1 {j : Nat} (hj : j < 14) : iI 1 <<< (iI (j : Int) &&& 31) = iI ((2 ^ j : Nat) : Int) := by
  have hp := p2_lt hj
  apply Int32.toBitVec.inj
  apply BitVec.eq_of_toNat_eq
  rw [pk_shl _ _ j (sh_amt j (by omega))]
  show (BitVec.ofInt 32 1).toNat * 2 ^ j % 2 ^ 32 = (BitVec.ofInt 32 ((2 ^ j : Nat) : Int)).toNat
  rw [BitVec.toNat_ofInt, BitVec.toNat_ofInt, show ((1 : Int) % ((2 ^ 32 : Nat) : Int)).toNat = 1 by decide, Nat.one_mul]
  generalize 2 ^ j = q at hp ⊢
  omega
theorem iI_bit (m : Nat) (i : Nat) (hi : i < 32) : (iI (m : Int)).toBitVec.getLsbD i = m.testBit i := by
  show (BitVec.ofInt 32 (m : Int)).getLsbD i = m.testBit i
  rw [BitVec.ofInt_natCast, BitVec.getLsbD_ofNat]
  simp [hi]
theorem iI_bv (x : Int32) (h : x.toBitVec.toNat < 2147483648) : x = iI ((x.toBitVec.toNat : Nat) : Int) := by
  apply Int32.toBitVec.inj
  show x.toBitVec = BitVec.ofInt 32 ((x.toBitVec.toNat : Nat) : Int)
  rw [BitVec.ofInt_natCast, BitVec.ofNat_toNat, BitVec.setWidth_eq]
theorem p2_bit (j i : Nat) : (2 ^ j).testBit i = decide (j = i) := Nat.testBit_two_pow
/-- a number whose bits from 14 on are none is small -/
theorem small14 {q : Nat} (h : ∀ i, 14 ≤ i → q.testBit i = false) : q < 16384 := by
  have := Nat.lt_pow_two_of_testBit (n := 14) q (fun i hi => h i hi)
  omega
theorem big14 {m i : Nat} (hm : m < 16384) (hi : 14 ≤ i) : m.testBit i = false := by
  apply Nat.testBit_lt_two_pow
  exact Nat.lt_of_lt_of_le hm (Nat.pow_le_pow_right (n := 2) (by decide) hi)
theorem m1_bit : ∀ i, i < 32 → (iI (-1)).toBitVec.getLsbD i = true := by decide +kernel
theorem iI_clr {m j : Nat} (hm : m < 16384) (hj : j < 14) : ∃ q : Nat, iI (m : Int) &&& (iI ((2 ^ j : Nat) : Int) ^^^ iI (-1)) = iI (q : Int) ∧ q < 16384 ∧ ∀ i, q.testBit i = (m.testBit i && !decide (i = j)) := by
  have hb : ∀ i, (iI (m : Int) &&& (iI ((2 ^ j : Nat) : Int) ^^^ iI (-1))).toBitVec.toNat.testBit i = (m.testBit i && !decide (i = j)) := by
    intro i
    rw [← BitVec.getLsbD]
    by_cases hi : i < 32
    · rw [Int32.toBitVec_and, Int32.toBitVec_xor, BitVec.getLsbD_and, BitVec.getLsbD_xor, iI_bit m i hi, iI_bit (2 ^ j) i hi, m1_bit i hi, p2_bit]
      by_cases e : i = j
      · simp [e]
      · simp [e, Ne.symm e]
    · rw [BitVec.getLsbD_of_ge _ _ (by omega), big14 hm (by omega), Bool.false_and]
  have hs : (iI (m : Int) &&& (iI ((2 ^ j : Nat) : Int) ^^^ iI (-1))).toBitVec.toNat < 16384 := small14 (fun i hi => by rw [hb i, big14 hm hi, Bool.false_and])
  exact ⟨_, iI_bv _ (by omega), hs, hb⟩
theorem iI_set {m j : Nat} (hm : m < 16384) (hj : j < 14) : ∃ q : Nat, iI (m : Int) ||| iI ((2 ^ j : Nat) : Int) = iI (q : Int) ∧ q < 16384 ∧ ∀ i, q.testBit i = (m.testBit i || decide (i = j)) := by
  have hb : ∀ i, (iI (m : Int) ||| iI ((2 ^ j : Nat) : Int)).toBitVec.toNat.testBit i = (m.testBit i || decide (i = j)) := by
    intro i
    rw [← BitVec.getLsbD]
    by_cases hi : i < 32
    · rw [Int32.toBitVec_or, BitVec.getLsbD_or, iI_bit m i hi, iI_bit (2 ^ j) i hi, p2_bit]
      by_cases e : i = j
      · simp [e]
      · simp [e, Ne.symm e]
    · rw [BitVec.getLsbD_of_ge _ _ (by omega), big14 hm (by omega), Bool.false_or]
      exact (decide_eq_false (by omega)).symm
  have hs : (iI (m : Int) ||| iI ((2 ^ j : Nat) : Int)).toBitVec.toNat < 16384 := small14 (fun i hi => by rw [hb i, big14 hm hi, Bool.false_or]; exact decide_eq_false (by omega))
  exact ⟨_, iI_bv _ (by omega), hs, hb⟩
theorem bit_dm (m j : Nat) : m.testBit j = true ↔ m / 2 ^ j % 2 = 1 := by
  rw [Nat.testBit_eq_decide_div_mod_eq, decide_eq_true_iff]
theorem iI_rem2 {x : Int} (h : i32 x) : ∃ z : Int, iI x - iI x / iI 2 * iI 2 = iI z ∧ (-1 ≤ z ∧ z ≤ 1) ∧ (z = 0 ↔ x % 2 = 0) := by
  have ht : (0 ≤ x ∧ x.tdiv 2 = x / 2) ∨ (x < 0 ∧ x.tdiv 2 = -((-x) / 2)) := by
    by_cases q : x < 0
    · refine Or.inr ⟨q, ?_⟩
      rw [← Int.tdiv_eq_ediv_of_nonneg (by omega : 0 ≤ -x), Int.neg_tdiv, Int.neg_neg]
    · exact Or.inl ⟨by omega, Int.tdiv_eq_ediv_of_nonneg (by omega)⟩
  have e : iI x / iI 2 = iI (x.tdiv 2) := by
    apply Int32.toInt_inj.mp
    have hne : iI x ≠ Int32.minValue ∨ iI 2 ≠ -1 := Or.inr (by decide +kernel)
    rw [Int32.toInt_div_of_ne_right _ _ (by decide +kernel), iI_toInt h, iI_toInt (by omega), iI_toInt]
    omega
  rw [e, iI_mul, iI_sub]
  exact ⟨_, rfl, by omega, by omega⟩
section IB
variable {p : Program} {l : Launch} {e : Env} {R : Room} {s : State} {m : MethodId} {args : Array Value} {below : List Frame} {meth : Method} {c : Code} {H : Heap} {locs : List Loc} {cells slots : Nat} {Q : State → Prop}
variable {cc : ByteArray} {pc : Nat} {ls : Array Slot} {rest : List Value} {D : va_G} {cl : List vw_C} {A : Nat → Prop} {a : Nat} {tys : List (ClassId × FieldType)} {ws : va_W} {H0 : Heap}
theorem ii_ixor {z : Int32} (hx : p.tables.exec = Jvm.exec) (hb : c.code = cc) {x y : Int32} (hdg : decode cc pc = .ok (.ixor, 1)) (hz : x ^^^ y = z) (k : W p l e R s m args below meth c H locs cells slots Q (F0 m (pc + 1) ls (.int z :: rest))) : W p l e R s m args below meth c H locs cells slots Q (F0 m pc ls (.int y :: .int x :: rest)) := lv_ixor hx hb hdg (by rw [hz]; exact k)
theorem ii_iandX {z : Int} (hx : p.tables.exec = Jvm.exec) (hb : c.code = cc) {x y : Int32} (hdg : decode cc pc = .ok (.iand, 1)) (hz : x &&& y = iI z) (k : W p l e R s m args below meth c H locs cells slots Q (F0 m (pc + 1) ls (.int (iI z) :: rest))) : W p l e R s m args below meth c H locs cells slots Q (F0 m pc ls (.int y :: .int x :: rest)) := lv_iand hx hb hdg (by rw [hz]; exact k)
theorem ii_irem2 (hx : p.tables.exec = Jvm.exec) (hb : c.code = cc) {x : Int} (hdg : decode cc pc = .ok (.irem, 1)) (h : i32 x) (k : ∀ z : Int, -1 ≤ z ∧ z ≤ 1 → (z = 0 ↔ x % 2 = 0) → W p l e R s m args below meth c H locs cells slots Q (F0 m (pc + 1) ls (.int (iI z) :: rest))) : W p l e R s m args below meth c H locs cells slots Q (F0 m pc ls (.int (iI 2) :: .int (iI x) :: rest)) := by
  obtain ⟨z, e1, e2, e3⟩ := iI_rem2 h
  exact lv_irem hx hb hdg (by decide +kernel) (by rw [e1]; exact k z e2 e3)
theorem ii_i2b (hx : p.tables.exec = Jvm.exec) (hb : c.code = cc) {x z : Int} (hdg : decode cc pc = .ok (.i2b, 1)) (h : (iI x).toInt8.toInt32 = iI z) (k : W p l e R s m args below meth c H locs cells slots Q (F0 m (pc + 1) ls (.int (iI z) :: rest))) : W p l e R s m args below meth c H locs cells slots Q (F0 m pc ls (.int (iI x) :: rest)) := lv_i2b hx hb hdg h k
theorem ii_i2s (hx : p.tables.exec = Jvm.exec) (hb : c.code = cc) {x z : Int} (hdg : decode cc pc = .ok (.i2s, 1)) (h : (iI x).toInt16.toInt32 = iI z) (k : W p l e R s m args below meth c H locs cells slots Q (F0 m (pc + 1) ls (.int (iI z) :: rest))) : W p l e R s m args below meth c H locs cells slots Q (F0 m pc ls (.int (iI x) :: rest)) := lv_i2s hx hb hdg h k
theorem ii_bald (hx : p.tables.exec = Jvm.exec) (hb : c.code = cc) (hK : va_K D cl tys s) (hP : va_P D cl ws H) (q0 t0 : Nat) {cA : ClassId} {n : Nat} {F : Nat → Int} (ha : ws[q0]? = some (a, .inl (cA, n, .inl (iA F)))) (ht : tys[t0]? = some (cA, .byte)) {z : Int} (k : Nat) (hz : z = (k : Int)) (hk : k < n) (hn : n < 2147483648) (hdg : decode cc pc = .ok (.baload, 1))
    (kk : W p l e R s m args below meth c H locs cells slots Q (F0 m (pc + 1) ls (.int (iI (F k)) :: rest))) : W p l e R s m args below meth c H locs cells slots Q (F0 m pc ls (.int (iI z) :: .ref a :: rest)) := by
  refine va_bald hx hb hK hP q0 t0 ha ht (iI_in hz hk hn) hdg ?_
  rw [iI_clamp hz (by omega)]
  exact kk
theorem ii_sald (hx : p.tables.exec = Jvm.exec) (hb : c.code = cc) (hK : va_K D cl tys s) (hP : va_P D cl ws H) (q0 t0 : Nat) {cA : ClassId} {n : Nat} {F : Nat → Int} (ha : ws[q0]? = some (a, .inl (cA, n, .inl (iA F)))) (ht : tys[t0]? = some (cA, .short)) {z : Int} (k : Nat) (hz : z = (k : Int)) (hk : k < n) (hn : n < 2147483648) (hdg : decode cc pc = .ok (.saload, 1))
    (kk : W p l e R s m args below meth c H locs cells slots Q (F0 m (pc + 1) ls (.int (iI (F k)) :: rest))) : W p l e R s m args below meth c H locs cells slots Q (F0 m pc ls (.int (iI z) :: .ref a :: rest)) := by
  refine va_sald hx hb hK hP q0 t0 ha ht (iI_in hz hk hn) hdg ?_
  rw [iI_clamp hz (by omega)]
  exact kk
theorem ii_bast (hx : p.tables.exec = Jvm.exec) (hb : c.code = cc) (hK : va_K D cl tys s) (hP : va_P D cl ws H) (hD : va_D A ws) (hS : va_S A H0 H locs) (q0 t0 : Nat) {cA : ClassId} {n : Nat} {F : Nat → Int} (ha : ws[q0]? = some (a, .inl (cA, n, .inl (iA F)))) (ht : tys[t0]? = some (cA, .byte)) {z x : Int} (k : Nat) (hz : z = (k : Int)) (hk : k < n) (hn : n < 2147483648) (hv : -128 ≤ x ∧ x < 128) (hdg : decode cc pc = .ok (.bastore, 1))
    (kk : ∀ (H1 : Heap) (locs1 : List Loc), va_P D cl (ws.set q0 (a, .inl (cA, n, .inl (iA (uZ F k x))))) H1 → va_D A (ws.set q0 (a, .inl (cA, n, .inl (iA (uZ F k x))))) → va_S A H0 H1 locs1 → W p l e R s m args below meth c H1 locs1 cells slots Q (F0 m (pc + 1) ls rest)) : W p l e R s m args below meth c H locs cells slots Q (F0 m pc ls (.int (iI x) :: .int (iI z) :: .ref a :: rest)) := by
  refine va_bast hx hb hK hP hD hS q0 t0 ha ht (iI_in hz hk hn) hdg (fun H1 locs1 hP hD hS => ?_)
  rw [iI_clamp hz (by omega), vp_nar_byte, iI_8 hv, iA_upd] at hP hD
  exact kk H1 locs1 hP hD hS
theorem ii_sast (hx : p.tables.exec = Jvm.exec) (hb : c.code = cc) (hK : va_K D cl tys s) (hP : va_P D cl ws H) (hD : va_D A ws) (hS : va_S A H0 H locs) (q0 t0 : Nat) {cA : ClassId} {n : Nat} {F : Nat → Int} (ha : ws[q0]? = some (a, .inl (cA, n, .inl (iA F)))) (ht : tys[t0]? = some (cA, .short)) {z x : Int} (k : Nat) (hz : z = (k : Int)) (hk : k < n) (hn : n < 2147483648) (hv : -32768 ≤ x ∧ x < 32768) (hdg : decode cc pc = .ok (.sastore, 1))
    (kk : ∀ (H1 : Heap) (locs1 : List Loc), va_P D cl (ws.set q0 (a, .inl (cA, n, .inl (iA (uZ F k x))))) H1 → va_D A (ws.set q0 (a, .inl (cA, n, .inl (iA (uZ F k x))))) → va_S A H0 H1 locs1 → W p l e R s m args below meth c H1 locs1 cells slots Q (F0 m (pc + 1) ls rest)) : W p l e R s m args below meth c H locs cells slots Q (F0 m pc ls (.int (iI x) :: .int (iI z) :: .ref a :: rest)) := by
  refine va_sast hx hb hK hP hD hS q0 t0 ha ht (iI_in hz hk hn) hdg (fun H1 locs1 hP hD hS => ?_)
  rw [iI_clamp hz (by omega), vp_nar_short, iI_16 hv, iA_upd] at hP hD
  exact kk H1 locs1 hP hD hS
theorem ii_newb (hx : p.tables.exec = Jvm.exec) (hb : c.code = cc) (harr : (Cond.arrayClass .byte).before args s = true) (hK : va_K D cl tys s) (hP : va_P D cl ws H) (hD : va_D A ws) (hS : va_S A H0 H locs) (hA : ∀ q, H0.size ≤ q → A q) (t0 : Nat) {cA : ClassId} (ht : tys[t0]? = some (cA, .byte))
    {z : Int} (n : Nat) (hz : z = (n : Int)) (hn : n ≤ 134217728) (hcells : cells + 1 ≤ R.cells) (hslots : slots + n ≤ R.slots) (hdg : decode cc pc = .ok (.newarray .byte, 2))
    (kk : ∀ (q : Nat) (H1 : Heap), va_P D cl (ws ++ [(q, .inl (cA, n, .inl (iA (fun _ => 0))))]) H1 → va_D A (ws ++ [(q, .inl (cA, n, .inl (iA (fun _ => 0))))]) → va_S A H0 H1 locs →
      W p l e R s m args below meth c H1 locs (cells + 1) (slots + n) Q (F0 m (pc + 2) ls (.ref q :: rest))) : W p l e R s m args below meth c H locs cells slots Q (F0 m pc ls (.int (iI z) :: rest)) := by
  refine va_newa (atype := .byte) (ty := .byte) (N' := n) (a0 := (n, .inl (iA (fun _ => 0)))) hx hb harr rfl hK hP hD hS hA (fun cA => rfl) ?_ (iI_clamp hz (by omega)) ?_ hcells hslots hdg (fun q cB H1 hK1 hP1 hD1 hS1 => ?_)
  · intro q
    rw [← iI_zero, iI_lt (by omega) (by omega)] at q
    omega
  · show n * 1 ≤ 536870912
    omega
  · have e : cB = cA := by
      have h1 := va_nm_byte (hK1.2 tys.length (cB, .byte) (by rw [List.getElem?_append_right (Nat.le_refl _), Nat.sub_self]; rfl)).2
      have h2 := va_nm_byte (hK.2 t0 (cA, .byte) ht).2
      exact Option.some.inj (h1.symm.trans h2)
    subst e
    exact kk q H1 hP1 hD1 hS1
theorem ii_news (hx : p.tables.exec = Jvm.exec) (hb : c.code = cc) (harr : (Cond.arrayClass .short).before args s = true) (hK : va_K D cl tys s) (hP : va_P D cl ws H) (hD : va_D A ws) (hS : va_S A H0 H locs) (hA : ∀ q, H0.size ≤ q → A q) (t0 : Nat) {cA : ClassId} (ht : tys[t0]? = some (cA, .short))
    {z : Int} (n : Nat) (hz : z = (n : Int)) (hn : n ≤ 134217728) (hcells : cells + 1 ≤ R.cells) (hslots : slots + n ≤ R.slots) (hdg : decode cc pc = .ok (.newarray .short, 2))
    (kk : ∀ (q : Nat) (H1 : Heap), va_P D cl (ws ++ [(q, .inl (cA, n, .inl (iA (fun _ => 0))))]) H1 → va_D A (ws ++ [(q, .inl (cA, n, .inl (iA (fun _ => 0))))]) → va_S A H0 H1 locs →
      W p l e R s m args below meth c H1 locs (cells + 1) (slots + n) Q (F0 m (pc + 2) ls (.ref q :: rest))) : W p l e R s m args below meth c H locs cells slots Q (F0 m pc ls (.int (iI z) :: rest)) := by
  refine va_newa (atype := .short) (ty := .short) (N' := n) (a0 := (n, .inl (iA (fun _ => 0)))) hx hb harr rfl hK hP hD hS hA (fun cA => rfl) ?_ (iI_clamp hz (by omega)) ?_ hcells hslots hdg (fun q cB H1 hK1 hP1 hD1 hS1 => ?_)
  · intro q
    rw [← iI_zero, iI_lt (by omega) (by omega)] at q
    omega
  · show n * 2 ≤ 536870912
    omega
  · have e : cB = cA := by
      have h1 := va_nm_short (hK1.2 tys.length (cB, .short) (by rw [List.getElem?_append_right (Nat.le_refl _), Nat.sub_self]; rfl)).2
      have h2 := va_nm_short (hK.2 t0 (cA, .short) ht).2
      exact Option.some.inj (h1.symm.trans h2)
    subst e
    exact kk q H1 hP1 hD1 hS1
end IB
end
section
/-! THE REFERENCE'S STATE: bits of masks, the next point, the points that meet a row -/
def mkF (fM : Nat → Int) (j r k : Nat) : Bool := (fM (256 * r + k)).toNat.testBit j
def nxM (gF : Nat → Int) (mp p : Nat) : Nat := if p + 1 < mp ∧ gF (p + 1) = gF p then p + 1 else (gF p).toNat
def nxZ (gF : Nat → Int) (mp p : Nat) : Int := ((nxM gF mp p : Nat) : Int)
def firM (gF : Nat → Int) (mp : Nat) : Prop := ∀ i, i < mp → 0 ≤ gF i ∧ gF i ≤ (i : Int)
theorem nxM_lt {gF : Nat → Int} {mp p : Nat} (h : firM gF mp) (hp : p < mp) : nxM gF mp p < mp := by
  have h1 := h p hp
  unfold nxM
  split <;> omega
theorem nxZ_rng {gF : Nat → Int} {mp : Nat} (h : firM gF mp) : ∀ i, i < mp → 0 ≤ nxZ gF mp i ∧ nxZ gF mp i < (mp : Int) := fun i hi => by
  have := nxM_lt h hi
  unfold nxZ
  omega
def ctM (gX gY gF : Nat → Int) (mp : Nat) (y k : Int) (p : Nat) : Int := ctZ (gX p) (gY p) (gX (nxM gF mp p)) (gY (nxM gF mp p)) y k
theorem wiM_succ (gX gY gF : Nat → Int) (mp i : Nat) (y k : Int) : wiZ gX gY (nxZ gF mp) (i + 1) y k = wiZ gX gY (nxZ gF mp) i y k + ctM gX gY gF mp y k i := rfl
def metI (gX gY gF : Nat → Int) (mp : Nat) (y : Int) (gT : Nat → Int) (me i : Nat) : Prop := me ≤ i ∧ (∀ t, t < me → 0 ≤ gT t ∧ gT t < (mp : Int) ∧ ¬ stZ (gY (gT t).toNat) (gY (nxM gF mp (gT t).toNat)) y = 0) ∧ ∀ k : Int, sm (fun t => ctM gX gY gF mp y k (gT t).toNat) me = wiZ gX gY (nxZ gF mp) i y k
theorem metI_0 (gX gY gF : Nat → Int) (mp : Nat) (y : Int) (gT : Nat → Int) : metI gX gY gF mp y gT 0 0 := ⟨Nat.le_refl _, fun t h => absurd h (Nat.not_lt_zero _), fun _ => rfl⟩
theorem metI_skip {gX gY gF : Nat → Int} {mp : Nat} {y : Int} {gT : Nat → Int} {me i : Nat} (h : metI gX gY gF mp y gT me i) (h0 : stZ (gY i) (gY (nxM gF mp i)) y = 0) : metI gX gY gF mp y gT me (i + 1) := by
  obtain ⟨h1, h2, h3⟩ := h
  refine ⟨by omega, h2, fun k => ?_⟩
  rw [wiM_succ, h3 k]
  have : ctM gX gY gF mp y k i = 0 := ctZ_no h0
  omega
theorem metI_add {gX gY gF : Nat → Int} {mp : Nat} {y : Int} {gT : Nat → Int} {me i : Nat} (h : metI gX gY gF mp y gT me i) (hi : i < mp) (h0 : ¬ stZ (gY i) (gY (nxM gF mp i)) y = 0) : metI gX gY gF mp y (uZ gT me (i : Int)) (me + 1) (i + 1) := by
  obtain ⟨h1, h2, h3⟩ := h
  refine ⟨by omega, fun t ht => ?_, fun k => ?_⟩
  · unfold uZ
    by_cases e : t = me
    · rw [if_pos e]
      exact ⟨by omega, by omega, h0⟩
    · rw [if_neg e]
      exact h2 t (by omega)
  · rw [wiM_succ, ← h3 k]
    show sm _ me + ctM gX gY gF mp y k (uZ gT me (i : Int) me).toNat = _
    have e1 : (uZ gT me (i : Int) me).toNat = i := by unfold uZ; rw [if_pos rfl]; exact Int.toNat_natCast i
    rw [e1]
    congr 1
    refine sm_congr (fun t ht => ?_)
    unfold uZ
    rw [if_neg (by omega)]
/-- a pixel ahead of column c of row r -/
def ahead (cs r c p : Nat) : Prop := (p / 256 < r ∨ (p / 256 = r ∧ p % 256 < c)) ∧ p % 256 < cs
theorem ahead_0 (cs p : Nat) : ¬ ahead cs 0 0 p := fun h => by unfold ahead at h; omega
theorem ahead_S {cs r c p : Nat} (hc : c < cs) (hcs : cs ≤ 256) : ahead cs r (c + 1) p ↔ ahead cs r c p ∨ p = 256 * r + c := by
  unfold ahead
  omega
theorem ahead_R {cs r c p : Nat} (hc : cs ≤ c) : ahead cs r c p ↔ ahead cs (r + 1) 0 p := by
  unfold ahead
  omega
theorem ahead_E {cs rs r k : Nat} (hr : r < rs) (hk : k < cs) (hcs : cs ≤ 256) : ahead cs rs 0 (256 * r + k) := by
  unfold ahead
  omega
theorem bgG_S (f : Nat → Bool) (e c : Nat) (o : Bool) (h : c < e) : bgG f (e - c) c o = (if f c = true ∧ o = false then 1 else 0) + bgG f (e - (c + 1)) (c + 1) (f c) := by
  rw [show e - c = (e - (c + 1)) + 1 by omega]
  rfl
theorem cnG_S (f : Nat → Bool) (e c : Nat) (h : c < e) : cnG f (e - c) c = (if f c = true then 1 else 0) + cnG f (e - (c + 1)) (c + 1) := by
  rw [show e - c = (e - (c + 1)) + 1 by omega]
  rfl
theorem canP_S (F : Nat → Nat → Bool) (cs rs r : Nat) (h : r < rs) : canP F cs (rs - r) r = cutG (F r) r cs 0 none ++ canP F cs (rs - (r + 1)) (r + 1) := by
  rw [show rs - r = (rs - (r + 1)) + 1 by omega]
  rfl
theorem canP_lenR (F : Nat → Nat → Bool) (cs rs r : Nat) (h : r < rs) : (canP F cs (rs - r) r).length = bgG (F r) cs 0 false + (canP F cs (rs - (r + 1)) (r + 1)).length := by
  rw [canP_S F cs rs r h, List.length_append, (len_cutG (F r) r cs 0).1]
theorem canP_lenSR (F : Nat → Nat → Bool) (cs rs r : Nat) (h : r < rs) : lenS (canP F cs (rs - r) r) = cnG (F r) cs 0 + lenS (canP F cs (rs - (r + 1)) (r + 1)) := by
  rw [canP_S F cs rs r h, lenS_app, (lenS_cutG (F r) r cs 0).1]
/-- the runs of the clip number j -/
def canJ (fM : Nat → Int) (cs rs j : Nat) : List Run3 := canP (mkF fM j) cs rs 0
/-- the runs of the first n clips -/
def rnJ (fM : Nat → Int) (cs rs : Nat) : Nat → Nat
  | 0 => 0
  | n + 1 => rnJ fM cs rs n + (canJ fM cs rs n).length
theorem canJ_len (fM : Nat → Int) {cs rs : Nat} (j : Nat) (hc : cs ≤ 256) (hr : rs ≤ 256) : (canJ fM cs rs j).length ≤ 32768 := by
  have h1 := canP_len (mkF fM j) cs rs 0
  have h2 : (cs + 1) / 2 * rs ≤ 128 * 256 := Nat.mul_le_mul (by omega) hr
  unfold canJ
  omega
theorem rnJ_le (fM : Nat → Int) {cs rs : Nat} (hc : cs ≤ 256) (hr : rs ≤ 256) : ∀ n, rnJ fM cs rs n ≤ 32768 * n := by
  intro n
  induction n with
  | zero => exact Nat.le_refl _
  | succ n ih =>
    have := canJ_len fM n hc hr
    show rnJ fM cs rs n + (canJ fM cs rs n).length ≤ _
    omega
theorem rnJ_congr {fM fM' : Nat → Int} {cs rs : Nat} : ∀ n, (∀ j r k, j < n → r < rs → k < cs → mkF fM j r k = mkF fM' j r k) → rnJ fM cs rs n = rnJ fM' cs rs n := by
  intro n
  induction n with
  | zero => intro _; rfl
  | succ n ih =>
    intro h
    show rnJ fM cs rs n + (canJ fM cs rs n).length = rnJ fM' cs rs n + (canJ fM' cs rs n).length
    rw [ih (fun j r k hj => h j r k (by omega))]
    unfold canJ
    rw [canP_congr cs rs 0 (fun r k _ h2 h3 => h n r k (by omega) (by omega) h3)]
end
section
theorem dM_side_0 : decode bM_side 0 = .ok (.iload_n 0, 1) := by decide +kernel
theorem dM_side_1 : decode bM_side 1 = .ok (.iconst 1, 1) := by decide +kernel
theorem dM_side_2 : decode bM_side 2 = .ok (.if_icmp .ge (7), 3) := by decide +kernel
theorem dM_side_5 : decode bM_side 5 = .ok (.iconst 1, 1) := by decide +kernel
theorem dM_side_6 : decode bM_side 6 = .ok (.goto (17), 3) := by decide +kernel
theorem dM_side_9 : decode bM_side 9 = .ok (.iload_n 0, 1) := by decide +kernel
theorem dM_side_10 : decode bM_side 10 = .ok (.sipush (256), 3) := by decide +kernel
theorem dM_side_13 : decode bM_side 13 = .ok (.if_icmp .le (9), 3) := by decide +kernel
theorem dM_side_16 : decode bM_side 16 = .ok (.sipush (256), 3) := by decide +kernel
theorem dM_side_19 : decode bM_side 19 = .ok (.goto (4), 3) := by decide +kernel
theorem dM_side_22 : decode bM_side 22 = .ok (.iload_n 0, 1) := by decide +kernel
theorem dM_side_23 : decode bM_side 23 = .ok (.ireturn, 1) := by decide +kernel
theorem dM_columns_0 : decode bM_columns 0 = .ok (.aload_n 0, 1) := by decide +kernel
theorem dM_columns_1 : decode bM_columns 1 = .ok (.getfield 35, 3) := by decide +kernel
theorem dM_columns_4 : decode bM_columns 4 = .ok (.ireturn, 1) := by decide +kernel
theorem dM_rows_0 : decode bM_rows 0 = .ok (.aload_n 0, 1) := by decide +kernel
theorem dM_rows_1 : decode bM_rows 1 = .ok (.getfield 39, 3) := by decide +kernel
theorem dM_rows_4 : decode bM_rows 4 = .ok (.ireturn, 1) := by decide +kernel
theorem dM_isPlace_0 : decode bM_isPlace 0 = .ok (.iload_n 0, 1) := by decide +kernel
theorem dM_isPlace_1 : decode bM_isPlace 1 = .ok (.i2l, 1) := by decide +kernel
theorem dM_isPlace_2 : decode bM_isPlace 2 = .ok (.ldc2_w 42, 3) := by decide +kernel
theorem dM_isPlace_5 : decode bM_isPlace 5 = .ok (.lcmp, 1) := by decide +kernel
theorem dM_isPlace_6 : decode bM_isPlace 6 = .ok (.ifCond .lt (16), 3) := by decide +kernel
theorem dM_isPlace_9 : decode bM_isPlace 9 = .ok (.iload_n 0, 1) := by decide +kernel
theorem dM_isPlace_10 : decode bM_isPlace 10 = .ok (.i2l, 1) := by decide +kernel
theorem dM_isPlace_11 : decode bM_isPlace 11 = .ok (.ldc2_w 44, 3) := by decide +kernel
theorem dM_isPlace_14 : decode bM_isPlace 14 = .ok (.lcmp, 1) := by decide +kernel
theorem dM_isPlace_15 : decode bM_isPlace 15 = .ok (.ifCond .gt (7), 3) := by decide +kernel
theorem dM_isPlace_18 : decode bM_isPlace 18 = .ok (.iconst 1, 1) := by decide +kernel
theorem dM_isPlace_19 : decode bM_isPlace 19 = .ok (.goto (4), 3) := by decide +kernel
theorem dM_isPlace_22 : decode bM_isPlace 22 = .ok (.iconst 0, 1) := by decide +kernel
theorem dM_isPlace_23 : decode bM_isPlace 23 = .ok (.ireturn, 1) := by decide +kernel
theorem dM_put_0 : decode bM_put 0 = .ok (.aload_n 0, 1) := by decide +kernel
theorem dM_put_1 : decode bM_put 1 = .ok (.getfield 46, 3) := by decide +kernel
theorem dM_put_4 : decode bM_put 4 = .ok (.sipush (4096), 3) := by decide +kernel
theorem dM_put_7 : decode bM_put 7 = .ok (.if_icmp .ne (6), 3) := by decide +kernel
theorem dM_put_10 : decode bM_put 10 = .ok (.bipush (-3), 2) := by decide +kernel
theorem dM_put_12 : decode bM_put 12 = .ok (.ireturn, 1) := by decide +kernel
theorem dM_put_13 : decode bM_put 13 = .ok (.aload_n 0, 1) := by decide +kernel
theorem dM_put_14 : decode bM_put 14 = .ok (.getfield 18, 3) := by decide +kernel
theorem dM_put_17 : decode bM_put 17 = .ok (.aload_n 0, 1) := by decide +kernel
theorem dM_put_18 : decode bM_put 18 = .ok (.getfield 46, 3) := by decide +kernel
theorem dM_put_21 : decode bM_put 21 = .ok (.iload_n 1, 1) := by decide +kernel
theorem dM_put_22 : decode bM_put 22 = .ok (.iastore, 1) := by decide +kernel
theorem dM_put_23 : decode bM_put 23 = .ok (.aload_n 0, 1) := by decide +kernel
theorem dM_put_24 : decode bM_put 24 = .ok (.getfield 22, 3) := by decide +kernel
theorem dM_put_27 : decode bM_put 27 = .ok (.aload_n 0, 1) := by decide +kernel
theorem dM_put_28 : decode bM_put 28 = .ok (.getfield 46, 3) := by decide +kernel
theorem dM_put_31 : decode bM_put 31 = .ok (.iload_n 2, 1) := by decide +kernel
theorem dM_put_32 : decode bM_put 32 = .ok (.iastore, 1) := by decide +kernel
theorem dM_put_33 : decode bM_put 33 = .ok (.aload_n 0, 1) := by decide +kernel
theorem dM_put_34 : decode bM_put 34 = .ok (.getfield 25, 3) := by decide +kernel
theorem dM_put_37 : decode bM_put 37 = .ok (.aload_n 0, 1) := by decide +kernel
theorem dM_put_38 : decode bM_put 38 = .ok (.getfield 46, 3) := by decide +kernel
theorem dM_put_41 : decode bM_put 41 = .ok (.iload_n 3, 1) := by decide +kernel
theorem dM_put_42 : decode bM_put 42 = .ok (.iastore, 1) := by decide +kernel
theorem dM_put_43 : decode bM_put 43 = .ok (.aload_n 0, 1) := by decide +kernel
theorem dM_put_44 : decode bM_put 44 = .ok (.dup, 1) := by decide +kernel
theorem dM_put_45 : decode bM_put 45 = .ok (.getfield 46, 3) := by decide +kernel
theorem dM_put_48 : decode bM_put 48 = .ok (.iconst 1, 1) := by decide +kernel
theorem dM_put_49 : decode bM_put 49 = .ok (.iadd, 1) := by decide +kernel
theorem dM_put_50 : decode bM_put 50 = .ok (.putfield 46, 3) := by decide +kernel
theorem dM_put_53 : decode bM_put 53 = .ok (.aload_n 0, 1) := by decide +kernel
theorem dM_put_54 : decode bM_put 54 = .ok (.getfield 46, 3) := by decide +kernel
theorem dM_put_57 : decode bM_put 57 = .ok (.ireturn, 1) := by decide +kernel
theorem dM_move_0 : decode bM_move 0 = .ok (.iload_n 1, 1) := by decide +kernel
theorem dM_move_1 : decode bM_move 1 = .ok (.invokestatic 49, 3) := by decide +kernel
theorem dM_move_4 : decode bM_move 4 = .ok (.ifCond .eq (23), 3) := by decide +kernel
theorem dM_move_7 : decode bM_move 7 = .ok (.iload_n 2, 1) := by decide +kernel
theorem dM_move_8 : decode bM_move 8 = .ok (.invokestatic 49, 3) := by decide +kernel
theorem dM_move_11 : decode bM_move 11 = .ok (.ifCond .eq (16), 3) := by decide +kernel
theorem dM_move_14 : decode bM_move 14 = .ok (.aload_n 0, 1) := by decide +kernel
theorem dM_move_15 : decode bM_move 15 = .ok (.iload_n 1, 1) := by decide +kernel
theorem dM_move_16 : decode bM_move 16 = .ok (.iload_n 2, 1) := by decide +kernel
theorem dM_move_17 : decode bM_move 17 = .ok (.aload_n 0, 1) := by decide +kernel
theorem dM_move_18 : decode bM_move 18 = .ok (.getfield 46, 3) := by decide +kernel
theorem dM_move_21 : decode bM_move 21 = .ok (.invokevirtual 53, 3) := by decide +kernel
theorem dM_move_24 : decode bM_move 24 = .ok (.goto (4), 3) := by decide +kernel
theorem dM_move_27 : decode bM_move 27 = .ok (.iconst (-1), 1) := by decide +kernel
theorem dM_move_28 : decode bM_move 28 = .ok (.ireturn, 1) := by decide +kernel
theorem dM_line_0 : decode bM_line 0 = .ok (.iload_n 1, 1) := by decide +kernel
theorem dM_line_1 : decode bM_line 1 = .ok (.invokestatic 49, 3) := by decide +kernel
theorem dM_line_4 : decode bM_line 4 = .ok (.ifCond .eq (10), 3) := by decide +kernel
theorem dM_line_7 : decode bM_line 7 = .ok (.iload_n 2, 1) := by decide +kernel
theorem dM_line_8 : decode bM_line 8 = .ok (.invokestatic 49, 3) := by decide +kernel
theorem dM_line_11 : decode bM_line 11 = .ok (.ifCond .ne (5), 3) := by decide +kernel
theorem dM_line_14 : decode bM_line 14 = .ok (.iconst (-1), 1) := by decide +kernel
theorem dM_line_15 : decode bM_line 15 = .ok (.ireturn, 1) := by decide +kernel
theorem dM_line_16 : decode bM_line 16 = .ok (.aload_n 0, 1) := by decide +kernel
theorem dM_line_17 : decode bM_line 17 = .ok (.getfield 46, 3) := by decide +kernel
theorem dM_line_20 : decode bM_line 20 = .ok (.ifCond .ne (8), 3) := by decide +kernel
theorem dM_line_23 : decode bM_line 23 = .ok (.bipush (-2), 2) := by decide +kernel
theorem dM_line_25 : decode bM_line 25 = .ok (.goto (20), 3) := by decide +kernel
theorem dM_line_28 : decode bM_line 28 = .ok (.aload_n 0, 1) := by decide +kernel
theorem dM_line_29 : decode bM_line 29 = .ok (.iload_n 1, 1) := by decide +kernel
theorem dM_line_30 : decode bM_line 30 = .ok (.iload_n 2, 1) := by decide +kernel
theorem dM_line_31 : decode bM_line 31 = .ok (.aload_n 0, 1) := by decide +kernel
theorem dM_line_32 : decode bM_line 32 = .ok (.getfield 25, 3) := by decide +kernel
theorem dM_line_35 : decode bM_line 35 = .ok (.aload_n 0, 1) := by decide +kernel
theorem dM_line_36 : decode bM_line 36 = .ok (.getfield 46, 3) := by decide +kernel
theorem dM_line_39 : decode bM_line 39 = .ok (.iconst 1, 1) := by decide +kernel
theorem dM_line_40 : decode bM_line 40 = .ok (.isub, 1) := by decide +kernel
theorem dM_line_41 : decode bM_line 41 = .ok (.iaload, 1) := by decide +kernel
theorem dM_line_42 : decode bM_line 42 = .ok (.invokevirtual 53, 3) := by decide +kernel
theorem dM_line_45 : decode bM_line 45 = .ok (.ireturn, 1) := by decide +kernel
theorem dM_clear_0 : decode bM_clear 0 = .ok (.aload_n 0, 1) := by decide +kernel
theorem dM_clear_1 : decode bM_clear 1 = .ok (.getfield 46, 3) := by decide +kernel
theorem dM_clear_4 : decode bM_clear 4 = .ok (.istore_n 1, 1) := by decide +kernel
theorem dM_clear_5 : decode bM_clear 5 = .ok (.aload_n 0, 1) := by decide +kernel
theorem dM_clear_6 : decode bM_clear 6 = .ok (.iconst 0, 1) := by decide +kernel
theorem dM_clear_7 : decode bM_clear 7 = .ok (.putfield 46, 3) := by decide +kernel
theorem dM_clear_10 : decode bM_clear 10 = .ok (.iload_n 1, 1) := by decide +kernel
theorem dM_clear_11 : decode bM_clear 11 = .ok (.ireturn, 1) := by decide +kernel
theorem dM_next_0 : decode bM_next 0 = .ok (.iload_n 1, 1) := by decide +kernel
theorem dM_next_1 : decode bM_next 1 = .ok (.iconst 1, 1) := by decide +kernel
theorem dM_next_2 : decode bM_next 2 = .ok (.iadd, 1) := by decide +kernel
theorem dM_next_3 : decode bM_next 3 = .ok (.aload_n 0, 1) := by decide +kernel
theorem dM_next_4 : decode bM_next 4 = .ok (.getfield 46, 3) := by decide +kernel
theorem dM_next_7 : decode bM_next 7 = .ok (.if_icmp .ge (26), 3) := by decide +kernel
theorem dM_next_10 : decode bM_next 10 = .ok (.aload_n 0, 1) := by decide +kernel
theorem dM_next_11 : decode bM_next 11 = .ok (.getfield 25, 3) := by decide +kernel
theorem dM_next_14 : decode bM_next 14 = .ok (.iload_n 1, 1) := by decide +kernel
theorem dM_next_15 : decode bM_next 15 = .ok (.iconst 1, 1) := by decide +kernel
theorem dM_next_16 : decode bM_next 16 = .ok (.iadd, 1) := by decide +kernel
theorem dM_next_17 : decode bM_next 17 = .ok (.iaload, 1) := by decide +kernel
theorem dM_next_18 : decode bM_next 18 = .ok (.aload_n 0, 1) := by decide +kernel
theorem dM_next_19 : decode bM_next 19 = .ok (.getfield 25, 3) := by decide +kernel
theorem dM_next_22 : decode bM_next 22 = .ok (.iload_n 1, 1) := by decide +kernel
theorem dM_next_23 : decode bM_next 23 = .ok (.iaload, 1) := by decide +kernel
theorem dM_next_24 : decode bM_next 24 = .ok (.if_icmp .ne (9), 3) := by decide +kernel
theorem dM_next_27 : decode bM_next 27 = .ok (.iload_n 1, 1) := by decide +kernel
theorem dM_next_28 : decode bM_next 28 = .ok (.iconst 1, 1) := by decide +kernel
theorem dM_next_29 : decode bM_next 29 = .ok (.iadd, 1) := by decide +kernel
theorem dM_next_30 : decode bM_next 30 = .ok (.goto (9), 3) := by decide +kernel
theorem dM_next_33 : decode bM_next 33 = .ok (.aload_n 0, 1) := by decide +kernel
theorem dM_next_34 : decode bM_next 34 = .ok (.getfield 25, 3) := by decide +kernel
theorem dM_next_37 : decode bM_next 37 = .ok (.iload_n 1, 1) := by decide +kernel
theorem dM_next_38 : decode bM_next 38 = .ok (.iaload, 1) := by decide +kernel
theorem dM_next_39 : decode bM_next 39 = .ok (.ireturn, 1) := by decide +kernel
theorem dM_centre_0 : decode bM_centre 0 = .ok (.ldc2_w 57, 3) := by decide +kernel
theorem dM_centre_3 : decode bM_centre 3 = .ok (.iload_n 0, 1) := by decide +kernel
theorem dM_centre_4 : decode bM_centre 4 = .ok (.i2l, 1) := by decide +kernel
theorem dM_centre_5 : decode bM_centre 5 = .ok (.lmul, 1) := by decide +kernel
theorem dM_centre_6 : decode bM_centre 6 = .ok (.ldc2_w 59, 3) := by decide +kernel
theorem dM_centre_9 : decode bM_centre 9 = .ok (.ladd, 1) := by decide +kernel
theorem dM_centre_10 : decode bM_centre 10 = .ok (.lreturn, 1) := by decide +kernel
theorem dM_meet_0 : decode bM_meet 0 = .ok (.iload_n 1, 1) := by decide +kernel
theorem dM_meet_1 : decode bM_meet 1 = .ok (.invokestatic 61, 3) := by decide +kernel
theorem dM_meet_4 : decode bM_meet 4 = .ok (.lstore_n 2, 1) := by decide +kernel
theorem dM_meet_5 : decode bM_meet 5 = .ok (.aload_n 0, 1) := by decide +kernel
theorem dM_meet_6 : decode bM_meet 6 = .ok (.iconst 0, 1) := by decide +kernel
theorem dM_meet_7 : decode bM_meet 7 = .ok (.putfield 65, 3) := by decide +kernel
theorem dM_meet_10 : decode bM_meet 10 = .ok (.iconst 0, 1) := by decide +kernel
theorem dM_meet_11 : decode bM_meet 11 = .ok (.istore 4, 2) := by decide +kernel
theorem dM_meet_13 : decode bM_meet 13 = .ok (.iload 4, 2) := by decide +kernel
theorem dM_meet_15 : decode bM_meet 15 = .ok (.aload_n 0, 1) := by decide +kernel
theorem dM_meet_16 : decode bM_meet 16 = .ok (.getfield 46, 3) := by decide +kernel
theorem dM_meet_19 : decode bM_meet 19 = .ok (.if_icmp .ge (81), 3) := by decide +kernel
theorem dM_meet_22 : decode bM_meet 22 = .ok (.aload_n 0, 1) := by decide +kernel
theorem dM_meet_23 : decode bM_meet 23 = .ok (.getfield 22, 3) := by decide +kernel
theorem dM_meet_26 : decode bM_meet 26 = .ok (.iload 4, 2) := by decide +kernel
theorem dM_meet_28 : decode bM_meet 28 = .ok (.iaload, 1) := by decide +kernel
theorem dM_meet_29 : decode bM_meet 29 = .ok (.i2l, 1) := by decide +kernel
theorem dM_meet_30 : decode bM_meet 30 = .ok (.lload_n 2, 1) := by decide +kernel
theorem dM_meet_31 : decode bM_meet 31 = .ok (.lcmp, 1) := by decide +kernel
theorem dM_meet_32 : decode bM_meet 32 = .ok (.ifCond .gt (7), 3) := by decide +kernel
theorem dM_meet_35 : decode bM_meet 35 = .ok (.iconst 1, 1) := by decide +kernel
theorem dM_meet_36 : decode bM_meet 36 = .ok (.goto (4), 3) := by decide +kernel
theorem dM_meet_39 : decode bM_meet 39 = .ok (.iconst 0, 1) := by decide +kernel
theorem dM_meet_40 : decode bM_meet 40 = .ok (.istore 5, 2) := by decide +kernel
theorem dM_meet_42 : decode bM_meet 42 = .ok (.aload_n 0, 1) := by decide +kernel
theorem dM_meet_43 : decode bM_meet 43 = .ok (.getfield 22, 3) := by decide +kernel
theorem dM_meet_46 : decode bM_meet 46 = .ok (.aload_n 0, 1) := by decide +kernel
theorem dM_meet_47 : decode bM_meet 47 = .ok (.iload 4, 2) := by decide +kernel
theorem dM_meet_49 : decode bM_meet 49 = .ok (.invokevirtual 68, 3) := by decide +kernel
theorem dM_meet_52 : decode bM_meet 52 = .ok (.iaload, 1) := by decide +kernel
theorem dM_meet_53 : decode bM_meet 53 = .ok (.i2l, 1) := by decide +kernel
theorem dM_meet_54 : decode bM_meet 54 = .ok (.lload_n 2, 1) := by decide +kernel
theorem dM_meet_55 : decode bM_meet 55 = .ok (.lcmp, 1) := by decide +kernel
theorem dM_meet_56 : decode bM_meet 56 = .ok (.ifCond .gt (7), 3) := by decide +kernel
theorem dM_meet_59 : decode bM_meet 59 = .ok (.iconst 1, 1) := by decide +kernel
theorem dM_meet_60 : decode bM_meet 60 = .ok (.goto (4), 3) := by decide +kernel
theorem dM_meet_63 : decode bM_meet 63 = .ok (.iconst 0, 1) := by decide +kernel
theorem dM_meet_64 : decode bM_meet 64 = .ok (.istore 6, 2) := by decide +kernel
theorem dM_meet_66 : decode bM_meet 66 = .ok (.iload 5, 2) := by decide +kernel
theorem dM_meet_68 : decode bM_meet 68 = .ok (.iload 6, 2) := by decide +kernel
theorem dM_meet_70 : decode bM_meet 70 = .ok (.if_icmp .eq (24), 3) := by decide +kernel
theorem dM_meet_73 : decode bM_meet 73 = .ok (.aload_n 0, 1) := by decide +kernel
theorem dM_meet_74 : decode bM_meet 74 = .ok (.getfield 28, 3) := by decide +kernel
theorem dM_meet_77 : decode bM_meet 77 = .ok (.aload_n 0, 1) := by decide +kernel
theorem dM_meet_78 : decode bM_meet 78 = .ok (.getfield 65, 3) := by decide +kernel
theorem dM_meet_81 : decode bM_meet 81 = .ok (.iload 4, 2) := by decide +kernel
theorem dM_meet_83 : decode bM_meet 83 = .ok (.iastore, 1) := by decide +kernel
theorem dM_meet_84 : decode bM_meet 84 = .ok (.aload_n 0, 1) := by decide +kernel
theorem dM_meet_85 : decode bM_meet 85 = .ok (.dup, 1) := by decide +kernel
theorem dM_meet_86 : decode bM_meet 86 = .ok (.getfield 65, 3) := by decide +kernel
theorem dM_meet_89 : decode bM_meet 89 = .ok (.iconst 1, 1) := by decide +kernel
theorem dM_meet_90 : decode bM_meet 90 = .ok (.iadd, 1) := by decide +kernel
theorem dM_meet_91 : decode bM_meet 91 = .ok (.putfield 65, 3) := by decide +kernel
theorem dM_meet_94 : decode bM_meet 94 = .ok (.iinc 4 (1), 3) := by decide +kernel
theorem dM_meet_97 : decode bM_meet 97 = .ok (.goto (-84), 3) := by decide +kernel
theorem dM_meet_100 : decode bM_meet 100 = .ok (.return_, 1) := by decide +kernel
theorem dM_isLeft_0 : decode bM_isLeft 0 = .ok (.aload_n 0, 1) := by decide +kernel
theorem dM_isLeft_1 : decode bM_isLeft 1 = .ok (.iload_n 1, 1) := by decide +kernel
theorem dM_isLeft_2 : decode bM_isLeft 2 = .ok (.invokevirtual 68, 3) := by decide +kernel
theorem dM_isLeft_5 : decode bM_isLeft 5 = .ok (.istore 6, 2) := by decide +kernel
theorem dM_isLeft_7 : decode bM_isLeft 7 = .ok (.aload_n 0, 1) := by decide +kernel
theorem dM_isLeft_8 : decode bM_isLeft 8 = .ok (.getfield 18, 3) := by decide +kernel
theorem dM_isLeft_11 : decode bM_isLeft 11 = .ok (.iload 6, 2) := by decide +kernel
theorem dM_isLeft_13 : decode bM_isLeft 13 = .ok (.iaload, 1) := by decide +kernel
theorem dM_isLeft_14 : decode bM_isLeft 14 = .ok (.i2l, 1) := by decide +kernel
theorem dM_isLeft_15 : decode bM_isLeft 15 = .ok (.aload_n 0, 1) := by decide +kernel
theorem dM_isLeft_16 : decode bM_isLeft 16 = .ok (.getfield 18, 3) := by decide +kernel
theorem dM_isLeft_19 : decode bM_isLeft 19 = .ok (.iload_n 1, 1) := by decide +kernel
theorem dM_isLeft_20 : decode bM_isLeft 20 = .ok (.iaload, 1) := by decide +kernel
theorem dM_isLeft_21 : decode bM_isLeft 21 = .ok (.i2l, 1) := by decide +kernel
theorem dM_isLeft_22 : decode bM_isLeft 22 = .ok (.lsub, 1) := by decide +kernel
theorem dM_isLeft_23 : decode bM_isLeft 23 = .ok (.lload 4, 2) := by decide +kernel
theorem dM_isLeft_25 : decode bM_isLeft 25 = .ok (.aload_n 0, 1) := by decide +kernel
theorem dM_isLeft_26 : decode bM_isLeft 26 = .ok (.getfield 22, 3) := by decide +kernel
theorem dM_isLeft_29 : decode bM_isLeft 29 = .ok (.iload_n 1, 1) := by decide +kernel
theorem dM_isLeft_30 : decode bM_isLeft 30 = .ok (.iaload, 1) := by decide +kernel
theorem dM_isLeft_31 : decode bM_isLeft 31 = .ok (.i2l, 1) := by decide +kernel
theorem dM_isLeft_32 : decode bM_isLeft 32 = .ok (.lsub, 1) := by decide +kernel
theorem dM_isLeft_33 : decode bM_isLeft 33 = .ok (.lmul, 1) := by decide +kernel
theorem dM_isLeft_34 : decode bM_isLeft 34 = .ok (.lstore 7, 2) := by decide +kernel
theorem dM_isLeft_36 : decode bM_isLeft 36 = .ok (.lload_n 2, 1) := by decide +kernel
theorem dM_isLeft_37 : decode bM_isLeft 37 = .ok (.aload_n 0, 1) := by decide +kernel
theorem dM_isLeft_38 : decode bM_isLeft 38 = .ok (.getfield 18, 3) := by decide +kernel
theorem dM_isLeft_41 : decode bM_isLeft 41 = .ok (.iload_n 1, 1) := by decide +kernel
theorem dM_isLeft_42 : decode bM_isLeft 42 = .ok (.iaload, 1) := by decide +kernel
theorem dM_isLeft_43 : decode bM_isLeft 43 = .ok (.i2l, 1) := by decide +kernel
theorem dM_isLeft_44 : decode bM_isLeft 44 = .ok (.lsub, 1) := by decide +kernel
theorem dM_isLeft_45 : decode bM_isLeft 45 = .ok (.aload_n 0, 1) := by decide +kernel
theorem dM_isLeft_46 : decode bM_isLeft 46 = .ok (.getfield 22, 3) := by decide +kernel
theorem dM_isLeft_49 : decode bM_isLeft 49 = .ok (.iload 6, 2) := by decide +kernel
theorem dM_isLeft_51 : decode bM_isLeft 51 = .ok (.iaload, 1) := by decide +kernel
theorem dM_isLeft_52 : decode bM_isLeft 52 = .ok (.i2l, 1) := by decide +kernel
theorem dM_isLeft_53 : decode bM_isLeft 53 = .ok (.aload_n 0, 1) := by decide +kernel
theorem dM_isLeft_54 : decode bM_isLeft 54 = .ok (.getfield 22, 3) := by decide +kernel
theorem dM_isLeft_57 : decode bM_isLeft 57 = .ok (.iload_n 1, 1) := by decide +kernel
theorem dM_isLeft_58 : decode bM_isLeft 58 = .ok (.iaload, 1) := by decide +kernel
theorem dM_isLeft_59 : decode bM_isLeft 59 = .ok (.i2l, 1) := by decide +kernel
theorem dM_isLeft_60 : decode bM_isLeft 60 = .ok (.lsub, 1) := by decide +kernel
theorem dM_isLeft_61 : decode bM_isLeft 61 = .ok (.lmul, 1) := by decide +kernel
theorem dM_isLeft_62 : decode bM_isLeft 62 = .ok (.lstore 9, 2) := by decide +kernel
theorem dM_isLeft_64 : decode bM_isLeft 64 = .ok (.aload_n 0, 1) := by decide +kernel
theorem dM_isLeft_65 : decode bM_isLeft 65 = .ok (.getfield 22, 3) := by decide +kernel
theorem dM_isLeft_68 : decode bM_isLeft 68 = .ok (.iload 6, 2) := by decide +kernel
theorem dM_isLeft_70 : decode bM_isLeft 70 = .ok (.iaload, 1) := by decide +kernel
theorem dM_isLeft_71 : decode bM_isLeft 71 = .ok (.aload_n 0, 1) := by decide +kernel
theorem dM_isLeft_72 : decode bM_isLeft 72 = .ok (.getfield 22, 3) := by decide +kernel
theorem dM_isLeft_75 : decode bM_isLeft 75 = .ok (.iload_n 1, 1) := by decide +kernel
theorem dM_isLeft_76 : decode bM_isLeft 76 = .ok (.iaload, 1) := by decide +kernel
theorem dM_isLeft_77 : decode bM_isLeft 77 = .ok (.if_icmp .le (19), 3) := by decide +kernel
theorem dM_isLeft_80 : decode bM_isLeft 80 = .ok (.lload 7, 2) := by decide +kernel
theorem dM_isLeft_82 : decode bM_isLeft 82 = .ok (.lload 9, 2) := by decide +kernel
theorem dM_isLeft_84 : decode bM_isLeft 84 = .ok (.lcmp, 1) := by decide +kernel
theorem dM_isLeft_85 : decode bM_isLeft 85 = .ok (.ifCond .gt (7), 3) := by decide +kernel
theorem dM_isLeft_88 : decode bM_isLeft 88 = .ok (.iconst 1, 1) := by decide +kernel
theorem dM_isLeft_89 : decode bM_isLeft 89 = .ok (.goto (20), 3) := by decide +kernel
theorem dM_isLeft_92 : decode bM_isLeft 92 = .ok (.iconst 0, 1) := by decide +kernel
theorem dM_isLeft_93 : decode bM_isLeft 93 = .ok (.goto (16), 3) := by decide +kernel
theorem dM_isLeft_96 : decode bM_isLeft 96 = .ok (.lload 7, 2) := by decide +kernel
theorem dM_isLeft_98 : decode bM_isLeft 98 = .ok (.lload 9, 2) := by decide +kernel
theorem dM_isLeft_100 : decode bM_isLeft 100 = .ok (.lcmp, 1) := by decide +kernel
theorem dM_isLeft_101 : decode bM_isLeft 101 = .ok (.ifCond .lt (7), 3) := by decide +kernel
theorem dM_isLeft_104 : decode bM_isLeft 104 = .ok (.iconst 1, 1) := by decide +kernel
theorem dM_isLeft_105 : decode bM_isLeft 105 = .ok (.goto (4), 3) := by decide +kernel
theorem dM_isLeft_108 : decode bM_isLeft 108 = .ok (.iconst 0, 1) := by decide +kernel
theorem dM_isLeft_109 : decode bM_isLeft 109 = .ok (.ireturn, 1) := by decide +kernel
theorem dM_windings_0 : decode bM_windings 0 = .ok (.iconst 0, 1) := by decide +kernel
theorem dM_windings_1 : decode bM_windings 1 = .ok (.istore_n 3, 1) := by decide +kernel
theorem dM_windings_2 : decode bM_windings 2 = .ok (.iconst 0, 1) := by decide +kernel
theorem dM_windings_3 : decode bM_windings 3 = .ok (.istore 4, 2) := by decide +kernel
theorem dM_windings_5 : decode bM_windings 5 = .ok (.iload 4, 2) := by decide +kernel
theorem dM_windings_7 : decode bM_windings 7 = .ok (.aload_n 0, 1) := by decide +kernel
theorem dM_windings_8 : decode bM_windings 8 = .ok (.getfield 65, 3) := by decide +kernel
theorem dM_windings_11 : decode bM_windings 11 = .ok (.if_icmp .ge (64), 3) := by decide +kernel
theorem dM_windings_14 : decode bM_windings 14 = .ok (.aload_n 0, 1) := by decide +kernel
theorem dM_windings_15 : decode bM_windings 15 = .ok (.getfield 28, 3) := by decide +kernel
theorem dM_windings_18 : decode bM_windings 18 = .ok (.iload 4, 2) := by decide +kernel
theorem dM_windings_20 : decode bM_windings 20 = .ok (.iaload, 1) := by decide +kernel
theorem dM_windings_21 : decode bM_windings 21 = .ok (.istore 5, 2) := by decide +kernel
theorem dM_windings_23 : decode bM_windings 23 = .ok (.aload_n 0, 1) := by decide +kernel
theorem dM_windings_24 : decode bM_windings 24 = .ok (.iload 5, 2) := by decide +kernel
theorem dM_windings_26 : decode bM_windings 26 = .ok (.iload_n 1, 1) := by decide +kernel
theorem dM_windings_27 : decode bM_windings 27 = .ok (.invokestatic 61, 3) := by decide +kernel
theorem dM_windings_30 : decode bM_windings 30 = .ok (.iload_n 2, 1) := by decide +kernel
theorem dM_windings_31 : decode bM_windings 31 = .ok (.invokestatic 61, 3) := by decide +kernel
theorem dM_windings_34 : decode bM_windings 34 = .ok (.invokevirtual 71, 3) := by decide +kernel
theorem dM_windings_37 : decode bM_windings 37 = .ok (.ifCond .eq (32), 3) := by decide +kernel
theorem dM_windings_40 : decode bM_windings 40 = .ok (.iload_n 3, 1) := by decide +kernel
theorem dM_windings_41 : decode bM_windings 41 = .ok (.aload_n 0, 1) := by decide +kernel
theorem dM_windings_42 : decode bM_windings 42 = .ok (.getfield 22, 3) := by decide +kernel
theorem dM_windings_45 : decode bM_windings 45 = .ok (.aload_n 0, 1) := by decide +kernel
theorem dM_windings_46 : decode bM_windings 46 = .ok (.iload 5, 2) := by decide +kernel
theorem dM_windings_48 : decode bM_windings 48 = .ok (.invokevirtual 68, 3) := by decide +kernel
theorem dM_windings_51 : decode bM_windings 51 = .ok (.iaload, 1) := by decide +kernel
theorem dM_windings_52 : decode bM_windings 52 = .ok (.aload_n 0, 1) := by decide +kernel
theorem dM_windings_53 : decode bM_windings 53 = .ok (.getfield 22, 3) := by decide +kernel
theorem dM_windings_56 : decode bM_windings 56 = .ok (.iload 5, 2) := by decide +kernel
theorem dM_windings_58 : decode bM_windings 58 = .ok (.iaload, 1) := by decide +kernel
theorem dM_windings_59 : decode bM_windings 59 = .ok (.if_icmp .le (7), 3) := by decide +kernel
theorem dM_windings_62 : decode bM_windings 62 = .ok (.iconst 1, 1) := by decide +kernel
theorem dM_windings_63 : decode bM_windings 63 = .ok (.goto (4), 3) := by decide +kernel
theorem dM_windings_66 : decode bM_windings 66 = .ok (.iconst (-1), 1) := by decide +kernel
theorem dM_windings_67 : decode bM_windings 67 = .ok (.iadd, 1) := by decide +kernel
theorem dM_windings_68 : decode bM_windings 68 = .ok (.istore_n 3, 1) := by decide +kernel
theorem dM_windings_69 : decode bM_windings 69 = .ok (.iinc 4 (1), 3) := by decide +kernel
theorem dM_windings_72 : decode bM_windings 72 = .ok (.goto (-67), 3) := by decide +kernel
theorem dM_windings_75 : decode bM_windings 75 = .ok (.iload_n 3, 1) := by decide +kernel
theorem dM_windings_76 : decode bM_windings 76 = .ok (.ireturn, 1) := by decide +kernel
theorem dM_isPixel_0 : decode bM_isPixel 0 = .ok (.iload_n 1, 1) := by decide +kernel
theorem dM_isPixel_1 : decode bM_isPixel 1 = .ok (.ifCond .lt (27), 3) := by decide +kernel
theorem dM_isPixel_4 : decode bM_isPixel 4 = .ok (.iload_n 1, 1) := by decide +kernel
theorem dM_isPixel_5 : decode bM_isPixel 5 = .ok (.aload_n 0, 1) := by decide +kernel
theorem dM_isPixel_6 : decode bM_isPixel 6 = .ok (.getfield 35, 3) := by decide +kernel
theorem dM_isPixel_9 : decode bM_isPixel 9 = .ok (.if_icmp .ge (19), 3) := by decide +kernel
theorem dM_isPixel_12 : decode bM_isPixel 12 = .ok (.iload_n 2, 1) := by decide +kernel
theorem dM_isPixel_13 : decode bM_isPixel 13 = .ok (.ifCond .lt (15), 3) := by decide +kernel
theorem dM_isPixel_16 : decode bM_isPixel 16 = .ok (.iload_n 2, 1) := by decide +kernel
theorem dM_isPixel_17 : decode bM_isPixel 17 = .ok (.aload_n 0, 1) := by decide +kernel
theorem dM_isPixel_18 : decode bM_isPixel 18 = .ok (.getfield 39, 3) := by decide +kernel
theorem dM_isPixel_21 : decode bM_isPixel 21 = .ok (.if_icmp .ge (7), 3) := by decide +kernel
theorem dM_isPixel_24 : decode bM_isPixel 24 = .ok (.iconst 1, 1) := by decide +kernel
theorem dM_isPixel_25 : decode bM_isPixel 25 = .ok (.goto (4), 3) := by decide +kernel
theorem dM_isPixel_28 : decode bM_isPixel 28 = .ok (.iconst 0, 1) := by decide +kernel
theorem dM_isPixel_29 : decode bM_isPixel 29 = .ok (.ireturn, 1) := by decide +kernel
theorem dM_at_0 : decode bM_at 0 = .ok (.sipush (256), 3) := by decide +kernel
theorem dM_at_3 : decode bM_at 3 = .ok (.iload_n 1, 1) := by decide +kernel
theorem dM_at_4 : decode bM_at 4 = .ok (.imul, 1) := by decide +kernel
theorem dM_at_5 : decode bM_at 5 = .ok (.iload_n 0, 1) := by decide +kernel
theorem dM_at_6 : decode bM_at 6 = .ok (.iadd, 1) := by decide +kernel
theorem dM_at_7 : decode bM_at 7 = .ok (.ireturn, 1) := by decide +kernel
theorem dM_winding_0 : decode bM_winding 0 = .ok (.aload_n 0, 1) := by decide +kernel
theorem dM_winding_1 : decode bM_winding 1 = .ok (.iload_n 1, 1) := by decide +kernel
theorem dM_winding_2 : decode bM_winding 2 = .ok (.iload_n 2, 1) := by decide +kernel
theorem dM_winding_3 : decode bM_winding 3 = .ok (.invokevirtual 75, 3) := by decide +kernel
theorem dM_winding_6 : decode bM_winding 6 = .ok (.ifCond .ne (5), 3) := by decide +kernel
theorem dM_winding_9 : decode bM_winding 9 = .ok (.iconst 0, 1) := by decide +kernel
theorem dM_winding_10 : decode bM_winding 10 = .ok (.ireturn, 1) := by decide +kernel
theorem dM_winding_11 : decode bM_winding 11 = .ok (.aload_n 0, 1) := by decide +kernel
theorem dM_winding_12 : decode bM_winding 12 = .ok (.iload_n 2, 1) := by decide +kernel
theorem dM_winding_13 : decode bM_winding 13 = .ok (.invokevirtual 79, 3) := by decide +kernel
theorem dM_winding_16 : decode bM_winding 16 = .ok (.aload_n 0, 1) := by decide +kernel
theorem dM_winding_17 : decode bM_winding 17 = .ok (.iload_n 1, 1) := by decide +kernel
theorem dM_winding_18 : decode bM_winding 18 = .ok (.iload_n 2, 1) := by decide +kernel
theorem dM_winding_19 : decode bM_winding 19 = .ok (.invokevirtual 83, 3) := by decide +kernel
theorem dM_winding_22 : decode bM_winding 22 = .ok (.ireturn, 1) := by decide +kernel
theorem dM_isInside_0 : decode bM_isInside 0 = .ok (.iload_n 1, 1) := by decide +kernel
theorem dM_isInside_1 : decode bM_isInside 1 = .ok (.ifCond .ne (15), 3) := by decide +kernel
theorem dM_isInside_4 : decode bM_isInside 4 = .ok (.iload_n 0, 1) := by decide +kernel
theorem dM_isInside_5 : decode bM_isInside 5 = .ok (.ifCond .eq (7), 3) := by decide +kernel
theorem dM_isInside_8 : decode bM_isInside 8 = .ok (.iconst 1, 1) := by decide +kernel
theorem dM_isInside_9 : decode bM_isInside 9 = .ok (.goto (18), 3) := by decide +kernel
theorem dM_isInside_12 : decode bM_isInside 12 = .ok (.iconst 0, 1) := by decide +kernel
theorem dM_isInside_13 : decode bM_isInside 13 = .ok (.goto (14), 3) := by decide +kernel
theorem dM_isInside_16 : decode bM_isInside 16 = .ok (.iload_n 0, 1) := by decide +kernel
theorem dM_isInside_17 : decode bM_isInside 17 = .ok (.iconst 2, 1) := by decide +kernel
theorem dM_isInside_18 : decode bM_isInside 18 = .ok (.irem, 1) := by decide +kernel
theorem dM_isInside_19 : decode bM_isInside 19 = .ok (.ifCond .eq (7), 3) := by decide +kernel
theorem dM_isInside_22 : decode bM_isInside 22 = .ok (.iconst 1, 1) := by decide +kernel
theorem dM_isInside_23 : decode bM_isInside 23 = .ok (.goto (4), 3) := by decide +kernel
theorem dM_isInside_26 : decode bM_isInside 26 = .ok (.iconst 0, 1) := by decide +kernel
theorem dM_isInside_27 : decode bM_isInside 27 = .ok (.ireturn, 1) := by decide +kernel
theorem dM_isOpen_0 : decode bM_isOpen 0 = .ok (.aload_n 0, 1) := by decide +kernel
theorem dM_isOpen_1 : decode bM_isOpen 1 = .ok (.getfield 14, 3) := by decide +kernel
theorem dM_isOpen_4 : decode bM_isOpen 4 = .ok (.iload_n 1, 1) := by decide +kernel
theorem dM_isOpen_5 : decode bM_isOpen 5 = .ok (.saload, 1) := by decide +kernel
theorem dM_isOpen_6 : decode bM_isOpen 6 = .ok (.iload_n 2, 1) := by decide +kernel
theorem dM_isOpen_7 : decode bM_isOpen 7 = .ok (.ishr, 1) := by decide +kernel
theorem dM_isOpen_8 : decode bM_isOpen 8 = .ok (.iconst 1, 1) := by decide +kernel
theorem dM_isOpen_9 : decode bM_isOpen 9 = .ok (.iand, 1) := by decide +kernel
theorem dM_isOpen_10 : decode bM_isOpen 10 = .ok (.iconst 1, 1) := by decide +kernel
theorem dM_isOpen_11 : decode bM_isOpen 11 = .ok (.if_icmp .ne (7), 3) := by decide +kernel
theorem dM_isOpen_14 : decode bM_isOpen 14 = .ok (.iconst 1, 1) := by decide +kernel
theorem dM_isOpen_15 : decode bM_isOpen 15 = .ok (.goto (4), 3) := by decide +kernel
theorem dM_isOpen_18 : decode bM_isOpen 18 = .ok (.iconst 0, 1) := by decide +kernel
theorem dM_isOpen_19 : decode bM_isOpen 19 = .ok (.ireturn, 1) := by decide +kernel
theorem dM_setOpen_0 : decode bM_setOpen 0 = .ok (.aload_n 0, 1) := by decide +kernel
theorem dM_setOpen_1 : decode bM_setOpen 1 = .ok (.getfield 14, 3) := by decide +kernel
theorem dM_setOpen_4 : decode bM_setOpen 4 = .ok (.iload_n 1, 1) := by decide +kernel
theorem dM_setOpen_5 : decode bM_setOpen 5 = .ok (.saload, 1) := by decide +kernel
theorem dM_setOpen_6 : decode bM_setOpen 6 = .ok (.iconst 1, 1) := by decide +kernel
theorem dM_setOpen_7 : decode bM_setOpen 7 = .ok (.iload_n 2, 1) := by decide +kernel
theorem dM_setOpen_8 : decode bM_setOpen 8 = .ok (.ishl, 1) := by decide +kernel
theorem dM_setOpen_9 : decode bM_setOpen 9 = .ok (.iconst (-1), 1) := by decide +kernel
theorem dM_setOpen_10 : decode bM_setOpen 10 = .ok (.ixor, 1) := by decide +kernel
theorem dM_setOpen_11 : decode bM_setOpen 11 = .ok (.iand, 1) := by decide +kernel
theorem dM_setOpen_12 : decode bM_setOpen 12 = .ok (.istore 4, 2) := by decide +kernel
theorem dM_setOpen_14 : decode bM_setOpen 14 = .ok (.aload_n 0, 1) := by decide +kernel
theorem dM_setOpen_15 : decode bM_setOpen 15 = .ok (.getfield 14, 3) := by decide +kernel
theorem dM_setOpen_18 : decode bM_setOpen 18 = .ok (.iload_n 1, 1) := by decide +kernel
theorem dM_setOpen_19 : decode bM_setOpen 19 = .ok (.iload_n 3, 1) := by decide +kernel
theorem dM_setOpen_20 : decode bM_setOpen 20 = .ok (.ifCond .eq (12), 3) := by decide +kernel
theorem dM_setOpen_23 : decode bM_setOpen 23 = .ok (.iload 4, 2) := by decide +kernel
theorem dM_setOpen_25 : decode bM_setOpen 25 = .ok (.iconst 1, 1) := by decide +kernel
theorem dM_setOpen_26 : decode bM_setOpen 26 = .ok (.iload_n 2, 1) := by decide +kernel
theorem dM_setOpen_27 : decode bM_setOpen 27 = .ok (.ishl, 1) := by decide +kernel
theorem dM_setOpen_28 : decode bM_setOpen 28 = .ok (.ior, 1) := by decide +kernel
theorem dM_setOpen_29 : decode bM_setOpen 29 = .ok (.goto (5), 3) := by decide +kernel
theorem dM_setOpen_32 : decode bM_setOpen 32 = .ok (.iload 4, 2) := by decide +kernel
theorem dM_setOpen_34 : decode bM_setOpen 34 = .ok (.i2s, 1) := by decide +kernel
theorem dM_setOpen_35 : decode bM_setOpen 35 = .ok (.sastore, 1) := by decide +kernel
theorem dM_setOpen_36 : decode bM_setOpen 36 = .ok (.return_, 1) := by decide +kernel
end
section
def rm_m_side : Room := { frames := 0, cells := 0, slots := 0, locals := 0 }
set_option maxHeartbeats 4000000 in
set_option maxRecDepth 100000 in
theorem m_side (l : Launch) (D : va_G) (cA cB cS : ClassId) (a1 : Int) (h1 : i32 a1) : Met l yM_side wM_side rm_m_side (pR [.int (iI a1)] D vwCl (vwTy cA cB cS) vwNw []) (qI (fun z => z = max 1 (min 256 a1))) 0 0 (fun _ => False) := by
  refine Met.ofW (cc := bM_side) (maxL := 1) (ret := (some .int)) (by decide +kernel) rfl ?_
  intro p e s m args below meth c s₁ B hml hv
  obtain ⟨rfl, hP, hKW⟩ := hv
  have hK := hKW.1
  have hN := hKW.2.2
  have hx := B.exec
  have hb := B.bytes
  have hr := B.returns
  have hts := atoms_spec (ws := wM_side) B.pre
  have hown : s.vm.findClass "WindingRasterModel" = some m.cls := findClass_of_methodNamed B.named
  have hlocks := B.notSynchronized
  have hP : va_P D vwCl [] s.heap := hP
  have hl := lv_entry ([.int (iI a1)]) (n := 1) (Nat.le_of_ble_eq_true rfl)
  rw [lg_entry_eq]
  generalize (lg_sl ([.int (iI a1)]) ++ List.replicate (1 - (lg_sl ([.int (iI a1)])).length) Slot.unset).toArray = ls at hl ⊢
  have hl : lv_has ls 1 [(0, .int (iI a1))] := hl
  generalize hQ : MQ below (qI (fun z => z = max 1 (min 256 a1))) [.int (iI a1)].toArray s 0 0 (fun _ => False) = QQ
  refine lv_iload_n hx hb dM_side_0 rfl (lv_at hl 0 rfl) ?_
  refine ii_iconst (n := 1) hx hb dM_side_1 ?_
  refine ii_icmp_ge (tgt := 9) hx hb dM_side_2 (by decide) (by omega) (by omega) (fun c2 => ?_) (fun c2 => ?_)
  · refine lv_iload_n hx hb dM_side_9 rfl (lv_at hl 0 rfl) ?_
    refine ii_sipush (n := 256) hx hb dM_side_10 (by decide +kernel) ?_
    refine ii_icmp_le (tgt := 22) hx hb dM_side_13 (by decide) (by omega) (by omega) (fun c13 => ?_) (fun c13 => ?_)
    · refine lv_iload_n hx hb dM_side_22 rfl (lv_at hl 0 rfl) ?_
      rw [← hQ]
      exact rd_iret hx hb hr hlocks (by omega) dM_side_23
    · refine ii_sipush (n := 256) hx hb dM_side_16 (by decide +kernel) ?_
      refine lv_goto (tgt := 23) hx hb dM_side_19 (by decide) ?_
      rw [← hQ]
      exact rd_iret hx hb hr hlocks (by omega) dM_side_23
  · refine ii_iconst (n := 1) hx hb dM_side_5 ?_
    refine lv_goto (tgt := 23) hx hb dM_side_6 (by decide) ?_
    rw [← hQ]
    exact rd_iret hx hb hr hlocks (by omega) dM_side_23

def rm_m_columns : Room := { frames := 0, cells := 0, slots := 0, locals := 0 }
set_option maxHeartbeats 4000000 in
set_option maxRecDepth 100000 in
theorem m_columns (l : Launch) (D : va_G) (cA cB cS : ClassId) (mo : Nat) (cs : Nat) (rs : Nat) (mg : Nat) (mm : Nat) (mx : Nat) (my : Nat) (mf : Nat) (mt : Nat) (fB : Nat → Int) (fM : Nat → Int) (gX : Nat → Int) (gY : Nat → Int) (gF : Nat → Int) (gT : Nat → Int) (mv : Nat) (mp : Nat) (me : Nat) : Met l yM_columns wM_columns rm_m_columns (pR [.ref mo] D vwCl (vwTy cA cB cS) vwNw [(mo, .inr (4, [.int (iI (cs : Int)), .int (iI (rs : Int)), .ref mg, .ref mm, .int (iI (mv : Int)), .ref mx, .ref my, .ref mf, .int (iI (mp : Int)), .ref mt, .int (iI (me : Int))])), (mg, .inl (cB, 65536, .inl (iA fB))), (mm, .inl (cS, 65536, .inl (iA fM))), (mx, .inl (cA, 4096, .inl (iA gX))), (my, .inl (cA, 4096, .inl (iA gY))), (mf, .inl (cA, 4096, .inl (iA gF))), (mt, .inl (cA, 4096, .inl (iA gT)))]) (qI (fun z => z = (cs : Int))) 0 0 (fun _ => False) := by
  refine Met.ofW (cc := bM_columns) (maxL := 1) (ret := (some .int)) (by decide +kernel) rfl ?_
  intro p e s m args below meth c s₁ B hml hv
  obtain ⟨rfl, hP, hKW⟩ := hv
  have hK := hKW.1
  have hN := hKW.2.2
  have hx := B.exec
  have hb := B.bytes
  have hr := B.returns
  have hts := atoms_spec (ws := wM_columns) B.pre
  have hown : s.vm.findClass "WindingRasterModel" = some m.cls := findClass_of_methodNamed B.named
  have hlocks := B.notSynchronized
  have hP : va_P D vwCl [(mo, .inr (4, [.int (iI (cs : Int)), .int (iI (rs : Int)), .ref mg, .ref mm, .int (iI (mv : Int)), .ref mx, .ref my, .ref mf, .int (iI (mp : Int)), .ref mt, .int (iI (me : Int))])), (mg, .inl (cB, 65536, .inl (iA fB))), (mm, .inl (cS, 65536, .inl (iA fM))), (mx, .inl (cA, 4096, .inl (iA gX))), (my, .inl (cA, 4096, .inl (iA gY))), (mf, .inl (cA, 4096, .inl (iA gF))), (mt, .inl (cA, 4096, .inl (iA gT)))] s.heap := hP
  have in_4 : ∀ w ∈ wsM, w ∈ wM_columns := fun w h => List.mem_cons_of_mem _ (in0_M w h)
  have fl_35 := (hts _ (List.mem_cons_of_mem _ vm_249))
  have hl := lv_entry ([.ref mo]) (n := 1) (Nat.le_of_ble_eq_true rfl)
  rw [lg_entry_eq]
  generalize (lg_sl ([.ref mo]) ++ List.replicate (1 - (lg_sl ([.ref mo])).length) Slot.unset).toArray = ls at hl ⊢
  have hl : lv_has ls 1 [(0, .ref mo)] := hl
  generalize hQ : MQ below (qI (fun z => z = (cs : Int))) [.ref mo].toArray s 0 0 (fun _ => False) = QQ
  refine lv_aload_n hx hb dM_columns_0 rfl (lv_at hl 0 rfl) ?_
  refine va_get (ci := 4) (v := .int (iI (cs : Int))) (C := "WindingRasterModel") (T := TM) (N := 11) hx hb hts in_4 hown hK hP 0 rfl rfl 0 (by decide) fl_35 (fun _ h9 => h9) rfl dM_columns_1 ?_
  rw [← hQ]
  exact rd_iret hx hb hr hlocks rfl dM_columns_4

def rm_m_rows : Room := { frames := 0, cells := 0, slots := 0, locals := 0 }
set_option maxHeartbeats 4000000 in
set_option maxRecDepth 100000 in
theorem m_rows (l : Launch) (D : va_G) (cA cB cS : ClassId) (mo : Nat) (cs : Nat) (rs : Nat) (mg : Nat) (mm : Nat) (mx : Nat) (my : Nat) (mf : Nat) (mt : Nat) (fB : Nat → Int) (fM : Nat → Int) (gX : Nat → Int) (gY : Nat → Int) (gF : Nat → Int) (gT : Nat → Int) (mv : Nat) (mp : Nat) (me : Nat) : Met l yM_rows wM_rows rm_m_rows (pR [.ref mo] D vwCl (vwTy cA cB cS) vwNw [(mo, .inr (4, [.int (iI (cs : Int)), .int (iI (rs : Int)), .ref mg, .ref mm, .int (iI (mv : Int)), .ref mx, .ref my, .ref mf, .int (iI (mp : Int)), .ref mt, .int (iI (me : Int))])), (mg, .inl (cB, 65536, .inl (iA fB))), (mm, .inl (cS, 65536, .inl (iA fM))), (mx, .inl (cA, 4096, .inl (iA gX))), (my, .inl (cA, 4096, .inl (iA gY))), (mf, .inl (cA, 4096, .inl (iA gF))), (mt, .inl (cA, 4096, .inl (iA gT)))]) (qI (fun z => z = (rs : Int))) 0 0 (fun _ => False) := by
  refine Met.ofW (cc := bM_rows) (maxL := 1) (ret := (some .int)) (by decide +kernel) rfl ?_
  intro p e s m args below meth c s₁ B hml hv
  obtain ⟨rfl, hP, hKW⟩ := hv
  have hK := hKW.1
  have hN := hKW.2.2
  have hx := B.exec
  have hb := B.bytes
  have hr := B.returns
  have hts := atoms_spec (ws := wM_rows) B.pre
  have hown : s.vm.findClass "WindingRasterModel" = some m.cls := findClass_of_methodNamed B.named
  have hlocks := B.notSynchronized
  have hP : va_P D vwCl [(mo, .inr (4, [.int (iI (cs : Int)), .int (iI (rs : Int)), .ref mg, .ref mm, .int (iI (mv : Int)), .ref mx, .ref my, .ref mf, .int (iI (mp : Int)), .ref mt, .int (iI (me : Int))])), (mg, .inl (cB, 65536, .inl (iA fB))), (mm, .inl (cS, 65536, .inl (iA fM))), (mx, .inl (cA, 4096, .inl (iA gX))), (my, .inl (cA, 4096, .inl (iA gY))), (mf, .inl (cA, 4096, .inl (iA gF))), (mt, .inl (cA, 4096, .inl (iA gT)))] s.heap := hP
  have in_4 : ∀ w ∈ wsM, w ∈ wM_rows := fun w h => List.mem_cons_of_mem _ (in0_M w h)
  have fl_39 := (hts _ (List.mem_cons_of_mem _ vm_250))
  have hl := lv_entry ([.ref mo]) (n := 1) (Nat.le_of_ble_eq_true rfl)
  rw [lg_entry_eq]
  generalize (lg_sl ([.ref mo]) ++ List.replicate (1 - (lg_sl ([.ref mo])).length) Slot.unset).toArray = ls at hl ⊢
  have hl : lv_has ls 1 [(0, .ref mo)] := hl
  generalize hQ : MQ below (qI (fun z => z = (rs : Int))) [.ref mo].toArray s 0 0 (fun _ => False) = QQ
  refine lv_aload_n hx hb dM_rows_0 rfl (lv_at hl 0 rfl) ?_
  refine va_get (ci := 4) (v := .int (iI (rs : Int))) (C := "WindingRasterModel") (T := TM) (N := 11) hx hb hts in_4 hown hK hP 0 rfl rfl 1 (by decide) fl_39 (fun _ h9 => h9) rfl dM_rows_1 ?_
  rw [← hQ]
  exact rd_iret hx hb hr hlocks rfl dM_rows_4

def rm_m_isPlace : Room := { frames := 0, cells := 0, slots := 0, locals := 0 }
set_option maxHeartbeats 4000000 in
set_option maxRecDepth 100000 in
theorem m_isPlace (l : Launch) (D : va_G) (cA cB cS : ClassId) (a1 : Int) (h1 : i32 a1) : Met l yM_isPlace wM_isPlace rm_m_isPlace (pR [.int (iI a1)] D vwCl (vwTy cA cB cS) vwNw []) (qI (fun z => (z = 1 ∧ (-536870912 ≤ a1 ∧ a1 ≤ 536870912)) ∨ (z = 0 ∧ ¬ (-536870912 ≤ a1 ∧ a1 ≤ 536870912)))) 0 0 (fun _ => False) := by
  refine Met.ofW (cc := bM_isPlace) (maxL := 1) (ret := (some .boolean)) (by decide +kernel) rfl ?_
  intro p e s m args below meth c s₁ B hml hv
  obtain ⟨rfl, hP, hKW⟩ := hv
  have hK := hKW.1
  have hN := hKW.2.2
  have hx := B.exec
  have hb := B.bytes
  have hr := B.returns
  have hts := atoms_spec (ws := wM_isPlace) B.pre
  have hown : s.vm.findClass "WindingRasterModel" = some m.cls := findClass_of_methodNamed B.named
  have hlocks := B.notSynchronized
  have hP : va_P D vwCl [] s.heap := hP
  have kc_42 := (hts _ (List.mem_cons_of_mem _ vm_288))
  have kc_44 := (hts _ (List.mem_cons_of_mem _ vm_289))
  have hl := lv_entry ([.int (iI a1)]) (n := 1) (Nat.le_of_ble_eq_true rfl)
  rw [lg_entry_eq]
  generalize (lg_sl ([.int (iI a1)]) ++ List.replicate (1 - (lg_sl ([.int (iI a1)])).length) Slot.unset).toArray = ls at hl ⊢
  have hl : lv_has ls 1 [(0, .int (iI a1))] := hl
  generalize hQ : MQ below (qI (fun z => (z = 1 ∧ (-536870912 ≤ a1 ∧ a1 ≤ 536870912)) ∨ (z = 0 ∧ ¬ (-536870912 ≤ a1 ∧ a1 ≤ 536870912)))) [.int (iI a1)].toArray s 0 0 (fun _ => False) = QQ
  refine lv_iload_n hx hb dM_isPlace_0 rfl (lv_at hl 0 rfl) ?_
  refine ii_i2l hx hb dM_isPlace_1 (by omega) ?_
  refine ii_ldc2 (n := (-536870912)) hx hb hown kc_42 dM_isPlace_2 (by decide +kernel) ?_
  refine ii_lcmp hx hb dM_isPlace_5 (by omega) (by omega) (fun zc_1 hzc_1 => ?_)
  refine ii_if_lt (tgt := 22) hx hb dM_isPlace_6 (by decide) (by omega) (fun c6 => ?_) (fun c6 => ?_)
  · refine ii_iconst (n := 0) hx hb dM_isPlace_22 ?_
    rw [← hQ]
    exact rd_zret hx hb hr hlocks (nar_b (by omega)) (by omega) dM_isPlace_23
  · refine lv_iload_n hx hb dM_isPlace_9 rfl (lv_at hl 0 rfl) ?_
    refine ii_i2l hx hb dM_isPlace_10 (by omega) ?_
    refine ii_ldc2 (n := 536870912) hx hb hown kc_44 dM_isPlace_11 (by decide +kernel) ?_
    refine ii_lcmp hx hb dM_isPlace_14 (by omega) (by omega) (fun zc_2 hzc_2 => ?_)
    refine ii_if_gt (tgt := 22) hx hb dM_isPlace_15 (by decide) (by omega) (fun c15 => ?_) (fun c15 => ?_)
    · refine ii_iconst (n := 0) hx hb dM_isPlace_22 ?_
      rw [← hQ]
      exact rd_zret hx hb hr hlocks (nar_b (by omega)) (by omega) dM_isPlace_23
    · refine ii_iconst (n := 1) hx hb dM_isPlace_18 ?_
      refine lv_goto (tgt := 23) hx hb dM_isPlace_19 (by decide) ?_
      rw [← hQ]
      exact rd_zret hx hb hr hlocks (nar_b (by omega)) (by omega) dM_isPlace_23

def rm_m_put : Room := { frames := 0, cells := 0, slots := 0, locals := 0 }
set_option maxHeartbeats 4000000 in
set_option maxRecDepth 100000 in
theorem m_put (l : Launch) (D : va_G) (cA cB cS : ClassId) (mo : Nat) (cs : Nat) (rs : Nat) (mg : Nat) (mm : Nat) (mx : Nat) (my : Nat) (mf : Nat) (mt : Nat) (fB : Nat → Int) (fM : Nat → Int) (gX : Nat → Int) (gY : Nat → Int) (gF : Nat → Int) (gT : Nat → Int) (mv : Nat) (mp : Nat) (me : Nat) (a1 : Int) (a2 : Int) (a3 : Int) (h1 : mp ≤ 4096) (sz : Nat) : Met l yM_put wM_put rm_m_put (pW [.ref mo, .int (iI a1), .int (iI a2), .int (iI a3)] D vwCl (vwTy cA cB cS) vwNw [(mo, .inr (4, [.int (iI (cs : Int)), .int (iI (rs : Int)), .ref mg, .ref mm, .int (iI (mv : Int)), .ref mx, .ref my, .ref mf, .int (iI (mp : Int)), .ref mt, .int (iI (me : Int))])), (mg, .inl (cB, 65536, .inl (iA fB))), (mm, .inl (cS, 65536, .inl (iA fM))), (mx, .inl (cA, 4096, .inl (iA gX))), (my, .inl (cA, 4096, .inl (iA gY))), (mf, .inl (cA, 4096, .inl (iA gF))), (mt, .inl (cA, 4096, .inl (iA gT)))] sz) (qW (S := (Nat → Int) × (Nat → Int) × (Nat → Int) × Nat) (fun (z : Int) (u : (Nat → Int) × (Nat → Int) × (Nat → Int) × Nat) => (z = -3 ∧ 4096 ≤ mp ∧ u.1 = gX ∧ u.2.1 = gY ∧ u.2.2.1 = gF ∧ u.2.2.2 = mp) ∨ (z = ((mp + 1 : Nat) : Int) ∧ mp < 4096 ∧ u.1 = uZ gX mp a1 ∧ u.2.1 = uZ gY mp a2 ∧ u.2.2.1 = uZ gF mp a3 ∧ u.2.2.2 = mp + 1)) D vwCl [(mo, .inr (4, [.int (iI (cs : Int)), .int (iI (rs : Int)), .ref mg, .ref mm, .int (iI (mv : Int)), .ref mx, .ref my, .ref mf, .int (iI (mp : Int)), .ref mt, .int (iI (me : Int))])), (mg, .inl (cB, 65536, .inl (iA fB))), (mm, .inl (cS, 65536, .inl (iA fM))), (mx, .inl (cA, 4096, .inl (iA gX))), (my, .inl (cA, 4096, .inl (iA gY))), (mf, .inl (cA, 4096, .inl (iA gF))), (mt, .inl (cA, 4096, .inl (iA gT)))] sz (fun u : (Nat → Int) × (Nat → Int) × (Nat → Int) × Nat => [(mo, .inr (4, [.int (iI (cs : Int)), .int (iI (rs : Int)), .ref mg, .ref mm, .int (iI (mv : Int)), .ref mx, .ref my, .ref mf, .int (iI ((u.2.2.2 : Nat) : Int)), .ref mt, .int (iI (me : Int))])), (mg, .inl (cB, 65536, .inl (iA fB))), (mm, .inl (cS, 65536, .inl (iA fM))), (mx, .inl (cA, 4096, .inl (iA u.1))), (my, .inl (cA, 4096, .inl (iA u.2.1))), (mf, .inl (cA, 4096, .inl (iA u.2.2.1))), (mt, .inl (cA, 4096, .inl (iA gT)))])) 0 0 (va_A [(mo, .inr (4, [.int (iI (cs : Int)), .int (iI (rs : Int)), .ref mg, .ref mm, .int (iI (mv : Int)), .ref mx, .ref my, .ref mf, .int (iI (mp : Int)), .ref mt, .int (iI (me : Int))])), (mg, .inl (cB, 65536, .inl (iA fB))), (mm, .inl (cS, 65536, .inl (iA fM))), (mx, .inl (cA, 4096, .inl (iA gX))), (my, .inl (cA, 4096, .inl (iA gY))), (mf, .inl (cA, 4096, .inl (iA gF))), (mt, .inl (cA, 4096, .inl (iA gT)))] sz) := by
  refine Met.ofW (cc := bM_put) (maxL := 4) (ret := (some .int)) (by decide +kernel) rfl ?_
  intro p e s m args below meth c s₁ B hml hv
  obtain ⟨rfl, hsz, hP, hKW, hD0⟩ := hv
  have hK := hKW.1
  have hN := hKW.2.2
  have hx := B.exec
  have hb := B.bytes
  have hr := B.returns
  have hts := atoms_spec (ws := wM_put) B.pre
  have hown : s.vm.findClass "WindingRasterModel" = some m.cls := findClass_of_methodNamed B.named
  have hlocks := B.notSynchronized
  subst hsz
  have hD := hD0.self (sz := s.heap.size)
  obtain ⟨A, hAe⟩ : ∃ A, va_A [(mo, .inr (4, [.int (iI (cs : Int)), .int (iI (rs : Int)), .ref mg, .ref mm, .int (iI (mv : Int)), .ref mx, .ref my, .ref mf, .int (iI (mp : Int)), .ref mt, .int (iI (me : Int))])), (mg, .inl (cB, 65536, .inl (iA fB))), (mm, .inl (cS, 65536, .inl (iA fM))), (mx, .inl (cA, 4096, .inl (iA gX))), (my, .inl (cA, 4096, .inl (iA gY))), (mf, .inl (cA, 4096, .inl (iA gF))), (mt, .inl (cA, 4096, .inl (iA gT)))] s.heap.size = A := ⟨_, rfl⟩
  rw [hAe] at hD
  have hA : ∀ q : Nat, s.heap.size ≤ q → A q := fun q h => by rw [← hAe]; exact Or.inr h
  have hS : va_S A s.heap s.heap [] := va_S.rf
  have hP : va_P D vwCl [(mo, .inr (4, [.int (iI (cs : Int)), .int (iI (rs : Int)), .ref mg, .ref mm, .int (iI (mv : Int)), .ref mx, .ref my, .ref mf, .int (iI (mp : Int)), .ref mt, .int (iI (me : Int))])), (mg, .inl (cB, 65536, .inl (iA fB))), (mm, .inl (cS, 65536, .inl (iA fM))), (mx, .inl (cA, 4096, .inl (iA gX))), (my, .inl (cA, 4096, .inl (iA gY))), (mf, .inl (cA, 4096, .inl (iA gF))), (mt, .inl (cA, 4096, .inl (iA gT)))] s.heap := hP
  have in_4 : ∀ w ∈ wsM, w ∈ wM_put := fun w h => List.mem_cons_of_mem _ (in0_M w h)
  have fl_46 := (hts _ (List.mem_cons_of_mem _ vm_257))
  have fl_18 := (hts _ (List.mem_cons_of_mem _ vm_254))
  have fl_22 := (hts _ (List.mem_cons_of_mem _ vm_255))
  have fl_25 := (hts _ (List.mem_cons_of_mem _ vm_256))
  have hl := lv_entry ([.ref mo, .int (iI a1), .int (iI a2), .int (iI a3)]) (n := 4) (Nat.le_of_ble_eq_true rfl)
  rw [lg_entry_eq]
  generalize (lg_sl ([.ref mo, .int (iI a1), .int (iI a2), .int (iI a3)]) ++ List.replicate (4 - (lg_sl ([.ref mo, .int (iI a1), .int (iI a2), .int (iI a3)])).length) Slot.unset).toArray = ls at hl ⊢
  have hl : lv_has ls 4 [(0, .ref mo), (1, .int (iI a1)), (2, .int (iI a2)), (3, .int (iI a3))] := hl
  generalize hQ : MQ below (qW (S := (Nat → Int) × (Nat → Int) × (Nat → Int) × Nat) (fun (z : Int) (u : (Nat → Int) × (Nat → Int) × (Nat → Int) × Nat) => (z = -3 ∧ 4096 ≤ mp ∧ u.1 = gX ∧ u.2.1 = gY ∧ u.2.2.1 = gF ∧ u.2.2.2 = mp) ∨ (z = ((mp + 1 : Nat) : Int) ∧ mp < 4096 ∧ u.1 = uZ gX mp a1 ∧ u.2.1 = uZ gY mp a2 ∧ u.2.2.1 = uZ gF mp a3 ∧ u.2.2.2 = mp + 1)) D vwCl [(mo, .inr (4, [.int (iI (cs : Int)), .int (iI (rs : Int)), .ref mg, .ref mm, .int (iI (mv : Int)), .ref mx, .ref my, .ref mf, .int (iI (mp : Int)), .ref mt, .int (iI (me : Int))])), (mg, .inl (cB, 65536, .inl (iA fB))), (mm, .inl (cS, 65536, .inl (iA fM))), (mx, .inl (cA, 4096, .inl (iA gX))), (my, .inl (cA, 4096, .inl (iA gY))), (mf, .inl (cA, 4096, .inl (iA gF))), (mt, .inl (cA, 4096, .inl (iA gT)))] s.heap.size (fun u : (Nat → Int) × (Nat → Int) × (Nat → Int) × Nat => [(mo, .inr (4, [.int (iI (cs : Int)), .int (iI (rs : Int)), .ref mg, .ref mm, .int (iI (mv : Int)), .ref mx, .ref my, .ref mf, .int (iI ((u.2.2.2 : Nat) : Int)), .ref mt, .int (iI (me : Int))])), (mg, .inl (cB, 65536, .inl (iA fB))), (mm, .inl (cS, 65536, .inl (iA fM))), (mx, .inl (cA, 4096, .inl (iA u.1))), (my, .inl (cA, 4096, .inl (iA u.2.1))), (mf, .inl (cA, 4096, .inl (iA u.2.2.1))), (mt, .inl (cA, 4096, .inl (iA gT)))])) [.ref mo, .int (iI a1), .int (iI a2), .int (iI a3)].toArray s 0 0 (va_A [(mo, .inr (4, [.int (iI (cs : Int)), .int (iI (rs : Int)), .ref mg, .ref mm, .int (iI (mv : Int)), .ref mx, .ref my, .ref mf, .int (iI (mp : Int)), .ref mt, .int (iI (me : Int))])), (mg, .inl (cB, 65536, .inl (iA fB))), (mm, .inl (cS, 65536, .inl (iA fM))), (mx, .inl (cA, 4096, .inl (iA gX))), (my, .inl (cA, 4096, .inl (iA gY))), (mf, .inl (cA, 4096, .inl (iA gF))), (mt, .inl (cA, 4096, .inl (iA gT)))] s.heap.size) = QQ
  refine lv_aload_n hx hb dM_put_0 rfl (lv_at hl 0 rfl) ?_
  refine va_get (ci := 4) (v := .int (iI (mp : Int))) (C := "WindingRasterModel") (T := TM) (N := 11) hx hb hts in_4 hown hK hP 0 rfl rfl 8 (by decide) fl_46 (fun _ h9 => h9) rfl dM_put_1 ?_
  refine ii_sipush (n := 4096) hx hb dM_put_4 (by decide +kernel) ?_
  refine ii_icmp_ne (tgt := 13) hx hb dM_put_7 (by decide) (by omega) (by omega) (fun c7 => ?_) (fun c7 => ?_)
  · refine lv_aload_n hx hb dM_put_13 rfl (lv_at hl 0 rfl) ?_
    refine va_get (ci := 4) (v := .ref mx) (C := "WindingRasterModel") (T := TM) (N := 11) hx hb hts in_4 hown hK hP 0 rfl rfl 5 (by decide) fl_18 (fun _ h9 => h9) rfl dM_put_14 ?_
    refine lv_aload_n hx hb dM_put_17 rfl (lv_at hl 0 rfl) ?_
    refine va_get (ci := 4) (v := .int (iI (mp : Int))) (C := "WindingRasterModel") (T := TM) (N := 11) hx hb hts in_4 hown hK hP 0 rfl rfl 8 (by decide) fl_46 (fun _ h9 => h9) rfl dM_put_18 ?_
    refine lv_iload_n hx hb dM_put_21 rfl (lv_at hl 1 rfl) ?_
    refine ii_iast hx hb hK hP hD hS 3 0 rfl rfl mp rfl (by omega) (by omega) dM_put_22 (fun H locs hP hD hS => ?_)
    have hP : va_P D vwCl [(mo, .inr (4, [.int (iI (cs : Int)), .int (iI (rs : Int)), .ref mg, .ref mm, .int (iI (mv : Int)), .ref mx, .ref my, .ref mf, .int (iI (mp : Int)), .ref mt, .int (iI (me : Int))])), (mg, .inl (cB, 65536, .inl (iA fB))), (mm, .inl (cS, 65536, .inl (iA fM))), (mx, .inl (cA, 4096, .inl (iA (uZ gX mp a1)))), (my, .inl (cA, 4096, .inl (iA gY))), (mf, .inl (cA, 4096, .inl (iA gF))), (mt, .inl (cA, 4096, .inl (iA gT)))] H := hP
    have hD : va_D A [(mo, .inr (4, [.int (iI (cs : Int)), .int (iI (rs : Int)), .ref mg, .ref mm, .int (iI (mv : Int)), .ref mx, .ref my, .ref mf, .int (iI (mp : Int)), .ref mt, .int (iI (me : Int))])), (mg, .inl (cB, 65536, .inl (iA fB))), (mm, .inl (cS, 65536, .inl (iA fM))), (mx, .inl (cA, 4096, .inl (iA (uZ gX mp a1)))), (my, .inl (cA, 4096, .inl (iA gY))), (mf, .inl (cA, 4096, .inl (iA gF))), (mt, .inl (cA, 4096, .inl (iA gT)))] := hD
    refine lv_aload_n hx hb dM_put_23 rfl (lv_at hl 0 rfl) ?_
    refine va_get (ci := 4) (v := .ref my) (C := "WindingRasterModel") (T := TM) (N := 11) hx hb hts in_4 hown hK hP 0 rfl rfl 6 (by decide) fl_22 (fun _ h9 => h9) rfl dM_put_24 ?_
    refine lv_aload_n hx hb dM_put_27 rfl (lv_at hl 0 rfl) ?_
    refine va_get (ci := 4) (v := .int (iI (mp : Int))) (C := "WindingRasterModel") (T := TM) (N := 11) hx hb hts in_4 hown hK hP 0 rfl rfl 8 (by decide) fl_46 (fun _ h9 => h9) rfl dM_put_28 ?_
    refine lv_iload_n hx hb dM_put_31 rfl (lv_at hl 2 rfl) ?_
    refine ii_iast hx hb hK hP hD hS 4 0 rfl rfl mp rfl (by omega) (by omega) dM_put_32 (fun H locs hP hD hS => ?_)
    have hP : va_P D vwCl [(mo, .inr (4, [.int (iI (cs : Int)), .int (iI (rs : Int)), .ref mg, .ref mm, .int (iI (mv : Int)), .ref mx, .ref my, .ref mf, .int (iI (mp : Int)), .ref mt, .int (iI (me : Int))])), (mg, .inl (cB, 65536, .inl (iA fB))), (mm, .inl (cS, 65536, .inl (iA fM))), (mx, .inl (cA, 4096, .inl (iA (uZ gX mp a1)))), (my, .inl (cA, 4096, .inl (iA (uZ gY mp a2)))), (mf, .inl (cA, 4096, .inl (iA gF))), (mt, .inl (cA, 4096, .inl (iA gT)))] H := hP
    have hD : va_D A [(mo, .inr (4, [.int (iI (cs : Int)), .int (iI (rs : Int)), .ref mg, .ref mm, .int (iI (mv : Int)), .ref mx, .ref my, .ref mf, .int (iI (mp : Int)), .ref mt, .int (iI (me : Int))])), (mg, .inl (cB, 65536, .inl (iA fB))), (mm, .inl (cS, 65536, .inl (iA fM))), (mx, .inl (cA, 4096, .inl (iA (uZ gX mp a1)))), (my, .inl (cA, 4096, .inl (iA (uZ gY mp a2)))), (mf, .inl (cA, 4096, .inl (iA gF))), (mt, .inl (cA, 4096, .inl (iA gT)))] := hD
    refine lv_aload_n hx hb dM_put_33 rfl (lv_at hl 0 rfl) ?_
    refine va_get (ci := 4) (v := .ref mf) (C := "WindingRasterModel") (T := TM) (N := 11) hx hb hts in_4 hown hK hP 0 rfl rfl 7 (by decide) fl_25 (fun _ h9 => h9) rfl dM_put_34 ?_
    refine lv_aload_n hx hb dM_put_37 rfl (lv_at hl 0 rfl) ?_
    refine va_get (ci := 4) (v := .int (iI (mp : Int))) (C := "WindingRasterModel") (T := TM) (N := 11) hx hb hts in_4 hown hK hP 0 rfl rfl 8 (by decide) fl_46 (fun _ h9 => h9) rfl dM_put_38 ?_
    refine lv_iload_n hx hb dM_put_41 rfl (lv_at hl 3 rfl) ?_
    refine ii_iast hx hb hK hP hD hS 5 0 rfl rfl mp rfl (by omega) (by omega) dM_put_42 (fun H locs hP hD hS => ?_)
    have hP : va_P D vwCl [(mo, .inr (4, [.int (iI (cs : Int)), .int (iI (rs : Int)), .ref mg, .ref mm, .int (iI (mv : Int)), .ref mx, .ref my, .ref mf, .int (iI (mp : Int)), .ref mt, .int (iI (me : Int))])), (mg, .inl (cB, 65536, .inl (iA fB))), (mm, .inl (cS, 65536, .inl (iA fM))), (mx, .inl (cA, 4096, .inl (iA (uZ gX mp a1)))), (my, .inl (cA, 4096, .inl (iA (uZ gY mp a2)))), (mf, .inl (cA, 4096, .inl (iA (uZ gF mp a3)))), (mt, .inl (cA, 4096, .inl (iA gT)))] H := hP
    have hD : va_D A [(mo, .inr (4, [.int (iI (cs : Int)), .int (iI (rs : Int)), .ref mg, .ref mm, .int (iI (mv : Int)), .ref mx, .ref my, .ref mf, .int (iI (mp : Int)), .ref mt, .int (iI (me : Int))])), (mg, .inl (cB, 65536, .inl (iA fB))), (mm, .inl (cS, 65536, .inl (iA fM))), (mx, .inl (cA, 4096, .inl (iA (uZ gX mp a1)))), (my, .inl (cA, 4096, .inl (iA (uZ gY mp a2)))), (mf, .inl (cA, 4096, .inl (iA (uZ gF mp a3)))), (mt, .inl (cA, 4096, .inl (iA gT)))] := hD
    refine lv_aload_n hx hb dM_put_43 rfl (lv_at hl 0 rfl) ?_
    refine lv_dup hx hb dM_put_44 rfl ?_
    refine va_get (ci := 4) (v := .int (iI (mp : Int))) (C := "WindingRasterModel") (T := TM) (N := 11) hx hb hts in_4 hown hK hP 0 rfl rfl 8 (by decide) fl_46 (fun _ h9 => h9) rfl dM_put_45 ?_
    refine ii_iconst (n := 1) hx hb dM_put_48 ?_
    refine ii_iadd hx hb dM_put_49 ?_
    refine ii_top (y := ((mp + 1 : Nat) : Int)) (by push_cast; rfl) ?_
    refine va_put (ci := 4) (v := .int (iI ((mp + 1 : Nat) : Int))) (ty := .int) (C := "WindingRasterModel") (T := TM) (N := 11) hx hb hts in_4 tM tM_ok nM hown hK hP hD hS 0 rfl rfl 8 (by decide) fl_46 (fun _ h9 => h9) rfl (by decide +kernel) rfl rfl (Nat.le_of_ble_eq_true rfl) dM_put_50 (fun H locs hP hD hS => ?_)
    have hP : va_P D vwCl [(mo, .inr (4, [.int (iI (cs : Int)), .int (iI (rs : Int)), .ref mg, .ref mm, .int (iI (mv : Int)), .ref mx, .ref my, .ref mf, .int (iI ((mp + 1 : Nat) : Int)), .ref mt, .int (iI (me : Int))])), (mg, .inl (cB, 65536, .inl (iA fB))), (mm, .inl (cS, 65536, .inl (iA fM))), (mx, .inl (cA, 4096, .inl (iA (uZ gX mp a1)))), (my, .inl (cA, 4096, .inl (iA (uZ gY mp a2)))), (mf, .inl (cA, 4096, .inl (iA (uZ gF mp a3)))), (mt, .inl (cA, 4096, .inl (iA gT)))] H := hP
    have hD : va_D A [(mo, .inr (4, [.int (iI (cs : Int)), .int (iI (rs : Int)), .ref mg, .ref mm, .int (iI (mv : Int)), .ref mx, .ref my, .ref mf, .int (iI ((mp + 1 : Nat) : Int)), .ref mt, .int (iI (me : Int))])), (mg, .inl (cB, 65536, .inl (iA fB))), (mm, .inl (cS, 65536, .inl (iA fM))), (mx, .inl (cA, 4096, .inl (iA (uZ gX mp a1)))), (my, .inl (cA, 4096, .inl (iA (uZ gY mp a2)))), (mf, .inl (cA, 4096, .inl (iA (uZ gF mp a3)))), (mt, .inl (cA, 4096, .inl (iA gT)))] := hD
    refine lv_aload_n hx hb dM_put_53 rfl (lv_at hl 0 rfl) ?_
    refine va_get (ci := 4) (v := .int (iI ((mp + 1 : Nat) : Int))) (C := "WindingRasterModel") (T := TM) (N := 11) hx hb hts in_4 hown hK hP 0 rfl rfl 8 (by decide) fl_46 (fun _ h9 => h9) rfl dM_put_54 ?_
    rw [← hQ]
    exact wr_iret (uZ gX mp a1, uZ gY mp a2, uZ gF mp a3, mp + 1) hx hb hr hlocks hAe (hP.sub [0, 1, 2, 3, 4, 5, 6] rfl) (hD.sub [0, 1, 2, 3, 4, 5, 6] (by decide) rfl) hS (Or.inr ⟨rfl, by omega, rfl, rfl, rfl, rfl⟩) dM_put_57
  · refine ii_bipush (n := (-3)) hx hb dM_put_10 (by decide +kernel) ?_
    rw [← hQ]
    exact wr_iret (gX, gY, gF, mp) hx hb hr hlocks hAe (hP.sub [0, 1, 2, 3, 4, 5, 6] rfl) (hD.sub [0, 1, 2, 3, 4, 5, 6] (by decide) rfl) hS (Or.inl ⟨rfl, by omega, rfl, rfl, rfl, rfl⟩) dM_put_12

def rm_m_move : Room := { frames := 1, cells := 0, slots := 0, locals := 23 }
set_option maxHeartbeats 4000000 in
set_option maxRecDepth 100000 in
theorem m_move (l : Launch) (D : va_G) (cA cB cS : ClassId) (mo : Nat) (cs : Nat) (rs : Nat) (mg : Nat) (mm : Nat) (mx : Nat) (my : Nat) (mf : Nat) (mt : Nat) (fB : Nat → Int) (fM : Nat → Int) (gX : Nat → Int) (gY : Nat → Int) (gF : Nat → Int) (gT : Nat → Int) (mv : Nat) (mp : Nat) (me : Nat) (a1 : Int) (a2 : Int) (h1 : i32 a1) (h2 : i32 a2) (h3 : mp ≤ 4096) (sz : Nat) : Met l yM_move wM_move rm_m_move (pW [.ref mo, .int (iI a1), .int (iI a2)] D vwCl (vwTy cA cB cS) vwNw [(mo, .inr (4, [.int (iI (cs : Int)), .int (iI (rs : Int)), .ref mg, .ref mm, .int (iI (mv : Int)), .ref mx, .ref my, .ref mf, .int (iI (mp : Int)), .ref mt, .int (iI (me : Int))])), (mg, .inl (cB, 65536, .inl (iA fB))), (mm, .inl (cS, 65536, .inl (iA fM))), (mx, .inl (cA, 4096, .inl (iA gX))), (my, .inl (cA, 4096, .inl (iA gY))), (mf, .inl (cA, 4096, .inl (iA gF))), (mt, .inl (cA, 4096, .inl (iA gT)))] sz) (qW (S := (Nat → Int) × (Nat → Int) × (Nat → Int) × Nat) (fun (z : Int) (u : (Nat → Int) × (Nat → Int) × (Nat → Int) × Nat) => (z = -1 ∧ ¬ (-536870912 ≤ a1 ∧ a1 ≤ 536870912 ∧ -536870912 ≤ a2 ∧ a2 ≤ 536870912) ∧ u.1 = gX ∧ u.2.1 = gY ∧ u.2.2.1 = gF ∧ u.2.2.2 = mp) ∨ (z = -3 ∧ (-536870912 ≤ a1 ∧ a1 ≤ 536870912 ∧ -536870912 ≤ a2 ∧ a2 ≤ 536870912) ∧ 4096 ≤ mp ∧ u.1 = gX ∧ u.2.1 = gY ∧ u.2.2.1 = gF ∧ u.2.2.2 = mp) ∨ (z = ((mp + 1 : Nat) : Int) ∧ (-536870912 ≤ a1 ∧ a1 ≤ 536870912 ∧ -536870912 ≤ a2 ∧ a2 ≤ 536870912) ∧ mp < 4096 ∧ u.1 = uZ gX mp a1 ∧ u.2.1 = uZ gY mp a2 ∧ u.2.2.1 = uZ gF mp (mp : Int) ∧ u.2.2.2 = mp + 1)) D vwCl [(mo, .inr (4, [.int (iI (cs : Int)), .int (iI (rs : Int)), .ref mg, .ref mm, .int (iI (mv : Int)), .ref mx, .ref my, .ref mf, .int (iI (mp : Int)), .ref mt, .int (iI (me : Int))])), (mg, .inl (cB, 65536, .inl (iA fB))), (mm, .inl (cS, 65536, .inl (iA fM))), (mx, .inl (cA, 4096, .inl (iA gX))), (my, .inl (cA, 4096, .inl (iA gY))), (mf, .inl (cA, 4096, .inl (iA gF))), (mt, .inl (cA, 4096, .inl (iA gT)))] sz (fun u : (Nat → Int) × (Nat → Int) × (Nat → Int) × Nat => [(mo, .inr (4, [.int (iI (cs : Int)), .int (iI (rs : Int)), .ref mg, .ref mm, .int (iI (mv : Int)), .ref mx, .ref my, .ref mf, .int (iI ((u.2.2.2 : Nat) : Int)), .ref mt, .int (iI (me : Int))])), (mg, .inl (cB, 65536, .inl (iA fB))), (mm, .inl (cS, 65536, .inl (iA fM))), (mx, .inl (cA, 4096, .inl (iA u.1))), (my, .inl (cA, 4096, .inl (iA u.2.1))), (mf, .inl (cA, 4096, .inl (iA u.2.2.1))), (mt, .inl (cA, 4096, .inl (iA gT)))])) 0 0 (va_A [(mo, .inr (4, [.int (iI (cs : Int)), .int (iI (rs : Int)), .ref mg, .ref mm, .int (iI (mv : Int)), .ref mx, .ref my, .ref mf, .int (iI (mp : Int)), .ref mt, .int (iI (me : Int))])), (mg, .inl (cB, 65536, .inl (iA fB))), (mm, .inl (cS, 65536, .inl (iA fM))), (mx, .inl (cA, 4096, .inl (iA gX))), (my, .inl (cA, 4096, .inl (iA gY))), (mf, .inl (cA, 4096, .inl (iA gF))), (mt, .inl (cA, 4096, .inl (iA gT)))] sz) := by
  refine Met.ofW (cc := bM_move) (maxL := 3) (ret := (some .int)) (by decide +kernel) rfl ?_
  intro p e s m args below meth c s₁ B hml hv
  obtain ⟨rfl, hsz, hP, hKW, hD0⟩ := hv
  have hK := hKW.1
  have hN := hKW.2.2
  have hx := B.exec
  have hb := B.bytes
  have hr := B.returns
  have hts := atoms_spec (ws := wM_move) B.pre
  have hown : s.vm.findClass "WindingRasterModel" = some m.cls := findClass_of_methodNamed B.named
  have hlocks := B.notSynchronized
  subst hsz
  have hD := hD0.self (sz := s.heap.size)
  obtain ⟨A, hAe⟩ : ∃ A, va_A [(mo, .inr (4, [.int (iI (cs : Int)), .int (iI (rs : Int)), .ref mg, .ref mm, .int (iI (mv : Int)), .ref mx, .ref my, .ref mf, .int (iI (mp : Int)), .ref mt, .int (iI (me : Int))])), (mg, .inl (cB, 65536, .inl (iA fB))), (mm, .inl (cS, 65536, .inl (iA fM))), (mx, .inl (cA, 4096, .inl (iA gX))), (my, .inl (cA, 4096, .inl (iA gY))), (mf, .inl (cA, 4096, .inl (iA gF))), (mt, .inl (cA, 4096, .inl (iA gT)))] s.heap.size = A := ⟨_, rfl⟩
  rw [hAe] at hD
  have hA : ∀ q : Nat, s.heap.size ≤ q → A q := fun q h => by rw [← hAe]; exact Or.inr h
  have hS : va_S A s.heap s.heap [] := va_S.rf
  have hP : va_P D vwCl [(mo, .inr (4, [.int (iI (cs : Int)), .int (iI (rs : Int)), .ref mg, .ref mm, .int (iI (mv : Int)), .ref mx, .ref my, .ref mf, .int (iI (mp : Int)), .ref mt, .int (iI (me : Int))])), (mg, .inl (cB, 65536, .inl (iA fB))), (mm, .inl (cS, 65536, .inl (iA fM))), (mx, .inl (cA, 4096, .inl (iA gX))), (my, .inl (cA, 4096, .inl (iA gY))), (mf, .inl (cA, 4096, .inl (iA gF))), (mt, .inl (cA, 4096, .inl (iA gT)))] s.heap := hP
  have in_4 : ∀ w ∈ wsM, w ∈ wM_move := fun w h => List.mem_cons_of_mem _ (in0_M w h)
  have fl_46 := (hts _ (List.mem_cons_of_mem _ vm_257))
  have hl := lv_entry ([.ref mo, .int (iI a1), .int (iI a2)]) (n := 3) (Nat.le_of_ble_eq_true rfl)
  rw [lg_entry_eq]
  generalize (lg_sl ([.ref mo, .int (iI a1), .int (iI a2)]) ++ List.replicate (3 - (lg_sl ([.ref mo, .int (iI a1), .int (iI a2)])).length) Slot.unset).toArray = ls at hl ⊢
  have hl : lv_has ls 3 [(0, .ref mo), (1, .int (iI a1)), (2, .int (iI a2))] := hl
  generalize hQ : MQ below (qW (S := (Nat → Int) × (Nat → Int) × (Nat → Int) × Nat) (fun (z : Int) (u : (Nat → Int) × (Nat → Int) × (Nat → Int) × Nat) => (z = -1 ∧ ¬ (-536870912 ≤ a1 ∧ a1 ≤ 536870912 ∧ -536870912 ≤ a2 ∧ a2 ≤ 536870912) ∧ u.1 = gX ∧ u.2.1 = gY ∧ u.2.2.1 = gF ∧ u.2.2.2 = mp) ∨ (z = -3 ∧ (-536870912 ≤ a1 ∧ a1 ≤ 536870912 ∧ -536870912 ≤ a2 ∧ a2 ≤ 536870912) ∧ 4096 ≤ mp ∧ u.1 = gX ∧ u.2.1 = gY ∧ u.2.2.1 = gF ∧ u.2.2.2 = mp) ∨ (z = ((mp + 1 : Nat) : Int) ∧ (-536870912 ≤ a1 ∧ a1 ≤ 536870912 ∧ -536870912 ≤ a2 ∧ a2 ≤ 536870912) ∧ mp < 4096 ∧ u.1 = uZ gX mp a1 ∧ u.2.1 = uZ gY mp a2 ∧ u.2.2.1 = uZ gF mp (mp : Int) ∧ u.2.2.2 = mp + 1)) D vwCl [(mo, .inr (4, [.int (iI (cs : Int)), .int (iI (rs : Int)), .ref mg, .ref mm, .int (iI (mv : Int)), .ref mx, .ref my, .ref mf, .int (iI (mp : Int)), .ref mt, .int (iI (me : Int))])), (mg, .inl (cB, 65536, .inl (iA fB))), (mm, .inl (cS, 65536, .inl (iA fM))), (mx, .inl (cA, 4096, .inl (iA gX))), (my, .inl (cA, 4096, .inl (iA gY))), (mf, .inl (cA, 4096, .inl (iA gF))), (mt, .inl (cA, 4096, .inl (iA gT)))] s.heap.size (fun u : (Nat → Int) × (Nat → Int) × (Nat → Int) × Nat => [(mo, .inr (4, [.int (iI (cs : Int)), .int (iI (rs : Int)), .ref mg, .ref mm, .int (iI (mv : Int)), .ref mx, .ref my, .ref mf, .int (iI ((u.2.2.2 : Nat) : Int)), .ref mt, .int (iI (me : Int))])), (mg, .inl (cB, 65536, .inl (iA fB))), (mm, .inl (cS, 65536, .inl (iA fM))), (mx, .inl (cA, 4096, .inl (iA u.1))), (my, .inl (cA, 4096, .inl (iA u.2.1))), (mf, .inl (cA, 4096, .inl (iA u.2.2.1))), (mt, .inl (cA, 4096, .inl (iA gT)))])) [.ref mo, .int (iI a1), .int (iI a2)].toArray s 0 0 (va_A [(mo, .inr (4, [.int (iI (cs : Int)), .int (iI (rs : Int)), .ref mg, .ref mm, .int (iI (mv : Int)), .ref mx, .ref my, .ref mf, .int (iI (mp : Int)), .ref mt, .int (iI (me : Int))])), (mg, .inl (cB, 65536, .inl (iA fB))), (mm, .inl (cS, 65536, .inl (iA fM))), (mx, .inl (cA, 4096, .inl (iA gX))), (my, .inl (cA, 4096, .inl (iA gY))), (mf, .inl (cA, 4096, .inl (iA gF))), (mt, .inl (cA, 4096, .inl (iA gT)))] s.heap.size) = QQ
  refine lv_iload_n hx hb dM_move_0 rfl (lv_at hl 1 rfl) ?_
  refine cs_i (va_runS (As := [.int (iI a1)]) (rest := []) ⟨hx, hb, hml, hown, hts⟩ (m_isPlace l D cA cB cS a1 (by omega)) ⟨(callB_of 1 hts (gIn vm_287) rfl rfl rfl (hts _ (List.mem_cons_of_mem _ vm_8)) (hts _ (List.mem_cons_of_mem _ vm_285)) (by decide +kernel) ⟨Nat.le_of_ble_eq_true rfl, Nat.le_of_ble_eq_true rfl⟩), (hts _ (List.mem_cons_of_mem _ vm_286))⟩ (pR.pre (hP.sub [] rfl) hKW) rfl rfl hl.1 rfl (lv_room (Nat.le_of_ble_eq_true rfl)) dM_move_1 ⟨Nat.le_of_ble_eq_true rfl, Nat.le_of_ble_eq_true rfl⟩) (fun z_1 hz_1 => ?_)
  refine ii_if_eq (tgt := 27) hx hb dM_move_4 (by decide) (by omega) (fun c4 => ?_) (fun c4 => ?_)
  · refine ii_iconst (n := (-1)) hx hb dM_move_27 ?_
    rw [← hQ]
    exact wr_iret (gX, gY, gF, mp) hx hb hr hlocks hAe (hP.sub [0, 1, 2, 3, 4, 5, 6] rfl) (hD.sub [0, 1, 2, 3, 4, 5, 6] (by decide) rfl) hS (Or.inl ⟨rfl, by omega, rfl, rfl, rfl, rfl⟩) dM_move_28
  · refine lv_iload_n hx hb dM_move_7 rfl (lv_at hl 2 rfl) ?_
    refine cs_i (va_runS (As := [.int (iI a2)]) (rest := []) ⟨hx, hb, hml, hown, hts⟩ (m_isPlace l D cA cB cS a2 (by omega)) ⟨(callB_of 1 hts (gIn vm_287) rfl rfl rfl (hts _ (List.mem_cons_of_mem _ vm_8)) (hts _ (List.mem_cons_of_mem _ vm_285)) (by decide +kernel) ⟨Nat.le_of_ble_eq_true rfl, Nat.le_of_ble_eq_true rfl⟩), (hts _ (List.mem_cons_of_mem _ vm_286))⟩ (pR.pre (hP.sub [] rfl) hKW) rfl rfl hl.1 rfl (lv_room (Nat.le_of_ble_eq_true rfl)) dM_move_8 ⟨Nat.le_of_ble_eq_true rfl, Nat.le_of_ble_eq_true rfl⟩) (fun z_2 hz_2 => ?_)
    refine ii_if_eq (tgt := 27) hx hb dM_move_11 (by decide) (by omega) (fun c11 => ?_) (fun c11 => ?_)
    · refine ii_iconst (n := (-1)) hx hb dM_move_27 ?_
      rw [← hQ]
      exact wr_iret (gX, gY, gF, mp) hx hb hr hlocks hAe (hP.sub [0, 1, 2, 3, 4, 5, 6] rfl) (hD.sub [0, 1, 2, 3, 4, 5, 6] (by decide) rfl) hS (Or.inl ⟨rfl, by omega, rfl, rfl, rfl, rfl⟩) dM_move_28
    · refine lv_aload_n hx hb dM_move_14 rfl (lv_at hl 0 rfl) ?_
      refine lv_iload_n hx hb dM_move_15 rfl (lv_at hl 1 rfl) ?_
      refine lv_iload_n hx hb dM_move_16 rfl (lv_at hl 2 rfl) ?_
      refine lv_aload_n hx hb dM_move_17 rfl (lv_at hl 0 rfl) ?_
      refine va_get (ci := 4) (v := .int (iI (mp : Int))) (C := "WindingRasterModel") (T := TM) (N := 11) hx hb hts in_4 hown hK hP 0 rfl rfl 8 (by decide) fl_46 (fun _ h9 => h9) rfl dM_move_18 ?_
      refine cw_i (wc := [(mo, .inr (4, [.int (iI (cs : Int)), .int (iI (rs : Int)), .ref mg, .ref mm, .int (iI (mv : Int)), .ref mx, .ref my, .ref mf, .int (iI (mp : Int)), .ref mt, .int (iI (me : Int))])), (mg, .inl (cB, 65536, .inl (iA fB))), (mm, .inl (cS, 65536, .inl (iA fM))), (mx, .inl (cA, 4096, .inl (iA gX))), (my, .inl (cA, 4096, .inl (iA gY))), (mf, .inl (cA, 4096, .inl (iA gF))), (mt, .inl (cA, 4096, .inl (iA gT)))]) (wr := []) hP hD hS hA [0, 1, 2, 3, 4, 5, 6] [] rfl rfl (by decide) (by decide) (va_runV (As := [.int (iI a1), .int (iI a2), .int (iI (mp : Int))]) (rest := []) ⟨hx, hb, hml, hown, hts⟩ (m_put l D cA cB cS mo cs rs mg mm mx my mf mt fB fM gX gY gF gT mv mp me a1 a2 (mp : Int) (by omega) _) ⟨(callB_of 3 hts (gIn vm_292) rfl rfl rfl (hts _ (List.mem_cons_of_mem _ vm_8)) (hts _ (List.mem_cons_of_mem _ vm_290)) (by decide +kernel) ⟨Nat.le_of_ble_eq_true rfl, Nat.le_of_ble_eq_true rfl⟩), (hts _ (List.mem_cons_of_mem _ vm_291)), (hts _ (List.mem_cons_of_mem _ vm_405))⟩ (pW.preV (va_recv hK hP (ci := 4) (q0 := 0) rfl rfl) (hP.sub [0, 1, 2, 3, 4, 5, 6] rfl) (hD.sub [0, 1, 2, 3, 4, 5, 6] (by decide) rfl) hKW) rfl rfl hl.1 rfl (lv_room (Nat.le_of_ble_eq_true rfl)) dM_move_21 ⟨Nat.le_of_ble_eq_true rfl, Nat.le_of_ble_eq_true rfl⟩) (fun zp u_3 H locs hzp hP hD hS => ?_)
      obtain ⟨gX1, gY1, gF1, mp1⟩ := u_3
      try dsimp only at hzp
      have hP : va_P D vwCl [(mo, .inr (4, [.int (iI (cs : Int)), .int (iI (rs : Int)), .ref mg, .ref mm, .int (iI (mv : Int)), .ref mx, .ref my, .ref mf, .int (iI (mp1 : Int)), .ref mt, .int (iI (me : Int))])), (mg, .inl (cB, 65536, .inl (iA fB))), (mm, .inl (cS, 65536, .inl (iA fM))), (mx, .inl (cA, 4096, .inl (iA gX1))), (my, .inl (cA, 4096, .inl (iA gY1))), (mf, .inl (cA, 4096, .inl (iA gF1))), (mt, .inl (cA, 4096, .inl (iA gT)))] H := hP
      have hD : va_D A [(mo, .inr (4, [.int (iI (cs : Int)), .int (iI (rs : Int)), .ref mg, .ref mm, .int (iI (mv : Int)), .ref mx, .ref my, .ref mf, .int (iI (mp1 : Int)), .ref mt, .int (iI (me : Int))])), (mg, .inl (cB, 65536, .inl (iA fB))), (mm, .inl (cS, 65536, .inl (iA fM))), (mx, .inl (cA, 4096, .inl (iA gX1))), (my, .inl (cA, 4096, .inl (iA gY1))), (mf, .inl (cA, 4096, .inl (iA gF1))), (mt, .inl (cA, 4096, .inl (iA gT)))] := hD
      refine lv_goto (tgt := 28) hx hb dM_move_24 (by decide) ?_
      rw [← hQ]
      exact wr_iret (gX1, gY1, gF1, mp1) hx hb hr hlocks hAe (hP.sub [0, 1, 2, 3, 4, 5, 6] rfl) (hD.sub [0, 1, 2, 3, 4, 5, 6] (by decide) rfl) hS (Or.inr (by rcases hzp with w | w; (exact Or.inl ⟨w.1, by omega, w.2⟩); (exact Or.inr ⟨w.1, by omega, w.2⟩))) dM_move_28

def rm_m_line : Room := { frames := 1, cells := 0, slots := 0, locals := 23 }
set_option maxHeartbeats 4000000 in
set_option maxRecDepth 100000 in
theorem m_line (l : Launch) (D : va_G) (cA cB cS : ClassId) (mo : Nat) (cs : Nat) (rs : Nat) (mg : Nat) (mm : Nat) (mx : Nat) (my : Nat) (mf : Nat) (mt : Nat) (fB : Nat → Int) (fM : Nat → Int) (gX : Nat → Int) (gY : Nat → Int) (gF : Nat → Int) (gT : Nat → Int) (mv : Nat) (mp : Nat) (me : Nat) (a1 : Int) (a2 : Int) (h1 : i32 a1) (h2 : i32 a2) (h3 : mp ≤ 4096) (sz : Nat) : Met l yM_line wM_line rm_m_line (pW [.ref mo, .int (iI a1), .int (iI a2)] D vwCl (vwTy cA cB cS) vwNw [(mo, .inr (4, [.int (iI (cs : Int)), .int (iI (rs : Int)), .ref mg, .ref mm, .int (iI (mv : Int)), .ref mx, .ref my, .ref mf, .int (iI (mp : Int)), .ref mt, .int (iI (me : Int))])), (mg, .inl (cB, 65536, .inl (iA fB))), (mm, .inl (cS, 65536, .inl (iA fM))), (mx, .inl (cA, 4096, .inl (iA gX))), (my, .inl (cA, 4096, .inl (iA gY))), (mf, .inl (cA, 4096, .inl (iA gF))), (mt, .inl (cA, 4096, .inl (iA gT)))] sz) (qW (S := (Nat → Int) × (Nat → Int) × (Nat → Int) × Nat) (fun (z : Int) (u : (Nat → Int) × (Nat → Int) × (Nat → Int) × Nat) => (z = -1 ∧ ¬ (-536870912 ≤ a1 ∧ a1 ≤ 536870912 ∧ -536870912 ≤ a2 ∧ a2 ≤ 536870912) ∧ u.1 = gX ∧ u.2.1 = gY ∧ u.2.2.1 = gF ∧ u.2.2.2 = mp) ∨ (z = -2 ∧ (-536870912 ≤ a1 ∧ a1 ≤ 536870912 ∧ -536870912 ≤ a2 ∧ a2 ≤ 536870912) ∧ mp = 0 ∧ u.1 = gX ∧ u.2.1 = gY ∧ u.2.2.1 = gF ∧ u.2.2.2 = mp) ∨ (z = -3 ∧ (-536870912 ≤ a1 ∧ a1 ≤ 536870912 ∧ -536870912 ≤ a2 ∧ a2 ≤ 536870912) ∧ 4096 ≤ mp ∧ u.1 = gX ∧ u.2.1 = gY ∧ u.2.2.1 = gF ∧ u.2.2.2 = mp) ∨ (z = ((mp + 1 : Nat) : Int) ∧ (-536870912 ≤ a1 ∧ a1 ≤ 536870912 ∧ -536870912 ≤ a2 ∧ a2 ≤ 536870912) ∧ 0 < mp ∧ mp < 4096 ∧ u.1 = uZ gX mp a1 ∧ u.2.1 = uZ gY mp a2 ∧ u.2.2.1 = uZ gF mp (gF (mp - 1)) ∧ u.2.2.2 = mp + 1)) D vwCl [(mo, .inr (4, [.int (iI (cs : Int)), .int (iI (rs : Int)), .ref mg, .ref mm, .int (iI (mv : Int)), .ref mx, .ref my, .ref mf, .int (iI (mp : Int)), .ref mt, .int (iI (me : Int))])), (mg, .inl (cB, 65536, .inl (iA fB))), (mm, .inl (cS, 65536, .inl (iA fM))), (mx, .inl (cA, 4096, .inl (iA gX))), (my, .inl (cA, 4096, .inl (iA gY))), (mf, .inl (cA, 4096, .inl (iA gF))), (mt, .inl (cA, 4096, .inl (iA gT)))] sz (fun u : (Nat → Int) × (Nat → Int) × (Nat → Int) × Nat => [(mo, .inr (4, [.int (iI (cs : Int)), .int (iI (rs : Int)), .ref mg, .ref mm, .int (iI (mv : Int)), .ref mx, .ref my, .ref mf, .int (iI ((u.2.2.2 : Nat) : Int)), .ref mt, .int (iI (me : Int))])), (mg, .inl (cB, 65536, .inl (iA fB))), (mm, .inl (cS, 65536, .inl (iA fM))), (mx, .inl (cA, 4096, .inl (iA u.1))), (my, .inl (cA, 4096, .inl (iA u.2.1))), (mf, .inl (cA, 4096, .inl (iA u.2.2.1))), (mt, .inl (cA, 4096, .inl (iA gT)))])) 0 0 (va_A [(mo, .inr (4, [.int (iI (cs : Int)), .int (iI (rs : Int)), .ref mg, .ref mm, .int (iI (mv : Int)), .ref mx, .ref my, .ref mf, .int (iI (mp : Int)), .ref mt, .int (iI (me : Int))])), (mg, .inl (cB, 65536, .inl (iA fB))), (mm, .inl (cS, 65536, .inl (iA fM))), (mx, .inl (cA, 4096, .inl (iA gX))), (my, .inl (cA, 4096, .inl (iA gY))), (mf, .inl (cA, 4096, .inl (iA gF))), (mt, .inl (cA, 4096, .inl (iA gT)))] sz) := by
  refine Met.ofW (cc := bM_line) (maxL := 3) (ret := (some .int)) (by decide +kernel) rfl ?_
  intro p e s m args below meth c s₁ B hml hv
  obtain ⟨rfl, hsz, hP, hKW, hD0⟩ := hv
  have hK := hKW.1
  have hN := hKW.2.2
  have hx := B.exec
  have hb := B.bytes
  have hr := B.returns
  have hts := atoms_spec (ws := wM_line) B.pre
  have hown : s.vm.findClass "WindingRasterModel" = some m.cls := findClass_of_methodNamed B.named
  have hlocks := B.notSynchronized
  subst hsz
  have hD := hD0.self (sz := s.heap.size)
  obtain ⟨A, hAe⟩ : ∃ A, va_A [(mo, .inr (4, [.int (iI (cs : Int)), .int (iI (rs : Int)), .ref mg, .ref mm, .int (iI (mv : Int)), .ref mx, .ref my, .ref mf, .int (iI (mp : Int)), .ref mt, .int (iI (me : Int))])), (mg, .inl (cB, 65536, .inl (iA fB))), (mm, .inl (cS, 65536, .inl (iA fM))), (mx, .inl (cA, 4096, .inl (iA gX))), (my, .inl (cA, 4096, .inl (iA gY))), (mf, .inl (cA, 4096, .inl (iA gF))), (mt, .inl (cA, 4096, .inl (iA gT)))] s.heap.size = A := ⟨_, rfl⟩
  rw [hAe] at hD
  have hA : ∀ q : Nat, s.heap.size ≤ q → A q := fun q h => by rw [← hAe]; exact Or.inr h
  have hS : va_S A s.heap s.heap [] := va_S.rf
  have hP : va_P D vwCl [(mo, .inr (4, [.int (iI (cs : Int)), .int (iI (rs : Int)), .ref mg, .ref mm, .int (iI (mv : Int)), .ref mx, .ref my, .ref mf, .int (iI (mp : Int)), .ref mt, .int (iI (me : Int))])), (mg, .inl (cB, 65536, .inl (iA fB))), (mm, .inl (cS, 65536, .inl (iA fM))), (mx, .inl (cA, 4096, .inl (iA gX))), (my, .inl (cA, 4096, .inl (iA gY))), (mf, .inl (cA, 4096, .inl (iA gF))), (mt, .inl (cA, 4096, .inl (iA gT)))] s.heap := hP
  have in_4 : ∀ w ∈ wsM, w ∈ wM_line := fun w h => List.mem_cons_of_mem _ (in0_M w h)
  have fl_46 := (hts _ (List.mem_cons_of_mem _ vm_257))
  have fl_25 := (hts _ (List.mem_cons_of_mem _ vm_256))
  have hl := lv_entry ([.ref mo, .int (iI a1), .int (iI a2)]) (n := 3) (Nat.le_of_ble_eq_true rfl)
  rw [lg_entry_eq]
  generalize (lg_sl ([.ref mo, .int (iI a1), .int (iI a2)]) ++ List.replicate (3 - (lg_sl ([.ref mo, .int (iI a1), .int (iI a2)])).length) Slot.unset).toArray = ls at hl ⊢
  have hl : lv_has ls 3 [(0, .ref mo), (1, .int (iI a1)), (2, .int (iI a2))] := hl
  generalize hQ : MQ below (qW (S := (Nat → Int) × (Nat → Int) × (Nat → Int) × Nat) (fun (z : Int) (u : (Nat → Int) × (Nat → Int) × (Nat → Int) × Nat) => (z = -1 ∧ ¬ (-536870912 ≤ a1 ∧ a1 ≤ 536870912 ∧ -536870912 ≤ a2 ∧ a2 ≤ 536870912) ∧ u.1 = gX ∧ u.2.1 = gY ∧ u.2.2.1 = gF ∧ u.2.2.2 = mp) ∨ (z = -2 ∧ (-536870912 ≤ a1 ∧ a1 ≤ 536870912 ∧ -536870912 ≤ a2 ∧ a2 ≤ 536870912) ∧ mp = 0 ∧ u.1 = gX ∧ u.2.1 = gY ∧ u.2.2.1 = gF ∧ u.2.2.2 = mp) ∨ (z = -3 ∧ (-536870912 ≤ a1 ∧ a1 ≤ 536870912 ∧ -536870912 ≤ a2 ∧ a2 ≤ 536870912) ∧ 4096 ≤ mp ∧ u.1 = gX ∧ u.2.1 = gY ∧ u.2.2.1 = gF ∧ u.2.2.2 = mp) ∨ (z = ((mp + 1 : Nat) : Int) ∧ (-536870912 ≤ a1 ∧ a1 ≤ 536870912 ∧ -536870912 ≤ a2 ∧ a2 ≤ 536870912) ∧ 0 < mp ∧ mp < 4096 ∧ u.1 = uZ gX mp a1 ∧ u.2.1 = uZ gY mp a2 ∧ u.2.2.1 = uZ gF mp (gF (mp - 1)) ∧ u.2.2.2 = mp + 1)) D vwCl [(mo, .inr (4, [.int (iI (cs : Int)), .int (iI (rs : Int)), .ref mg, .ref mm, .int (iI (mv : Int)), .ref mx, .ref my, .ref mf, .int (iI (mp : Int)), .ref mt, .int (iI (me : Int))])), (mg, .inl (cB, 65536, .inl (iA fB))), (mm, .inl (cS, 65536, .inl (iA fM))), (mx, .inl (cA, 4096, .inl (iA gX))), (my, .inl (cA, 4096, .inl (iA gY))), (mf, .inl (cA, 4096, .inl (iA gF))), (mt, .inl (cA, 4096, .inl (iA gT)))] s.heap.size (fun u : (Nat → Int) × (Nat → Int) × (Nat → Int) × Nat => [(mo, .inr (4, [.int (iI (cs : Int)), .int (iI (rs : Int)), .ref mg, .ref mm, .int (iI (mv : Int)), .ref mx, .ref my, .ref mf, .int (iI ((u.2.2.2 : Nat) : Int)), .ref mt, .int (iI (me : Int))])), (mg, .inl (cB, 65536, .inl (iA fB))), (mm, .inl (cS, 65536, .inl (iA fM))), (mx, .inl (cA, 4096, .inl (iA u.1))), (my, .inl (cA, 4096, .inl (iA u.2.1))), (mf, .inl (cA, 4096, .inl (iA u.2.2.1))), (mt, .inl (cA, 4096, .inl (iA gT)))])) [.ref mo, .int (iI a1), .int (iI a2)].toArray s 0 0 (va_A [(mo, .inr (4, [.int (iI (cs : Int)), .int (iI (rs : Int)), .ref mg, .ref mm, .int (iI (mv : Int)), .ref mx, .ref my, .ref mf, .int (iI (mp : Int)), .ref mt, .int (iI (me : Int))])), (mg, .inl (cB, 65536, .inl (iA fB))), (mm, .inl (cS, 65536, .inl (iA fM))), (mx, .inl (cA, 4096, .inl (iA gX))), (my, .inl (cA, 4096, .inl (iA gY))), (mf, .inl (cA, 4096, .inl (iA gF))), (mt, .inl (cA, 4096, .inl (iA gT)))] s.heap.size) = QQ
  refine lv_iload_n hx hb dM_line_0 rfl (lv_at hl 1 rfl) ?_
  refine cs_i (va_runS (As := [.int (iI a1)]) (rest := []) ⟨hx, hb, hml, hown, hts⟩ (m_isPlace l D cA cB cS a1 (by omega)) ⟨(callB_of 1 hts (gIn vm_287) rfl rfl rfl (hts _ (List.mem_cons_of_mem _ vm_8)) (hts _ (List.mem_cons_of_mem _ vm_285)) (by decide +kernel) ⟨Nat.le_of_ble_eq_true rfl, Nat.le_of_ble_eq_true rfl⟩), (hts _ (List.mem_cons_of_mem _ vm_286))⟩ (pR.pre (hP.sub [] rfl) hKW) rfl rfl hl.1 rfl (lv_room (Nat.le_of_ble_eq_true rfl)) dM_line_1 ⟨Nat.le_of_ble_eq_true rfl, Nat.le_of_ble_eq_true rfl⟩) (fun z_1 hz_1 => ?_)
  refine ii_if_eq (tgt := 14) hx hb dM_line_4 (by decide) (by omega) (fun c4 => ?_) (fun c4 => ?_)
  · refine ii_iconst (n := (-1)) hx hb dM_line_14 ?_
    rw [← hQ]
    exact wr_iret (gX, gY, gF, mp) hx hb hr hlocks hAe (hP.sub [0, 1, 2, 3, 4, 5, 6] rfl) (hD.sub [0, 1, 2, 3, 4, 5, 6] (by decide) rfl) hS (Or.inl ⟨rfl, by omega, rfl, rfl, rfl, rfl⟩) dM_line_15
  · refine lv_iload_n hx hb dM_line_7 rfl (lv_at hl 2 rfl) ?_
    refine cs_i (va_runS (As := [.int (iI a2)]) (rest := []) ⟨hx, hb, hml, hown, hts⟩ (m_isPlace l D cA cB cS a2 (by omega)) ⟨(callB_of 1 hts (gIn vm_287) rfl rfl rfl (hts _ (List.mem_cons_of_mem _ vm_8)) (hts _ (List.mem_cons_of_mem _ vm_285)) (by decide +kernel) ⟨Nat.le_of_ble_eq_true rfl, Nat.le_of_ble_eq_true rfl⟩), (hts _ (List.mem_cons_of_mem _ vm_286))⟩ (pR.pre (hP.sub [] rfl) hKW) rfl rfl hl.1 rfl (lv_room (Nat.le_of_ble_eq_true rfl)) dM_line_8 ⟨Nat.le_of_ble_eq_true rfl, Nat.le_of_ble_eq_true rfl⟩) (fun z_2 hz_2 => ?_)
    refine ii_if_ne (tgt := 16) hx hb dM_line_11 (by decide) (by omega) (fun c11 => ?_) (fun c11 => ?_)
    · refine lv_aload_n hx hb dM_line_16 rfl (lv_at hl 0 rfl) ?_
      refine va_get (ci := 4) (v := .int (iI (mp : Int))) (C := "WindingRasterModel") (T := TM) (N := 11) hx hb hts in_4 hown hK hP 0 rfl rfl 8 (by decide) fl_46 (fun _ h9 => h9) rfl dM_line_17 ?_
      refine ii_if_ne (tgt := 28) hx hb dM_line_20 (by decide) (by omega) (fun c20 => ?_) (fun c20 => ?_)
      · refine lv_aload_n hx hb dM_line_28 rfl (lv_at hl 0 rfl) ?_
        refine lv_iload_n hx hb dM_line_29 rfl (lv_at hl 1 rfl) ?_
        refine lv_iload_n hx hb dM_line_30 rfl (lv_at hl 2 rfl) ?_
        refine lv_aload_n hx hb dM_line_31 rfl (lv_at hl 0 rfl) ?_
        refine va_get (ci := 4) (v := .ref mf) (C := "WindingRasterModel") (T := TM) (N := 11) hx hb hts in_4 hown hK hP 0 rfl rfl 7 (by decide) fl_25 (fun _ h9 => h9) rfl dM_line_32 ?_
        refine lv_aload_n hx hb dM_line_35 rfl (lv_at hl 0 rfl) ?_
        refine va_get (ci := 4) (v := .int (iI (mp : Int))) (C := "WindingRasterModel") (T := TM) (N := 11) hx hb hts in_4 hown hK hP 0 rfl rfl 8 (by decide) fl_46 (fun _ h9 => h9) rfl dM_line_36 ?_
        refine ii_iconst (n := 1) hx hb dM_line_39 ?_
        refine ii_isub hx hb dM_line_40 ?_
        refine ii_iald hx hb hK hP 5 0 rfl rfl (mp - 1) (by omega) (by omega) (by omega) dM_line_41 ?_
        refine cw_i (wc := [(mo, .inr (4, [.int (iI (cs : Int)), .int (iI (rs : Int)), .ref mg, .ref mm, .int (iI (mv : Int)), .ref mx, .ref my, .ref mf, .int (iI (mp : Int)), .ref mt, .int (iI (me : Int))])), (mg, .inl (cB, 65536, .inl (iA fB))), (mm, .inl (cS, 65536, .inl (iA fM))), (mx, .inl (cA, 4096, .inl (iA gX))), (my, .inl (cA, 4096, .inl (iA gY))), (mf, .inl (cA, 4096, .inl (iA gF))), (mt, .inl (cA, 4096, .inl (iA gT)))]) (wr := []) hP hD hS hA [0, 1, 2, 3, 4, 5, 6] [] rfl rfl (by decide) (by decide) (va_runV (As := [.int (iI a1), .int (iI a2), .int (iI (gF (mp - 1)))]) (rest := []) ⟨hx, hb, hml, hown, hts⟩ (m_put l D cA cB cS mo cs rs mg mm mx my mf mt fB fM gX gY gF gT mv mp me a1 a2 (gF (mp - 1)) (by omega) _) ⟨(callB_of 3 hts (gIn vm_292) rfl rfl rfl (hts _ (List.mem_cons_of_mem _ vm_8)) (hts _ (List.mem_cons_of_mem _ vm_290)) (by decide +kernel) ⟨Nat.le_of_ble_eq_true rfl, Nat.le_of_ble_eq_true rfl⟩), (hts _ (List.mem_cons_of_mem _ vm_291)), (hts _ (List.mem_cons_of_mem _ vm_405))⟩ (pW.preV (va_recv hK hP (ci := 4) (q0 := 0) rfl rfl) (hP.sub [0, 1, 2, 3, 4, 5, 6] rfl) (hD.sub [0, 1, 2, 3, 4, 5, 6] (by decide) rfl) hKW) rfl rfl hl.1 rfl (lv_room (Nat.le_of_ble_eq_true rfl)) dM_line_42 ⟨Nat.le_of_ble_eq_true rfl, Nat.le_of_ble_eq_true rfl⟩) (fun zp u_3 H locs hzp hP hD hS => ?_)
        obtain ⟨gX1, gY1, gF1, mp1⟩ := u_3
        try dsimp only at hzp
        have hP : va_P D vwCl [(mo, .inr (4, [.int (iI (cs : Int)), .int (iI (rs : Int)), .ref mg, .ref mm, .int (iI (mv : Int)), .ref mx, .ref my, .ref mf, .int (iI (mp1 : Int)), .ref mt, .int (iI (me : Int))])), (mg, .inl (cB, 65536, .inl (iA fB))), (mm, .inl (cS, 65536, .inl (iA fM))), (mx, .inl (cA, 4096, .inl (iA gX1))), (my, .inl (cA, 4096, .inl (iA gY1))), (mf, .inl (cA, 4096, .inl (iA gF1))), (mt, .inl (cA, 4096, .inl (iA gT)))] H := hP
        have hD : va_D A [(mo, .inr (4, [.int (iI (cs : Int)), .int (iI (rs : Int)), .ref mg, .ref mm, .int (iI (mv : Int)), .ref mx, .ref my, .ref mf, .int (iI (mp1 : Int)), .ref mt, .int (iI (me : Int))])), (mg, .inl (cB, 65536, .inl (iA fB))), (mm, .inl (cS, 65536, .inl (iA fM))), (mx, .inl (cA, 4096, .inl (iA gX1))), (my, .inl (cA, 4096, .inl (iA gY1))), (mf, .inl (cA, 4096, .inl (iA gF1))), (mt, .inl (cA, 4096, .inl (iA gT)))] := hD
        rw [← hQ]
        exact wr_iret (gX1, gY1, gF1, mp1) hx hb hr hlocks hAe (hP.sub [0, 1, 2, 3, 4, 5, 6] rfl) (hD.sub [0, 1, 2, 3, 4, 5, 6] (by decide) rfl) hS (Or.inr (Or.inr (by rcases hzp with w | w; (exact Or.inl ⟨w.1, by omega, w.2⟩); (exact Or.inr ⟨w.1, by omega, by omega, w.2⟩)))) dM_line_45
      · refine ii_bipush (n := (-2)) hx hb dM_line_23 (by decide +kernel) ?_
        refine lv_goto (tgt := 45) hx hb dM_line_25 (by decide) ?_
        rw [← hQ]
        exact wr_iret (gX, gY, gF, mp) hx hb hr hlocks hAe (hP.sub [0, 1, 2, 3, 4, 5, 6] rfl) (hD.sub [0, 1, 2, 3, 4, 5, 6] (by decide) rfl) hS (Or.inr (Or.inl ⟨rfl, by omega, by omega, rfl, rfl, rfl, rfl⟩)) dM_line_45
    · refine ii_iconst (n := (-1)) hx hb dM_line_14 ?_
      rw [← hQ]
      exact wr_iret (gX, gY, gF, mp) hx hb hr hlocks hAe (hP.sub [0, 1, 2, 3, 4, 5, 6] rfl) (hD.sub [0, 1, 2, 3, 4, 5, 6] (by decide) rfl) hS (Or.inl ⟨rfl, by omega, rfl, rfl, rfl, rfl⟩) dM_line_15

def rm_m_clear : Room := { frames := 0, cells := 0, slots := 0, locals := 0 }
set_option maxHeartbeats 4000000 in
set_option maxRecDepth 100000 in
theorem m_clear (l : Launch) (D : va_G) (cA cB cS : ClassId) (mo : Nat) (cs : Nat) (rs : Nat) (mg : Nat) (mm : Nat) (mx : Nat) (my : Nat) (mf : Nat) (mt : Nat) (fB : Nat → Int) (fM : Nat → Int) (gX : Nat → Int) (gY : Nat → Int) (gF : Nat → Int) (gT : Nat → Int) (mv : Nat) (mp : Nat) (me : Nat) (sz : Nat) : Met l yM_clear wM_clear rm_m_clear (pW [.ref mo] D vwCl (vwTy cA cB cS) vwNw [(mo, .inr (4, [.int (iI (cs : Int)), .int (iI (rs : Int)), .ref mg, .ref mm, .int (iI (mv : Int)), .ref mx, .ref my, .ref mf, .int (iI (mp : Int)), .ref mt, .int (iI (me : Int))])), (mg, .inl (cB, 65536, .inl (iA fB))), (mm, .inl (cS, 65536, .inl (iA fM))), (mx, .inl (cA, 4096, .inl (iA gX))), (my, .inl (cA, 4096, .inl (iA gY))), (mf, .inl (cA, 4096, .inl (iA gF))), (mt, .inl (cA, 4096, .inl (iA gT)))] sz) (qW (S := Unit) (fun (z : Int) (_ : Unit) => z = (mp : Int)) D vwCl [(mo, .inr (4, [.int (iI (cs : Int)), .int (iI (rs : Int)), .ref mg, .ref mm, .int (iI (mv : Int)), .ref mx, .ref my, .ref mf, .int (iI (mp : Int)), .ref mt, .int (iI (me : Int))])), (mg, .inl (cB, 65536, .inl (iA fB))), (mm, .inl (cS, 65536, .inl (iA fM))), (mx, .inl (cA, 4096, .inl (iA gX))), (my, .inl (cA, 4096, .inl (iA gY))), (mf, .inl (cA, 4096, .inl (iA gF))), (mt, .inl (cA, 4096, .inl (iA gT)))] sz (fun _ : Unit => [(mo, .inr (4, [.int (iI (cs : Int)), .int (iI (rs : Int)), .ref mg, .ref mm, .int (iI (mv : Int)), .ref mx, .ref my, .ref mf, .int (iI 0), .ref mt, .int (iI (me : Int))])), (mg, .inl (cB, 65536, .inl (iA fB))), (mm, .inl (cS, 65536, .inl (iA fM))), (mx, .inl (cA, 4096, .inl (iA gX))), (my, .inl (cA, 4096, .inl (iA gY))), (mf, .inl (cA, 4096, .inl (iA gF))), (mt, .inl (cA, 4096, .inl (iA gT)))])) 0 0 (va_A [(mo, .inr (4, [.int (iI (cs : Int)), .int (iI (rs : Int)), .ref mg, .ref mm, .int (iI (mv : Int)), .ref mx, .ref my, .ref mf, .int (iI (mp : Int)), .ref mt, .int (iI (me : Int))])), (mg, .inl (cB, 65536, .inl (iA fB))), (mm, .inl (cS, 65536, .inl (iA fM))), (mx, .inl (cA, 4096, .inl (iA gX))), (my, .inl (cA, 4096, .inl (iA gY))), (mf, .inl (cA, 4096, .inl (iA gF))), (mt, .inl (cA, 4096, .inl (iA gT)))] sz) := by
  refine Met.ofW (cc := bM_clear) (maxL := 2) (ret := (some .int)) (by decide +kernel) rfl ?_
  intro p e s m args below meth c s₁ B hml hv
  obtain ⟨rfl, hsz, hP, hKW, hD0⟩ := hv
  have hK := hKW.1
  have hN := hKW.2.2
  have hx := B.exec
  have hb := B.bytes
  have hr := B.returns
  have hts := atoms_spec (ws := wM_clear) B.pre
  have hown : s.vm.findClass "WindingRasterModel" = some m.cls := findClass_of_methodNamed B.named
  have hlocks := B.notSynchronized
  subst hsz
  have hD := hD0.self (sz := s.heap.size)
  obtain ⟨A, hAe⟩ : ∃ A, va_A [(mo, .inr (4, [.int (iI (cs : Int)), .int (iI (rs : Int)), .ref mg, .ref mm, .int (iI (mv : Int)), .ref mx, .ref my, .ref mf, .int (iI (mp : Int)), .ref mt, .int (iI (me : Int))])), (mg, .inl (cB, 65536, .inl (iA fB))), (mm, .inl (cS, 65536, .inl (iA fM))), (mx, .inl (cA, 4096, .inl (iA gX))), (my, .inl (cA, 4096, .inl (iA gY))), (mf, .inl (cA, 4096, .inl (iA gF))), (mt, .inl (cA, 4096, .inl (iA gT)))] s.heap.size = A := ⟨_, rfl⟩
  rw [hAe] at hD
  have hA : ∀ q : Nat, s.heap.size ≤ q → A q := fun q h => by rw [← hAe]; exact Or.inr h
  have hS : va_S A s.heap s.heap [] := va_S.rf
  have hP : va_P D vwCl [(mo, .inr (4, [.int (iI (cs : Int)), .int (iI (rs : Int)), .ref mg, .ref mm, .int (iI (mv : Int)), .ref mx, .ref my, .ref mf, .int (iI (mp : Int)), .ref mt, .int (iI (me : Int))])), (mg, .inl (cB, 65536, .inl (iA fB))), (mm, .inl (cS, 65536, .inl (iA fM))), (mx, .inl (cA, 4096, .inl (iA gX))), (my, .inl (cA, 4096, .inl (iA gY))), (mf, .inl (cA, 4096, .inl (iA gF))), (mt, .inl (cA, 4096, .inl (iA gT)))] s.heap := hP
  have in_4 : ∀ w ∈ wsM, w ∈ wM_clear := fun w h => List.mem_cons_of_mem _ (in0_M w h)
  have fl_46 := (hts _ (List.mem_cons_of_mem _ vm_257))
  have hl := lv_entry ([.ref mo]) (n := 2) (Nat.le_of_ble_eq_true rfl)
  rw [lg_entry_eq]
  generalize (lg_sl ([.ref mo]) ++ List.replicate (2 - (lg_sl ([.ref mo])).length) Slot.unset).toArray = ls at hl ⊢
  have hl : lv_has ls 2 [(0, .ref mo)] := hl
  generalize hQ : MQ below (qW (S := Unit) (fun (z : Int) (_ : Unit) => z = (mp : Int)) D vwCl [(mo, .inr (4, [.int (iI (cs : Int)), .int (iI (rs : Int)), .ref mg, .ref mm, .int (iI (mv : Int)), .ref mx, .ref my, .ref mf, .int (iI (mp : Int)), .ref mt, .int (iI (me : Int))])), (mg, .inl (cB, 65536, .inl (iA fB))), (mm, .inl (cS, 65536, .inl (iA fM))), (mx, .inl (cA, 4096, .inl (iA gX))), (my, .inl (cA, 4096, .inl (iA gY))), (mf, .inl (cA, 4096, .inl (iA gF))), (mt, .inl (cA, 4096, .inl (iA gT)))] s.heap.size (fun _ : Unit => [(mo, .inr (4, [.int (iI (cs : Int)), .int (iI (rs : Int)), .ref mg, .ref mm, .int (iI (mv : Int)), .ref mx, .ref my, .ref mf, .int (iI 0), .ref mt, .int (iI (me : Int))])), (mg, .inl (cB, 65536, .inl (iA fB))), (mm, .inl (cS, 65536, .inl (iA fM))), (mx, .inl (cA, 4096, .inl (iA gX))), (my, .inl (cA, 4096, .inl (iA gY))), (mf, .inl (cA, 4096, .inl (iA gF))), (mt, .inl (cA, 4096, .inl (iA gT)))])) [.ref mo].toArray s 0 0 (va_A [(mo, .inr (4, [.int (iI (cs : Int)), .int (iI (rs : Int)), .ref mg, .ref mm, .int (iI (mv : Int)), .ref mx, .ref my, .ref mf, .int (iI (mp : Int)), .ref mt, .int (iI (me : Int))])), (mg, .inl (cB, 65536, .inl (iA fB))), (mm, .inl (cS, 65536, .inl (iA fM))), (mx, .inl (cA, 4096, .inl (iA gX))), (my, .inl (cA, 4096, .inl (iA gY))), (mf, .inl (cA, 4096, .inl (iA gF))), (mt, .inl (cA, 4096, .inl (iA gT)))] s.heap.size) = QQ
  refine lv_aload_n hx hb dM_clear_0 rfl (lv_at hl 0 rfl) ?_
  refine va_get (ci := 4) (v := .int (iI (mp : Int))) (C := "WindingRasterModel") (T := TM) (N := 11) hx hb hts in_4 hown hK hP 0 rfl rfl 8 (by decide) fl_46 (fun _ h9 => h9) rfl dM_clear_1 ?_
  refine lv_istore_n (lv' := [(1, .int (iI (mp : Int))), (0, .ref mo)]) hx hb dM_clear_4 rfl hl (by decide) rfl (fun ls hl => ?_)
  refine lv_aload_n hx hb dM_clear_5 rfl (lv_at hl 1 rfl) ?_
  refine ii_iconst (n := 0) hx hb dM_clear_6 ?_
  refine va_put (ci := 4) (v := .int (iI 0)) (ty := .int) (C := "WindingRasterModel") (T := TM) (N := 11) hx hb hts in_4 tM tM_ok nM hown hK hP hD hS 0 rfl rfl 8 (by decide) fl_46 (fun _ h9 => h9) rfl (by decide +kernel) rfl rfl (Nat.le_of_ble_eq_true rfl) dM_clear_7 (fun H locs hP hD hS => ?_)
  have hP : va_P D vwCl [(mo, .inr (4, [.int (iI (cs : Int)), .int (iI (rs : Int)), .ref mg, .ref mm, .int (iI (mv : Int)), .ref mx, .ref my, .ref mf, .int (iI 0), .ref mt, .int (iI (me : Int))])), (mg, .inl (cB, 65536, .inl (iA fB))), (mm, .inl (cS, 65536, .inl (iA fM))), (mx, .inl (cA, 4096, .inl (iA gX))), (my, .inl (cA, 4096, .inl (iA gY))), (mf, .inl (cA, 4096, .inl (iA gF))), (mt, .inl (cA, 4096, .inl (iA gT)))] H := hP
  have hD : va_D A [(mo, .inr (4, [.int (iI (cs : Int)), .int (iI (rs : Int)), .ref mg, .ref mm, .int (iI (mv : Int)), .ref mx, .ref my, .ref mf, .int (iI 0), .ref mt, .int (iI (me : Int))])), (mg, .inl (cB, 65536, .inl (iA fB))), (mm, .inl (cS, 65536, .inl (iA fM))), (mx, .inl (cA, 4096, .inl (iA gX))), (my, .inl (cA, 4096, .inl (iA gY))), (mf, .inl (cA, 4096, .inl (iA gF))), (mt, .inl (cA, 4096, .inl (iA gT)))] := hD
  refine lv_iload_n hx hb dM_clear_10 rfl (lv_at hl 0 rfl) ?_
  rw [← hQ]
  exact wr_iret () hx hb hr hlocks hAe (hP.sub [0, 1, 2, 3, 4, 5, 6] rfl) (hD.sub [0, 1, 2, 3, 4, 5, 6] (by decide) rfl) hS rfl dM_clear_11
end
section
def rm_m_next : Room := { frames := 0, cells := 0, slots := 0, locals := 0 }
set_option maxHeartbeats 4000000 in
set_option maxRecDepth 100000 in
theorem m_next (l : Launch) (D : va_G) (cA cB cS : ClassId) (mo : Nat) (cs : Nat) (rs : Nat) (mg : Nat) (mm : Nat) (mx : Nat) (my : Nat) (mf : Nat) (mt : Nat) (fB : Nat → Int) (fM : Nat → Int) (gX : Nat → Int) (gY : Nat → Int) (gF : Nat → Int) (gT : Nat → Int) (mv : Nat) (mp : Nat) (me : Nat) (pp : Nat) (h1 : pp < mp) (h2 : mp ≤ 4096) (hf : firM gF mp) : Met l yM_next wM_next rm_m_next (pR [.ref mo, .int (iI (pp : Int))] D vwCl (vwTy cA cB cS) vwNw [(mo, .inr (4, [.int (iI (cs : Int)), .int (iI (rs : Int)), .ref mg, .ref mm, .int (iI (mv : Int)), .ref mx, .ref my, .ref mf, .int (iI (mp : Int)), .ref mt, .int (iI (me : Int))])), (mg, .inl (cB, 65536, .inl (iA fB))), (mm, .inl (cS, 65536, .inl (iA fM))), (mx, .inl (cA, 4096, .inl (iA gX))), (my, .inl (cA, 4096, .inl (iA gY))), (mf, .inl (cA, 4096, .inl (iA gF))), (mt, .inl (cA, 4096, .inl (iA gT)))]) (qI (fun z => z = ((nxM gF mp pp : Nat) : Int))) 0 0 (fun _ => False) := by
  refine Met.ofW (cc := bM_next) (maxL := 2) (ret := (some .int)) (by decide +kernel) rfl ?_
  intro p e s m args below meth c s₁ B hml hv
  obtain ⟨rfl, hP, hKW⟩ := hv
  have hK := hKW.1
  have hN := hKW.2.2
  have hx := B.exec
  have hb := B.bytes
  have hr := B.returns
  have hts := atoms_spec (ws := wM_next) B.pre
  have hown : s.vm.findClass "WindingRasterModel" = some m.cls := findClass_of_methodNamed B.named
  have hlocks := B.notSynchronized
  have hP : va_P D vwCl [(mo, .inr (4, [.int (iI (cs : Int)), .int (iI (rs : Int)), .ref mg, .ref mm, .int (iI (mv : Int)), .ref mx, .ref my, .ref mf, .int (iI (mp : Int)), .ref mt, .int (iI (me : Int))])), (mg, .inl (cB, 65536, .inl (iA fB))), (mm, .inl (cS, 65536, .inl (iA fM))), (mx, .inl (cA, 4096, .inl (iA gX))), (my, .inl (cA, 4096, .inl (iA gY))), (mf, .inl (cA, 4096, .inl (iA gF))), (mt, .inl (cA, 4096, .inl (iA gT)))] s.heap := hP
  have in_4 : ∀ w ∈ wsM, w ∈ wM_next := fun w h => List.mem_cons_of_mem _ (in0_M w h)
  have fl_46 := (hts _ (List.mem_cons_of_mem _ vm_257))
  have fl_25 := (hts _ (List.mem_cons_of_mem _ vm_256))
  have hl := lv_entry ([.ref mo, .int (iI (pp : Int))]) (n := 2) (Nat.le_of_ble_eq_true rfl)
  rw [lg_entry_eq]
  generalize (lg_sl ([.ref mo, .int (iI (pp : Int))]) ++ List.replicate (2 - (lg_sl ([.ref mo, .int (iI (pp : Int))])).length) Slot.unset).toArray = ls at hl ⊢
  have hl : lv_has ls 2 [(0, .ref mo), (1, .int (iI (pp : Int)))] := hl
  generalize hQ : MQ below (qI (fun z => z = ((nxM gF mp pp : Nat) : Int))) [.ref mo, .int (iI (pp : Int))].toArray s 0 0 (fun _ => False) = QQ
  have gf0 := hf pp h1
  refine lv_iload_n hx hb dM_next_0 rfl (lv_at hl 1 rfl) ?_
  refine ii_iconst (n := 1) hx hb dM_next_1 ?_
  refine ii_iadd hx hb dM_next_2 ?_
  refine ii_top (y := ((pp + 1 : Nat) : Int)) (by push_cast; rfl) ?_
  refine lv_aload_n hx hb dM_next_3 rfl (lv_at hl 0 rfl) ?_
  refine va_get (ci := 4) (v := .int (iI (mp : Int))) (C := "WindingRasterModel") (T := TM) (N := 11) hx hb hts in_4 hown hK hP 0 rfl rfl 8 (by decide) fl_46 (fun _ h9 => h9) rfl dM_next_4 ?_
  refine ii_icmp_ge (tgt := 33) hx hb dM_next_7 (by decide) (by omega) (by omega) (fun c7 => ?_) (fun c7 => ?_)
  · refine lv_aload_n hx hb dM_next_33 rfl (lv_at hl 0 rfl) ?_
    refine va_get (ci := 4) (v := .ref mf) (C := "WindingRasterModel") (T := TM) (N := 11) hx hb hts in_4 hown hK hP 0 rfl rfl 7 (by decide) fl_25 (fun _ h9 => h9) rfl dM_next_34 ?_
    refine lv_iload_n hx hb dM_next_37 rfl (lv_at hl 1 rfl) ?_
    refine ii_iald hx hb hK hP 5 0 rfl rfl pp rfl (by omega) (by omega) dM_next_38 ?_
    rw [← hQ]
    exact rd_iret hx hb hr hlocks (by unfold nxM; rw [if_neg (by omega)]; omega) dM_next_39
  · have gf1 := hf (pp + 1) (by omega)
    refine lv_aload_n hx hb dM_next_10 rfl (lv_at hl 0 rfl) ?_
    refine va_get (ci := 4) (v := .ref mf) (C := "WindingRasterModel") (T := TM) (N := 11) hx hb hts in_4 hown hK hP 0 rfl rfl 7 (by decide) fl_25 (fun _ h9 => h9) rfl dM_next_11 ?_
    refine lv_iload_n hx hb dM_next_14 rfl (lv_at hl 1 rfl) ?_
    refine ii_iconst (n := 1) hx hb dM_next_15 ?_
    refine ii_iadd hx hb dM_next_16 ?_
    refine ii_top (y := ((pp + 1 : Nat) : Int)) (by push_cast; rfl) ?_
    refine ii_iald hx hb hK hP 5 0 rfl rfl (pp + 1) rfl (by omega) (by omega) dM_next_17 ?_
    refine lv_aload_n hx hb dM_next_18 rfl (lv_at hl 0 rfl) ?_
    refine va_get (ci := 4) (v := .ref mf) (C := "WindingRasterModel") (T := TM) (N := 11) hx hb hts in_4 hown hK hP 0 rfl rfl 7 (by decide) fl_25 (fun _ h9 => h9) rfl dM_next_19 ?_
    refine lv_iload_n hx hb dM_next_22 rfl (lv_at hl 1 rfl) ?_
    refine ii_iald hx hb hK hP 5 0 rfl rfl pp rfl (by omega) (by omega) dM_next_23 ?_
    refine ii_icmp_ne (tgt := 33) hx hb dM_next_24 (by decide) (by omega) (by omega) (fun c24 => ?_) (fun c24 => ?_)
    · refine lv_aload_n hx hb dM_next_33 rfl (lv_at hl 0 rfl) ?_
      refine va_get (ci := 4) (v := .ref mf) (C := "WindingRasterModel") (T := TM) (N := 11) hx hb hts in_4 hown hK hP 0 rfl rfl 7 (by decide) fl_25 (fun _ h9 => h9) rfl dM_next_34 ?_
      refine lv_iload_n hx hb dM_next_37 rfl (lv_at hl 1 rfl) ?_
      refine ii_iald hx hb hK hP 5 0 rfl rfl pp rfl (by omega) (by omega) dM_next_38 ?_
      rw [← hQ]
      exact rd_iret hx hb hr hlocks (by unfold nxM; rw [if_neg (by omega)]; omega) dM_next_39
    · refine lv_iload_n hx hb dM_next_27 rfl (lv_at hl 1 rfl) ?_
      refine ii_iconst (n := 1) hx hb dM_next_28 ?_
      refine ii_iadd hx hb dM_next_29 ?_
      refine ii_top (y := ((pp + 1 : Nat) : Int)) (by push_cast; rfl) ?_
      refine lv_goto (tgt := 39) hx hb dM_next_30 (by decide) ?_
      rw [← hQ]
      exact rd_iret hx hb hr hlocks (by unfold nxM; rw [if_pos (by omega)]) dM_next_39

def rm_m_centre : Room := { frames := 0, cells := 0, slots := 0, locals := 0 }
set_option maxHeartbeats 4000000 in
set_option maxRecDepth 100000 in
theorem m_centre (l : Launch) (D : va_G) (cA cB cS : ClassId) (kk : Nat) (h1 : kk ≤ 256) : Met l yM_centre wM_centre rm_m_centre (pR [.int (iI (kk : Int))] D vwCl (vwTy cA cB cS) vwNw []) (qL (fun z => z = ((kk * 65536 + 32768 : Nat) : Int))) 0 0 (fun _ => False) := by
  refine Met.ofW (cc := bM_centre) (maxL := 1) (ret := (some .long)) (by decide +kernel) rfl ?_
  intro p e s m args below meth c s₁ B hml hv
  obtain ⟨rfl, hP, hKW⟩ := hv
  have hK := hKW.1
  have hN := hKW.2.2
  have hx := B.exec
  have hb := B.bytes
  have hr := B.returns
  have hts := atoms_spec (ws := wM_centre) B.pre
  have hown : s.vm.findClass "WindingRasterModel" = some m.cls := findClass_of_methodNamed B.named
  have hlocks := B.notSynchronized
  have hP : va_P D vwCl [] s.heap := hP
  have kc_57 := (hts _ (List.mem_cons_of_mem _ vm_314))
  have kc_59 := (hts _ (List.mem_cons_of_mem _ vm_315))
  have hl := lv_entry ([.int (iI (kk : Int))]) (n := 1) (Nat.le_of_ble_eq_true rfl)
  rw [lg_entry_eq]
  generalize (lg_sl ([.int (iI (kk : Int))]) ++ List.replicate (1 - (lg_sl ([.int (iI (kk : Int))])).length) Slot.unset).toArray = ls at hl ⊢
  have hl : lv_has ls 1 [(0, .int (iI (kk : Int)))] := hl
  generalize hQ : MQ below (qL (fun z => z = ((kk * 65536 + 32768 : Nat) : Int))) [.int (iI (kk : Int))].toArray s 0 0 (fun _ => False) = QQ
  refine ii_ldc2 (n := 65536) hx hb hown kc_57 dM_centre_0 (by decide +kernel) ?_
  refine lv_iload_n hx hb dM_centre_3 rfl (lv_at hl 0 rfl) ?_
  refine ii_i2l hx hb dM_centre_4 (by omega) ?_
  refine ii_lmul hx hb dM_centre_5 ?_
  refine ii_ldc2 (n := 32768) hx hb hown kc_59 dM_centre_6 (by decide +kernel) ?_
  refine ii_ladd hx hb dM_centre_9 ?_
  rw [← hQ]
  exact rd_lret hx hb hr hlocks (by omega) dM_centre_10

def rm_m_meet : Room := { frames := 1, cells := 0, slots := 0, locals := 21 }
set_option maxHeartbeats 4000000 in
set_option maxRecDepth 100000 in
theorem m_meet (l : Launch) (D : va_G) (cA cB cS : ClassId) (mo : Nat) (cs : Nat) (rs : Nat) (mg : Nat) (mm : Nat) (mx : Nat) (my : Nat) (mf : Nat) (mt : Nat) (fB : Nat → Int) (fM : Nat → Int) (gX : Nat → Int) (gY : Nat → Int) (gF : Nat → Int) (gT : Nat → Int) (mv : Nat) (mp : Nat) (me : Nat) (kr : Nat) (h2 : mp ≤ 4096) (hf : firM gF mp) (hp : ∀ i, i < mp → (-536870912 ≤ gX i ∧ gX i ≤ 536870912) ∧ (-536870912 ≤ gY i ∧ gY i ≤ 536870912)) (h1 : kr < 256) (sz : Nat) : Met l yM_meet wM_meet rm_m_meet (pW [.ref mo, .int (iI (kr : Int))] D vwCl (vwTy cA cB cS) vwNw [(mo, .inr (4, [.int (iI (cs : Int)), .int (iI (rs : Int)), .ref mg, .ref mm, .int (iI (mv : Int)), .ref mx, .ref my, .ref mf, .int (iI (mp : Int)), .ref mt, .int (iI (me : Int))])), (mg, .inl (cB, 65536, .inl (iA fB))), (mm, .inl (cS, 65536, .inl (iA fM))), (mx, .inl (cA, 4096, .inl (iA gX))), (my, .inl (cA, 4096, .inl (iA gY))), (mf, .inl (cA, 4096, .inl (iA gF))), (mt, .inl (cA, 4096, .inl (iA gT)))] sz) (qV (S := (Nat → Int) × Nat) (fun u : (Nat → Int) × Nat => metI gX gY gF mp ((kr * 65536 + 32768 : Nat) : Int) u.1 u.2 mp) D vwCl [(mo, .inr (4, [.int (iI (cs : Int)), .int (iI (rs : Int)), .ref mg, .ref mm, .int (iI (mv : Int)), .ref mx, .ref my, .ref mf, .int (iI (mp : Int)), .ref mt, .int (iI (me : Int))])), (mg, .inl (cB, 65536, .inl (iA fB))), (mm, .inl (cS, 65536, .inl (iA fM))), (mx, .inl (cA, 4096, .inl (iA gX))), (my, .inl (cA, 4096, .inl (iA gY))), (mf, .inl (cA, 4096, .inl (iA gF))), (mt, .inl (cA, 4096, .inl (iA gT)))] sz (fun u : (Nat → Int) × Nat => [(mo, .inr (4, [.int (iI (cs : Int)), .int (iI (rs : Int)), .ref mg, .ref mm, .int (iI (mv : Int)), .ref mx, .ref my, .ref mf, .int (iI (mp : Int)), .ref mt, .int (iI ((u.2 : Nat) : Int))])), (mg, .inl (cB, 65536, .inl (iA fB))), (mm, .inl (cS, 65536, .inl (iA fM))), (mx, .inl (cA, 4096, .inl (iA gX))), (my, .inl (cA, 4096, .inl (iA gY))), (mf, .inl (cA, 4096, .inl (iA gF))), (mt, .inl (cA, 4096, .inl (iA u.1)))])) 0 0 (va_A [(mo, .inr (4, [.int (iI (cs : Int)), .int (iI (rs : Int)), .ref mg, .ref mm, .int (iI (mv : Int)), .ref mx, .ref my, .ref mf, .int (iI (mp : Int)), .ref mt, .int (iI (me : Int))])), (mg, .inl (cB, 65536, .inl (iA fB))), (mm, .inl (cS, 65536, .inl (iA fM))), (mx, .inl (cA, 4096, .inl (iA gX))), (my, .inl (cA, 4096, .inl (iA gY))), (mf, .inl (cA, 4096, .inl (iA gF))), (mt, .inl (cA, 4096, .inl (iA gT)))] sz) := by
  refine Met.ofW (cc := bM_meet) (maxL := 7) (ret := none) (by decide +kernel) rfl ?_
  intro p e s m args below meth c s₁ B hml hv
  obtain ⟨rfl, hsz, hP, hKW, hD0⟩ := hv
  have hK := hKW.1
  have hN := hKW.2.2
  have hx := B.exec
  have hb := B.bytes
  have hr := B.returns
  have hts := atoms_spec (ws := wM_meet) B.pre
  have hown : s.vm.findClass "WindingRasterModel" = some m.cls := findClass_of_methodNamed B.named
  have hlocks := B.notSynchronized
  subst hsz
  have hD := hD0.self (sz := s.heap.size)
  obtain ⟨A, hAe⟩ : ∃ A, va_A [(mo, .inr (4, [.int (iI (cs : Int)), .int (iI (rs : Int)), .ref mg, .ref mm, .int (iI (mv : Int)), .ref mx, .ref my, .ref mf, .int (iI (mp : Int)), .ref mt, .int (iI (me : Int))])), (mg, .inl (cB, 65536, .inl (iA fB))), (mm, .inl (cS, 65536, .inl (iA fM))), (mx, .inl (cA, 4096, .inl (iA gX))), (my, .inl (cA, 4096, .inl (iA gY))), (mf, .inl (cA, 4096, .inl (iA gF))), (mt, .inl (cA, 4096, .inl (iA gT)))] s.heap.size = A := ⟨_, rfl⟩
  rw [hAe] at hD
  have hA : ∀ q : Nat, s.heap.size ≤ q → A q := fun q h => by rw [← hAe]; exact Or.inr h
  have hS : va_S A s.heap s.heap [] := va_S.rf
  have hP : va_P D vwCl [(mo, .inr (4, [.int (iI (cs : Int)), .int (iI (rs : Int)), .ref mg, .ref mm, .int (iI (mv : Int)), .ref mx, .ref my, .ref mf, .int (iI (mp : Int)), .ref mt, .int (iI (me : Int))])), (mg, .inl (cB, 65536, .inl (iA fB))), (mm, .inl (cS, 65536, .inl (iA fM))), (mx, .inl (cA, 4096, .inl (iA gX))), (my, .inl (cA, 4096, .inl (iA gY))), (mf, .inl (cA, 4096, .inl (iA gF))), (mt, .inl (cA, 4096, .inl (iA gT)))] s.heap := hP
  have in_4 : ∀ w ∈ wsM, w ∈ wM_meet := fun w h => List.mem_cons_of_mem _ (in0_M w h)
  have fl_65 := (hts _ (List.mem_cons_of_mem _ vm_259))
  have fl_46 := (hts _ (List.mem_cons_of_mem _ vm_257))
  have fl_22 := (hts _ (List.mem_cons_of_mem _ vm_255))
  have fl_28 := (hts _ (List.mem_cons_of_mem _ vm_258))
  have hl := lv_entry ([.ref mo, .int (iI (kr : Int))]) (n := 7) (Nat.le_of_ble_eq_true rfl)
  rw [lg_entry_eq]
  generalize (lg_sl ([.ref mo, .int (iI (kr : Int))]) ++ List.replicate (7 - (lg_sl ([.ref mo, .int (iI (kr : Int))])).length) Slot.unset).toArray = ls at hl ⊢
  have hl : lv_has ls 7 [(0, .ref mo), (1, .int (iI (kr : Int)))] := hl
  generalize hQ : MQ below (qV (S := (Nat → Int) × Nat) (fun u : (Nat → Int) × Nat => metI gX gY gF mp ((kr * 65536 + 32768 : Nat) : Int) u.1 u.2 mp) D vwCl [(mo, .inr (4, [.int (iI (cs : Int)), .int (iI (rs : Int)), .ref mg, .ref mm, .int (iI (mv : Int)), .ref mx, .ref my, .ref mf, .int (iI (mp : Int)), .ref mt, .int (iI (me : Int))])), (mg, .inl (cB, 65536, .inl (iA fB))), (mm, .inl (cS, 65536, .inl (iA fM))), (mx, .inl (cA, 4096, .inl (iA gX))), (my, .inl (cA, 4096, .inl (iA gY))), (mf, .inl (cA, 4096, .inl (iA gF))), (mt, .inl (cA, 4096, .inl (iA gT)))] s.heap.size (fun u : (Nat → Int) × Nat => [(mo, .inr (4, [.int (iI (cs : Int)), .int (iI (rs : Int)), .ref mg, .ref mm, .int (iI (mv : Int)), .ref mx, .ref my, .ref mf, .int (iI (mp : Int)), .ref mt, .int (iI ((u.2 : Nat) : Int))])), (mg, .inl (cB, 65536, .inl (iA fB))), (mm, .inl (cS, 65536, .inl (iA fM))), (mx, .inl (cA, 4096, .inl (iA gX))), (my, .inl (cA, 4096, .inl (iA gY))), (mf, .inl (cA, 4096, .inl (iA gF))), (mt, .inl (cA, 4096, .inl (iA u.1)))])) [.ref mo, .int (iI (kr : Int))].toArray s 0 0 (va_A [(mo, .inr (4, [.int (iI (cs : Int)), .int (iI (rs : Int)), .ref mg, .ref mm, .int (iI (mv : Int)), .ref mx, .ref my, .ref mf, .int (iI (mp : Int)), .ref mt, .int (iI (me : Int))])), (mg, .inl (cB, 65536, .inl (iA fB))), (mm, .inl (cS, 65536, .inl (iA fM))), (mx, .inl (cA, 4096, .inl (iA gX))), (my, .inl (cA, 4096, .inl (iA gY))), (mf, .inl (cA, 4096, .inl (iA gF))), (mt, .inl (cA, 4096, .inl (iA gT)))] s.heap.size) = QQ
  refine lv_iload_n hx hb dM_meet_0 rfl (lv_at hl 1 rfl) ?_
  refine cs_l (va_runS (As := [.int (iI (kr : Int))]) (rest := []) ⟨hx, hb, hml, hown, hts⟩ (m_centre l D cA cB cS kr (by omega)) ⟨(callB_of 1 hts (gIn vm_313) rfl rfl rfl (hts _ (List.mem_cons_of_mem _ vm_8)) (hts _ (List.mem_cons_of_mem _ vm_311)) (by decide +kernel) ⟨Nat.le_of_ble_eq_true rfl, Nat.le_of_ble_eq_true rfl⟩), (hts _ (List.mem_cons_of_mem _ vm_312))⟩ (pR.pre (hP.sub [] rfl) hKW) rfl rfl hl.1 rfl (lv_room (Nat.le_of_ble_eq_true rfl)) dM_meet_1 ⟨Nat.le_of_ble_eq_true rfl, Nat.le_of_ble_eq_true rfl⟩) (fun z_1 hz_1 => ?_)
  subst hz_1
  refine lv_lstore_n (lv' := [(2, .long (lI ((kr * 65536 + 32768 : Nat) : Int))), (0, .ref mo), (1, .int (iI (kr : Int)))]) hx hb dM_meet_4 rfl hl (by decide) rfl (fun ls hl => ?_)
  refine lv_aload_n hx hb dM_meet_5 rfl (lv_at hl 1 rfl) ?_
  refine ii_iconst (n := 0) hx hb dM_meet_6 ?_
  refine va_put (ci := 4) (v := .int (iI 0)) (ty := .int) (C := "WindingRasterModel") (T := TM) (N := 11) hx hb hts in_4 tM tM_ok nM hown hK hP hD hS 0 rfl rfl 10 (by decide) fl_65 (fun _ h9 => h9) rfl (by decide +kernel) rfl rfl (Nat.le_of_ble_eq_true rfl) dM_meet_7 (fun H locs hP hD hS => ?_)
  have hP : va_P D vwCl [(mo, .inr (4, [.int (iI (cs : Int)), .int (iI (rs : Int)), .ref mg, .ref mm, .int (iI (mv : Int)), .ref mx, .ref my, .ref mf, .int (iI (mp : Int)), .ref mt, .int (iI 0)])), (mg, .inl (cB, 65536, .inl (iA fB))), (mm, .inl (cS, 65536, .inl (iA fM))), (mx, .inl (cA, 4096, .inl (iA gX))), (my, .inl (cA, 4096, .inl (iA gY))), (mf, .inl (cA, 4096, .inl (iA gF))), (mt, .inl (cA, 4096, .inl (iA gT)))] H := hP
  have hD : va_D A [(mo, .inr (4, [.int (iI (cs : Int)), .int (iI (rs : Int)), .ref mg, .ref mm, .int (iI (mv : Int)), .ref mx, .ref my, .ref mf, .int (iI (mp : Int)), .ref mt, .int (iI 0)])), (mg, .inl (cB, 65536, .inl (iA fB))), (mm, .inl (cS, 65536, .inl (iA fM))), (mx, .inl (cA, 4096, .inl (iA gX))), (my, .inl (cA, 4096, .inl (iA gY))), (mf, .inl (cA, 4096, .inl (iA gF))), (mt, .inl (cA, 4096, .inl (iA gT)))] := hD
  refine ii_iconst (n := 0) hx hb dM_meet_10 ?_
  refine lv_istore (lv' := [(4, .int (iI 0)), (2, .long (lI ((kr * 65536 + 32768 : Nat) : Int))), (0, .ref mo), (1, .int (iI (kr : Int)))]) hx hb dM_meet_11 hl (by decide) rfl (fun ls hl => ?_)
  have lp13 : ∀ (n_ : Nat) (i : Nat) (gU : Nat → Int) (mu : Nat), (i ≤ mp) → (metI gX gY gF mp ((kr * 65536 + 32768 : Nat) : Int) gU mu i) → (mp - i) < n_ → ∀ (H : Heap) (locs : List Loc), va_P D vwCl [(mo, .inr (4, [.int (iI (cs : Int)), .int (iI (rs : Int)), .ref mg, .ref mm, .int (iI (mv : Int)), .ref mx, .ref my, .ref mf, .int (iI (mp : Int)), .ref mt, .int (iI (mu : Int))])), (mg, .inl (cB, 65536, .inl (iA fB))), (mm, .inl (cS, 65536, .inl (iA fM))), (mx, .inl (cA, 4096, .inl (iA gX))), (my, .inl (cA, 4096, .inl (iA gY))), (mf, .inl (cA, 4096, .inl (iA gF))), (mt, .inl (cA, 4096, .inl (iA gU)))] H → va_D A [(mo, .inr (4, [.int (iI (cs : Int)), .int (iI (rs : Int)), .ref mg, .ref mm, .int (iI (mv : Int)), .ref mx, .ref my, .ref mf, .int (iI (mp : Int)), .ref mt, .int (iI (mu : Int))])), (mg, .inl (cB, 65536, .inl (iA fB))), (mm, .inl (cS, 65536, .inl (iA fM))), (mx, .inl (cA, 4096, .inl (iA gX))), (my, .inl (cA, 4096, .inl (iA gY))), (mf, .inl (cA, 4096, .inl (iA gF))), (mt, .inl (cA, 4096, .inl (iA gU)))] → va_S A s.heap H locs → ∀ ls : Array Slot, lv_has ls 7 [(4, .int (iI (i : Int))), (2, .long (lI ((kr * 65536 + 32768 : Nat) : Int))), (0, .ref mo), (1, .int (iI (kr : Int)))] → W p l e (headSpec wM_meet rm_m_meet).room s m [.ref mo, .int (iI (kr : Int))].toArray below meth c H locs 0 0 QQ (F0 m 13 ls []) := by
    intro n_
    induction n_ with
    | zero =>
      intro i gU mu i1 i2 hm_
      exact absurd hm_ (Nat.not_lt_zero _)
    | succ n_ ih_lp13 =>
      intro i gU mu i1 i2 hm_lp13 H locs hP hD hS ls hl
      have hmu := i2.1
      refine lv_iload hx hb dM_meet_13 (lv_at hl 0 rfl) ?_
      refine lv_aload_n hx hb dM_meet_15 rfl (lv_at hl 2 rfl) ?_
      refine va_get (ci := 4) (v := .int (iI (mp : Int))) (C := "WindingRasterModel") (T := TM) (N := 11) hx hb hts in_4 hown hK hP 0 rfl rfl 8 (by decide) fl_46 (fun _ h9 => h9) rfl dM_meet_16 ?_
      refine ii_icmp_ge (tgt := 100) hx hb dM_meet_19 (by decide) (by omega) (by omega) (fun c19 => ?_) (fun c19 => ?_)
      · rw [← hQ]
        exact wr_vret (gU, mu) hx hb hr hlocks hAe (hP.sub [0, 1, 2, 3, 4, 5, 6] rfl) (hD.sub [0, 1, 2, 3, 4, 5, 6] (by decide) rfl) hS (by rw [show i = mp by omega] at i2; exact i2) dM_meet_100
      · have g1 := hp i (by omega)
        have g2 := nxM_lt hf (p := i) (by omega)
        have g3 := hp _ g2
        have g4 := stZ_cases (gY i) (gY (nxM gF mp i)) ((kr * 65536 + 32768 : Nat) : Int)
        refine lv_aload_n hx hb dM_meet_22 rfl (lv_at hl 2 rfl) ?_
        refine va_get (ci := 4) (v := .ref my) (C := "WindingRasterModel") (T := TM) (N := 11) hx hb hts in_4 hown hK hP 0 rfl rfl 6 (by decide) fl_22 (fun _ h9 => h9) rfl dM_meet_23 ?_
        refine lv_iload hx hb dM_meet_26 (lv_at hl 0 rfl) ?_
        refine ii_iald hx hb hK hP 4 0 rfl rfl i rfl (by omega) (by omega) dM_meet_28 ?_
        refine ii_i2l hx hb dM_meet_29 (by omega) ?_
        refine lv_lload_n hx hb dM_meet_30 rfl (lv_at hl 1 rfl) ?_
        refine ii_lcmp hx hb dM_meet_31 (by omega) (by omega) (fun zc_2 hzc_2 => ?_)
        refine ii_if_gt (tgt := 39) hx hb dM_meet_32 (by decide) (by omega) (fun c32 => ?_) (fun c32 => ?_)
        · refine ii_iconst (n := 0) hx hb dM_meet_39 ?_
          refine lv_istore (lv' := [(5, .int (iI 0)), (4, .int (iI (i : Int))), (2, .long (lI ((kr * 65536 + 32768 : Nat) : Int))), (0, .ref mo), (1, .int (iI (kr : Int)))]) hx hb dM_meet_40 hl (by decide) rfl (fun ls hl => ?_)
          refine lv_aload_n hx hb dM_meet_42 rfl (lv_at hl 3 rfl) ?_
          refine va_get (ci := 4) (v := .ref my) (C := "WindingRasterModel") (T := TM) (N := 11) hx hb hts in_4 hown hK hP 0 rfl rfl 6 (by decide) fl_22 (fun _ h9 => h9) rfl dM_meet_43 ?_
          refine lv_aload_n hx hb dM_meet_46 rfl (lv_at hl 3 rfl) ?_
          refine lv_iload hx hb dM_meet_47 (lv_at hl 1 rfl) ?_
          refine cs_i (va_runV (As := [.int (iI (i : Int))]) (rest := [.ref my]) ⟨hx, hb, hml, hown, hts⟩ (m_next l D cA cB cS mo cs rs mg mm mx my mf mt fB fM gX gY gF gU mv mp mu i (by omega) (by omega) (by omega)) ⟨(callB_of 1 hts (gIn vm_318) rfl rfl rfl (hts _ (List.mem_cons_of_mem _ vm_8)) (hts _ (List.mem_cons_of_mem _ vm_316)) (by decide +kernel) ⟨Nat.le_of_ble_eq_true rfl, Nat.le_of_ble_eq_true rfl⟩), (hts _ (List.mem_cons_of_mem _ vm_317)), (hts _ (List.mem_cons_of_mem _ vm_408))⟩ (pR.preV (va_recv hK hP (ci := 4) (q0 := 0) rfl rfl) (hP.sub [0, 1, 2, 3, 4, 5, 6] rfl) hKW) rfl rfl hl.1 rfl (lv_room (Nat.le_of_ble_eq_true rfl)) dM_meet_49 ⟨Nat.le_of_ble_eq_true rfl, Nat.le_of_ble_eq_true rfl⟩) (fun z_3 hz_3 => ?_)
          subst hz_3
          refine ii_iald hx hb hK hP 4 0 rfl rfl (nxM gF mp i) rfl (by omega) (by omega) dM_meet_52 ?_
          refine ii_i2l hx hb dM_meet_53 (by omega) ?_
          refine lv_lload_n hx hb dM_meet_54 rfl (lv_at hl 2 rfl) ?_
          refine ii_lcmp hx hb dM_meet_55 (by omega) (by omega) (fun zc_4 hzc_4 => ?_)
          refine ii_if_gt (tgt := 63) hx hb dM_meet_56 (by decide) (by omega) (fun c56 => ?_) (fun c56 => ?_)
          · refine ii_iconst (n := 0) hx hb dM_meet_63 ?_
            refine lv_istore (lv' := [(6, .int (iI 0)), (5, .int (iI 0)), (4, .int (iI (i : Int))), (2, .long (lI ((kr * 65536 + 32768 : Nat) : Int))), (0, .ref mo), (1, .int (iI (kr : Int)))]) hx hb dM_meet_64 hl (by decide) rfl (fun ls hl => ?_)
            refine lv_iload hx hb dM_meet_66 (lv_at hl 1 rfl) ?_
            refine lv_iload hx hb dM_meet_68 (lv_at hl 0 rfl) ?_
            refine ii_icmp_eq (tgt := 94) hx hb dM_meet_70 (by decide) (by omega) (by omega) (fun c70 => ?_) (fun c70 => ?_)
            · refine lv_iinc (v := iI ((i + 1 : Nat) : Int)) (lv' := [(4, .int (iI ((i + 1 : Nat) : Int))), (6, .int (iI 0)), (5, .int (iI 0)), (2, .long (lI ((kr * 65536 + 32768 : Nat) : Int))), (0, .ref mo), (1, .int (iI (kr : Int)))]) hx hb dM_meet_94 hl (k := 2) rfl (iI_inc _ 1 (by omega)) (by decide) rfl (fun ls hl => ?_)
              refine lv_goto (tgt := 13) hx hb dM_meet_97 (by decide) ?_
              exact ih_lp13 (i + 1) gU mu (by omega) (metI_skip i2 (by omega)) (by omega) _ _ (hP.sub [0, 1, 2, 3, 4, 5, 6] rfl) (hD.sub [0, 1, 2, 3, 4, 5, 6] (by decide) rfl) hS _ (lv_sub hl [0, 3, 4, 5] rfl)
            · exfalso; omega
          · refine ii_iconst (n := 1) hx hb dM_meet_59 ?_
            refine lv_goto (tgt := 64) hx hb dM_meet_60 (by decide) ?_
            refine lv_istore (lv' := [(6, .int (iI 1)), (5, .int (iI 0)), (4, .int (iI (i : Int))), (2, .long (lI ((kr * 65536 + 32768 : Nat) : Int))), (0, .ref mo), (1, .int (iI (kr : Int)))]) hx hb dM_meet_64 hl (by decide) rfl (fun ls hl => ?_)
            refine lv_iload hx hb dM_meet_66 (lv_at hl 1 rfl) ?_
            refine lv_iload hx hb dM_meet_68 (lv_at hl 0 rfl) ?_
            refine ii_icmp_eq (tgt := 94) hx hb dM_meet_70 (by decide) (by omega) (by omega) (fun c70 => ?_) (fun c70 => ?_)
            · exfalso; omega
            · refine lv_aload_n hx hb dM_meet_73 rfl (lv_at hl 4 rfl) ?_
              refine va_get (ci := 4) (v := .ref mt) (C := "WindingRasterModel") (T := TM) (N := 11) hx hb hts in_4 hown hK hP 0 rfl rfl 9 (by decide) fl_28 (fun _ h9 => h9) rfl dM_meet_74 ?_
              refine lv_aload_n hx hb dM_meet_77 rfl (lv_at hl 4 rfl) ?_
              refine va_get (ci := 4) (v := .int (iI (mu : Int))) (C := "WindingRasterModel") (T := TM) (N := 11) hx hb hts in_4 hown hK hP 0 rfl rfl 10 (by decide) fl_65 (fun _ h9 => h9) rfl dM_meet_78 ?_
              refine lv_iload hx hb dM_meet_81 (lv_at hl 2 rfl) ?_
              refine ii_iast hx hb hK hP hD hS 6 0 rfl rfl mu rfl (by omega) (by omega) dM_meet_83 (fun H locs hP hD hS => ?_)
              have hP : va_P D vwCl [(mo, .inr (4, [.int (iI (cs : Int)), .int (iI (rs : Int)), .ref mg, .ref mm, .int (iI (mv : Int)), .ref mx, .ref my, .ref mf, .int (iI (mp : Int)), .ref mt, .int (iI (mu : Int))])), (mg, .inl (cB, 65536, .inl (iA fB))), (mm, .inl (cS, 65536, .inl (iA fM))), (mx, .inl (cA, 4096, .inl (iA gX))), (my, .inl (cA, 4096, .inl (iA gY))), (mf, .inl (cA, 4096, .inl (iA gF))), (mt, .inl (cA, 4096, .inl (iA (uZ gU mu (i : Int)))))] H := hP
              have hD : va_D A [(mo, .inr (4, [.int (iI (cs : Int)), .int (iI (rs : Int)), .ref mg, .ref mm, .int (iI (mv : Int)), .ref mx, .ref my, .ref mf, .int (iI (mp : Int)), .ref mt, .int (iI (mu : Int))])), (mg, .inl (cB, 65536, .inl (iA fB))), (mm, .inl (cS, 65536, .inl (iA fM))), (mx, .inl (cA, 4096, .inl (iA gX))), (my, .inl (cA, 4096, .inl (iA gY))), (mf, .inl (cA, 4096, .inl (iA gF))), (mt, .inl (cA, 4096, .inl (iA (uZ gU mu (i : Int)))))] := hD
              refine lv_aload_n hx hb dM_meet_84 rfl (lv_at hl 4 rfl) ?_
              refine lv_dup hx hb dM_meet_85 rfl ?_
              refine va_get (ci := 4) (v := .int (iI (mu : Int))) (C := "WindingRasterModel") (T := TM) (N := 11) hx hb hts in_4 hown hK hP 0 rfl rfl 10 (by decide) fl_65 (fun _ h9 => h9) rfl dM_meet_86 ?_
              refine ii_iconst (n := 1) hx hb dM_meet_89 ?_
              refine ii_iadd hx hb dM_meet_90 ?_
              refine ii_top (y := ((mu + 1 : Nat) : Int)) (by push_cast; rfl) ?_
              refine va_put (ci := 4) (v := .int (iI ((mu + 1 : Nat) : Int))) (ty := .int) (C := "WindingRasterModel") (T := TM) (N := 11) hx hb hts in_4 tM tM_ok nM hown hK hP hD hS 0 rfl rfl 10 (by decide) fl_65 (fun _ h9 => h9) rfl (by decide +kernel) rfl rfl (Nat.le_of_ble_eq_true rfl) dM_meet_91 (fun H locs hP hD hS => ?_)
              have hP : va_P D vwCl [(mo, .inr (4, [.int (iI (cs : Int)), .int (iI (rs : Int)), .ref mg, .ref mm, .int (iI (mv : Int)), .ref mx, .ref my, .ref mf, .int (iI (mp : Int)), .ref mt, .int (iI ((mu + 1 : Nat) : Int))])), (mg, .inl (cB, 65536, .inl (iA fB))), (mm, .inl (cS, 65536, .inl (iA fM))), (mx, .inl (cA, 4096, .inl (iA gX))), (my, .inl (cA, 4096, .inl (iA gY))), (mf, .inl (cA, 4096, .inl (iA gF))), (mt, .inl (cA, 4096, .inl (iA (uZ gU mu (i : Int)))))] H := hP
              have hD : va_D A [(mo, .inr (4, [.int (iI (cs : Int)), .int (iI (rs : Int)), .ref mg, .ref mm, .int (iI (mv : Int)), .ref mx, .ref my, .ref mf, .int (iI (mp : Int)), .ref mt, .int (iI ((mu + 1 : Nat) : Int))])), (mg, .inl (cB, 65536, .inl (iA fB))), (mm, .inl (cS, 65536, .inl (iA fM))), (mx, .inl (cA, 4096, .inl (iA gX))), (my, .inl (cA, 4096, .inl (iA gY))), (mf, .inl (cA, 4096, .inl (iA gF))), (mt, .inl (cA, 4096, .inl (iA (uZ gU mu (i : Int)))))] := hD
              refine lv_iinc (v := iI ((i + 1 : Nat) : Int)) (lv' := [(4, .int (iI ((i + 1 : Nat) : Int))), (6, .int (iI 1)), (5, .int (iI 0)), (2, .long (lI ((kr * 65536 + 32768 : Nat) : Int))), (0, .ref mo), (1, .int (iI (kr : Int)))]) hx hb dM_meet_94 hl (k := 2) rfl (iI_inc _ 1 (by omega)) (by decide) rfl (fun ls hl => ?_)
              refine lv_goto (tgt := 13) hx hb dM_meet_97 (by decide) ?_
              exact ih_lp13 (i + 1) (uZ gU mu (i : Int)) (mu + 1) (by omega) (metI_add i2 (by omega) (by omega)) (by omega) _ _ (hP.sub [0, 1, 2, 3, 4, 5, 6] rfl) (hD.sub [0, 1, 2, 3, 4, 5, 6] (by decide) rfl) hS _ (lv_sub hl [0, 3, 4, 5] rfl)
        · refine ii_iconst (n := 1) hx hb dM_meet_35 ?_
          refine lv_goto (tgt := 40) hx hb dM_meet_36 (by decide) ?_
          refine lv_istore (lv' := [(5, .int (iI 1)), (4, .int (iI (i : Int))), (2, .long (lI ((kr * 65536 + 32768 : Nat) : Int))), (0, .ref mo), (1, .int (iI (kr : Int)))]) hx hb dM_meet_40 hl (by decide) rfl (fun ls hl => ?_)
          refine lv_aload_n hx hb dM_meet_42 rfl (lv_at hl 3 rfl) ?_
          refine va_get (ci := 4) (v := .ref my) (C := "WindingRasterModel") (T := TM) (N := 11) hx hb hts in_4 hown hK hP 0 rfl rfl 6 (by decide) fl_22 (fun _ h9 => h9) rfl dM_meet_43 ?_
          refine lv_aload_n hx hb dM_meet_46 rfl (lv_at hl 3 rfl) ?_
          refine lv_iload hx hb dM_meet_47 (lv_at hl 1 rfl) ?_
          refine cs_i (va_runV (As := [.int (iI (i : Int))]) (rest := [.ref my]) ⟨hx, hb, hml, hown, hts⟩ (m_next l D cA cB cS mo cs rs mg mm mx my mf mt fB fM gX gY gF gU mv mp mu i (by omega) (by omega) (by omega)) ⟨(callB_of 1 hts (gIn vm_318) rfl rfl rfl (hts _ (List.mem_cons_of_mem _ vm_8)) (hts _ (List.mem_cons_of_mem _ vm_316)) (by decide +kernel) ⟨Nat.le_of_ble_eq_true rfl, Nat.le_of_ble_eq_true rfl⟩), (hts _ (List.mem_cons_of_mem _ vm_317)), (hts _ (List.mem_cons_of_mem _ vm_408))⟩ (pR.preV (va_recv hK hP (ci := 4) (q0 := 0) rfl rfl) (hP.sub [0, 1, 2, 3, 4, 5, 6] rfl) hKW) rfl rfl hl.1 rfl (lv_room (Nat.le_of_ble_eq_true rfl)) dM_meet_49 ⟨Nat.le_of_ble_eq_true rfl, Nat.le_of_ble_eq_true rfl⟩) (fun z_5 hz_5 => ?_)
          subst hz_5
          refine ii_iald hx hb hK hP 4 0 rfl rfl (nxM gF mp i) rfl (by omega) (by omega) dM_meet_52 ?_
          refine ii_i2l hx hb dM_meet_53 (by omega) ?_
          refine lv_lload_n hx hb dM_meet_54 rfl (lv_at hl 2 rfl) ?_
          refine ii_lcmp hx hb dM_meet_55 (by omega) (by omega) (fun zc_6 hzc_6 => ?_)
          refine ii_if_gt (tgt := 63) hx hb dM_meet_56 (by decide) (by omega) (fun c56 => ?_) (fun c56 => ?_)
          · refine ii_iconst (n := 0) hx hb dM_meet_63 ?_
            refine lv_istore (lv' := [(6, .int (iI 0)), (5, .int (iI 1)), (4, .int (iI (i : Int))), (2, .long (lI ((kr * 65536 + 32768 : Nat) : Int))), (0, .ref mo), (1, .int (iI (kr : Int)))]) hx hb dM_meet_64 hl (by decide) rfl (fun ls hl => ?_)
            refine lv_iload hx hb dM_meet_66 (lv_at hl 1 rfl) ?_
            refine lv_iload hx hb dM_meet_68 (lv_at hl 0 rfl) ?_
            refine ii_icmp_eq (tgt := 94) hx hb dM_meet_70 (by decide) (by omega) (by omega) (fun c70 => ?_) (fun c70 => ?_)
            · exfalso; omega
            · refine lv_aload_n hx hb dM_meet_73 rfl (lv_at hl 4 rfl) ?_
              refine va_get (ci := 4) (v := .ref mt) (C := "WindingRasterModel") (T := TM) (N := 11) hx hb hts in_4 hown hK hP 0 rfl rfl 9 (by decide) fl_28 (fun _ h9 => h9) rfl dM_meet_74 ?_
              refine lv_aload_n hx hb dM_meet_77 rfl (lv_at hl 4 rfl) ?_
              refine va_get (ci := 4) (v := .int (iI (mu : Int))) (C := "WindingRasterModel") (T := TM) (N := 11) hx hb hts in_4 hown hK hP 0 rfl rfl 10 (by decide) fl_65 (fun _ h9 => h9) rfl dM_meet_78 ?_
              refine lv_iload hx hb dM_meet_81 (lv_at hl 2 rfl) ?_
              refine ii_iast hx hb hK hP hD hS 6 0 rfl rfl mu rfl (by omega) (by omega) dM_meet_83 (fun H locs hP hD hS => ?_)
              have hP : va_P D vwCl [(mo, .inr (4, [.int (iI (cs : Int)), .int (iI (rs : Int)), .ref mg, .ref mm, .int (iI (mv : Int)), .ref mx, .ref my, .ref mf, .int (iI (mp : Int)), .ref mt, .int (iI (mu : Int))])), (mg, .inl (cB, 65536, .inl (iA fB))), (mm, .inl (cS, 65536, .inl (iA fM))), (mx, .inl (cA, 4096, .inl (iA gX))), (my, .inl (cA, 4096, .inl (iA gY))), (mf, .inl (cA, 4096, .inl (iA gF))), (mt, .inl (cA, 4096, .inl (iA (uZ gU mu (i : Int)))))] H := hP
              have hD : va_D A [(mo, .inr (4, [.int (iI (cs : Int)), .int (iI (rs : Int)), .ref mg, .ref mm, .int (iI (mv : Int)), .ref mx, .ref my, .ref mf, .int (iI (mp : Int)), .ref mt, .int (iI (mu : Int))])), (mg, .inl (cB, 65536, .inl (iA fB))), (mm, .inl (cS, 65536, .inl (iA fM))), (mx, .inl (cA, 4096, .inl (iA gX))), (my, .inl (cA, 4096, .inl (iA gY))), (mf, .inl (cA, 4096, .inl (iA gF))), (mt, .inl (cA, 4096, .inl (iA (uZ gU mu (i : Int)))))] := hD
              refine lv_aload_n hx hb dM_meet_84 rfl (lv_at hl 4 rfl) ?_
              refine lv_dup hx hb dM_meet_85 rfl ?_
              refine va_get (ci := 4) (v := .int (iI (mu : Int))) (C := "WindingRasterModel") (T := TM) (N := 11) hx hb hts in_4 hown hK hP 0 rfl rfl 10 (by decide) fl_65 (fun _ h9 => h9) rfl dM_meet_86 ?_
              refine ii_iconst (n := 1) hx hb dM_meet_89 ?_
              refine ii_iadd hx hb dM_meet_90 ?_
              refine ii_top (y := ((mu + 1 : Nat) : Int)) (by push_cast; rfl) ?_
              refine va_put (ci := 4) (v := .int (iI ((mu + 1 : Nat) : Int))) (ty := .int) (C := "WindingRasterModel") (T := TM) (N := 11) hx hb hts in_4 tM tM_ok nM hown hK hP hD hS 0 rfl rfl 10 (by decide) fl_65 (fun _ h9 => h9) rfl (by decide +kernel) rfl rfl (Nat.le_of_ble_eq_true rfl) dM_meet_91 (fun H locs hP hD hS => ?_)
              have hP : va_P D vwCl [(mo, .inr (4, [.int (iI (cs : Int)), .int (iI (rs : Int)), .ref mg, .ref mm, .int (iI (mv : Int)), .ref mx, .ref my, .ref mf, .int (iI (mp : Int)), .ref mt, .int (iI ((mu + 1 : Nat) : Int))])), (mg, .inl (cB, 65536, .inl (iA fB))), (mm, .inl (cS, 65536, .inl (iA fM))), (mx, .inl (cA, 4096, .inl (iA gX))), (my, .inl (cA, 4096, .inl (iA gY))), (mf, .inl (cA, 4096, .inl (iA gF))), (mt, .inl (cA, 4096, .inl (iA (uZ gU mu (i : Int)))))] H := hP
              have hD : va_D A [(mo, .inr (4, [.int (iI (cs : Int)), .int (iI (rs : Int)), .ref mg, .ref mm, .int (iI (mv : Int)), .ref mx, .ref my, .ref mf, .int (iI (mp : Int)), .ref mt, .int (iI ((mu + 1 : Nat) : Int))])), (mg, .inl (cB, 65536, .inl (iA fB))), (mm, .inl (cS, 65536, .inl (iA fM))), (mx, .inl (cA, 4096, .inl (iA gX))), (my, .inl (cA, 4096, .inl (iA gY))), (mf, .inl (cA, 4096, .inl (iA gF))), (mt, .inl (cA, 4096, .inl (iA (uZ gU mu (i : Int)))))] := hD
              refine lv_iinc (v := iI ((i + 1 : Nat) : Int)) (lv' := [(4, .int (iI ((i + 1 : Nat) : Int))), (6, .int (iI 0)), (5, .int (iI 1)), (2, .long (lI ((kr * 65536 + 32768 : Nat) : Int))), (0, .ref mo), (1, .int (iI (kr : Int)))]) hx hb dM_meet_94 hl (k := 2) rfl (iI_inc _ 1 (by omega)) (by decide) rfl (fun ls hl => ?_)
              refine lv_goto (tgt := 13) hx hb dM_meet_97 (by decide) ?_
              exact ih_lp13 (i + 1) (uZ gU mu (i : Int)) (mu + 1) (by omega) (metI_add i2 (by omega) (by omega)) (by omega) _ _ (hP.sub [0, 1, 2, 3, 4, 5, 6] rfl) (hD.sub [0, 1, 2, 3, 4, 5, 6] (by decide) rfl) hS _ (lv_sub hl [0, 3, 4, 5] rfl)
          · refine ii_iconst (n := 1) hx hb dM_meet_59 ?_
            refine lv_goto (tgt := 64) hx hb dM_meet_60 (by decide) ?_
            refine lv_istore (lv' := [(6, .int (iI 1)), (5, .int (iI 1)), (4, .int (iI (i : Int))), (2, .long (lI ((kr * 65536 + 32768 : Nat) : Int))), (0, .ref mo), (1, .int (iI (kr : Int)))]) hx hb dM_meet_64 hl (by decide) rfl (fun ls hl => ?_)
            refine lv_iload hx hb dM_meet_66 (lv_at hl 1 rfl) ?_
            refine lv_iload hx hb dM_meet_68 (lv_at hl 0 rfl) ?_
            refine ii_icmp_eq (tgt := 94) hx hb dM_meet_70 (by decide) (by omega) (by omega) (fun c70 => ?_) (fun c70 => ?_)
            · refine lv_iinc (v := iI ((i + 1 : Nat) : Int)) (lv' := [(4, .int (iI ((i + 1 : Nat) : Int))), (6, .int (iI 1)), (5, .int (iI 1)), (2, .long (lI ((kr * 65536 + 32768 : Nat) : Int))), (0, .ref mo), (1, .int (iI (kr : Int)))]) hx hb dM_meet_94 hl (k := 2) rfl (iI_inc _ 1 (by omega)) (by decide) rfl (fun ls hl => ?_)
              refine lv_goto (tgt := 13) hx hb dM_meet_97 (by decide) ?_
              exact ih_lp13 (i + 1) gU mu (by omega) (metI_skip i2 (by omega)) (by omega) _ _ (hP.sub [0, 1, 2, 3, 4, 5, 6] rfl) (hD.sub [0, 1, 2, 3, 4, 5, 6] (by decide) rfl) hS _ (lv_sub hl [0, 3, 4, 5] rfl)
            · exfalso; omega
  exact lp13 (mp - 0 + 1) 0 gT 0 (by omega) (metI_0 _ _ _ _ _ _) (Nat.lt_succ_self _) _ _ (hP.sub [0, 1, 2, 3, 4, 5, 6] rfl) (hD.sub [0, 1, 2, 3, 4, 5, 6] (by decide) rfl) hS _ (lv_sub hl [0, 1, 2, 3] rfl)

def rm_m_isLeft : Room := { frames := 1, cells := 0, slots := 0, locals := 21 }
set_option maxHeartbeats 4000000 in
set_option maxRecDepth 100000 in
theorem m_isLeft (l : Launch) (D : va_G) (cA cB cS : ClassId) (mo : Nat) (cs : Nat) (rs : Nat) (mg : Nat) (mm : Nat) (mx : Nat) (my : Nat) (mf : Nat) (mt : Nat) (fB : Nat → Int) (fM : Nat → Int) (gX : Nat → Int) (gY : Nat → Int) (gF : Nat → Int) (gT : Nat → Int) (mv : Nat) (mp : Nat) (me : Nat) (pp : Nat) (xx : Int) (yy : Int) (h2 : mp ≤ 4096) (hf : firM gF mp) (hp : ∀ i, i < mp → (-536870912 ≤ gX i ∧ gX i ≤ 536870912) ∧ (-536870912 ≤ gY i ∧ gY i ≤ 536870912)) (h1 : pp < mp) (h3 : 0 ≤ xx ∧ xx ≤ 16842752) (h4 : 0 ≤ yy ∧ yy ≤ 16842752) : Met l yM_isLeft wM_isLeft rm_m_isLeft (pR [.ref mo, .int (iI (pp : Int)), .long (lI xx), .long (lI yy)] D vwCl (vwTy cA cB cS) vwNw [(mo, .inr (4, [.int (iI (cs : Int)), .int (iI (rs : Int)), .ref mg, .ref mm, .int (iI (mv : Int)), .ref mx, .ref my, .ref mf, .int (iI (mp : Int)), .ref mt, .int (iI (me : Int))])), (mg, .inl (cB, 65536, .inl (iA fB))), (mm, .inl (cS, 65536, .inl (iA fM))), (mx, .inl (cA, 4096, .inl (iA gX))), (my, .inl (cA, 4096, .inl (iA gY))), (mf, .inl (cA, 4096, .inl (iA gF))), (mt, .inl (cA, 4096, .inl (iA gT)))]) (qI (fun z => (z = 1 ∧ ((gY pp < gY (nxM gF mp pp) ∧ (gX (nxM gF mp pp) - gX pp) * (yy - gY pp) ≤ (xx - gX pp) * (gY (nxM gF mp pp) - gY pp)) ∨ (¬ gY pp < gY (nxM gF mp pp) ∧ (xx - gX pp) * (gY (nxM gF mp pp) - gY pp) ≤ (gX (nxM gF mp pp) - gX pp) * (yy - gY pp)))) ∨ (z = 0 ∧ ¬ ((gY pp < gY (nxM gF mp pp) ∧ (gX (nxM gF mp pp) - gX pp) * (yy - gY pp) ≤ (xx - gX pp) * (gY (nxM gF mp pp) - gY pp)) ∨ (¬ gY pp < gY (nxM gF mp pp) ∧ (xx - gX pp) * (gY (nxM gF mp pp) - gY pp) ≤ (gX (nxM gF mp pp) - gX pp) * (yy - gY pp)))))) 0 0 (fun _ => False) := by
  refine Met.ofW (cc := bM_isLeft) (maxL := 11) (ret := (some .boolean)) (by decide +kernel) rfl ?_
  intro p e s m args below meth c s₁ B hml hv
  obtain ⟨rfl, hP, hKW⟩ := hv
  have hK := hKW.1
  have hN := hKW.2.2
  have hx := B.exec
  have hb := B.bytes
  have hr := B.returns
  have hts := atoms_spec (ws := wM_isLeft) B.pre
  have hown : s.vm.findClass "WindingRasterModel" = some m.cls := findClass_of_methodNamed B.named
  have hlocks := B.notSynchronized
  have hP : va_P D vwCl [(mo, .inr (4, [.int (iI (cs : Int)), .int (iI (rs : Int)), .ref mg, .ref mm, .int (iI (mv : Int)), .ref mx, .ref my, .ref mf, .int (iI (mp : Int)), .ref mt, .int (iI (me : Int))])), (mg, .inl (cB, 65536, .inl (iA fB))), (mm, .inl (cS, 65536, .inl (iA fM))), (mx, .inl (cA, 4096, .inl (iA gX))), (my, .inl (cA, 4096, .inl (iA gY))), (mf, .inl (cA, 4096, .inl (iA gF))), (mt, .inl (cA, 4096, .inl (iA gT)))] s.heap := hP
  have in_4 : ∀ w ∈ wsM, w ∈ wM_isLeft := fun w h => List.mem_cons_of_mem _ (in0_M w h)
  have fl_18 := (hts _ (List.mem_cons_of_mem _ vm_254))
  have fl_22 := (hts _ (List.mem_cons_of_mem _ vm_255))
  have hl := lv_entry ([.ref mo, .int (iI (pp : Int)), .long (lI xx), .long (lI yy)]) (n := 11) (Nat.le_of_ble_eq_true rfl)
  rw [lg_entry_eq]
  generalize (lg_sl ([.ref mo, .int (iI (pp : Int)), .long (lI xx), .long (lI yy)]) ++ List.replicate (11 - (lg_sl ([.ref mo, .int (iI (pp : Int)), .long (lI xx), .long (lI yy)])).length) Slot.unset).toArray = ls at hl ⊢
  have hl : lv_has ls 11 [(0, .ref mo), (1, .int (iI (pp : Int))), (2, .long (lI xx)), (4, .long (lI yy))] := hl
  generalize hQ : MQ below (qI (fun z => (z = 1 ∧ ((gY pp < gY (nxM gF mp pp) ∧ (gX (nxM gF mp pp) - gX pp) * (yy - gY pp) ≤ (xx - gX pp) * (gY (nxM gF mp pp) - gY pp)) ∨ (¬ gY pp < gY (nxM gF mp pp) ∧ (xx - gX pp) * (gY (nxM gF mp pp) - gY pp) ≤ (gX (nxM gF mp pp) - gX pp) * (yy - gY pp)))) ∨ (z = 0 ∧ ¬ ((gY pp < gY (nxM gF mp pp) ∧ (gX (nxM gF mp pp) - gX pp) * (yy - gY pp) ≤ (xx - gX pp) * (gY (nxM gF mp pp) - gY pp)) ∨ (¬ gY pp < gY (nxM gF mp pp) ∧ (xx - gX pp) * (gY (nxM gF mp pp) - gY pp) ≤ (gX (nxM gF mp pp) - gX pp) * (yy - gY pp)))))) [.ref mo, .int (iI (pp : Int)), .long (lI xx), .long (lI yy)].toArray s 0 0 (fun _ => False) = QQ
  have g1 := hp pp h1
  have g2 := nxM_lt hf h1
  have g3 := hp _ g2
  have q1 := prod_rng (u := gX (nxM gF mp pp) - gX pp) (v := yy - gY pp) (by omega) (by omega)
  have q2 := prod_rng (u := xx - gX pp) (v := gY (nxM gF mp pp) - gY pp) (by omega) (by omega)
  refine lv_aload_n hx hb dM_isLeft_0 rfl (lv_at hl 0 rfl) ?_
  refine lv_iload_n hx hb dM_isLeft_1 rfl (lv_at hl 1 rfl) ?_
  refine cs_i (va_runV (As := [.int (iI (pp : Int))]) (rest := []) ⟨hx, hb, hml, hown, hts⟩ (m_next l D cA cB cS mo cs rs mg mm mx my mf mt fB fM gX gY gF gT mv mp me pp (by omega) (by omega) (by omega)) ⟨(callB_of 1 hts (gIn vm_318) rfl rfl rfl (hts _ (List.mem_cons_of_mem _ vm_8)) (hts _ (List.mem_cons_of_mem _ vm_316)) (by decide +kernel) ⟨Nat.le_of_ble_eq_true rfl, Nat.le_of_ble_eq_true rfl⟩), (hts _ (List.mem_cons_of_mem _ vm_317)), (hts _ (List.mem_cons_of_mem _ vm_408))⟩ (pR.preV (va_recv hK hP (ci := 4) (q0 := 0) rfl rfl) (hP.sub [0, 1, 2, 3, 4, 5, 6] rfl) hKW) rfl rfl hl.1 rfl (lv_room (Nat.le_of_ble_eq_true rfl)) dM_isLeft_2 ⟨Nat.le_of_ble_eq_true rfl, Nat.le_of_ble_eq_true rfl⟩) (fun z_1 hz_1 => ?_)
  subst hz_1
  refine lv_istore (lv' := [(6, .int (iI ((nxM gF mp pp : Nat) : Int))), (0, .ref mo), (1, .int (iI (pp : Int))), (2, .long (lI xx)), (4, .long (lI yy))]) hx hb dM_isLeft_5 hl (by decide) rfl (fun ls hl => ?_)
  refine lv_aload_n hx hb dM_isLeft_7 rfl (lv_at hl 1 rfl) ?_
  refine va_get (ci := 4) (v := .ref mx) (C := "WindingRasterModel") (T := TM) (N := 11) hx hb hts in_4 hown hK hP 0 rfl rfl 5 (by decide) fl_18 (fun _ h9 => h9) rfl dM_isLeft_8 ?_
  refine lv_iload hx hb dM_isLeft_11 (lv_at hl 0 rfl) ?_
  refine ii_iald hx hb hK hP 3 0 rfl rfl (nxM gF mp pp) rfl (by omega) (by omega) dM_isLeft_13 ?_
  refine ii_i2l hx hb dM_isLeft_14 (by omega) ?_
  refine lv_aload_n hx hb dM_isLeft_15 rfl (lv_at hl 1 rfl) ?_
  refine va_get (ci := 4) (v := .ref mx) (C := "WindingRasterModel") (T := TM) (N := 11) hx hb hts in_4 hown hK hP 0 rfl rfl 5 (by decide) fl_18 (fun _ h9 => h9) rfl dM_isLeft_16 ?_
  refine lv_iload_n hx hb dM_isLeft_19 rfl (lv_at hl 2 rfl) ?_
  refine ii_iald hx hb hK hP 3 0 rfl rfl pp rfl (by omega) (by omega) dM_isLeft_20 ?_
  refine ii_i2l hx hb dM_isLeft_21 (by omega) ?_
  refine ii_lsub hx hb dM_isLeft_22 ?_
  refine lv_lload hx hb dM_isLeft_23 (lv_at hl 4 rfl) ?_
  refine lv_aload_n hx hb dM_isLeft_25 rfl (lv_at hl 1 rfl) ?_
  refine va_get (ci := 4) (v := .ref my) (C := "WindingRasterModel") (T := TM) (N := 11) hx hb hts in_4 hown hK hP 0 rfl rfl 6 (by decide) fl_22 (fun _ h9 => h9) rfl dM_isLeft_26 ?_
  refine lv_iload_n hx hb dM_isLeft_29 rfl (lv_at hl 2 rfl) ?_
  refine ii_iald hx hb hK hP 4 0 rfl rfl pp rfl (by omega) (by omega) dM_isLeft_30 ?_
  refine ii_i2l hx hb dM_isLeft_31 (by omega) ?_
  refine ii_lsub hx hb dM_isLeft_32 ?_
  refine ii_lmul hx hb dM_isLeft_33 ?_
  refine lv_lstore (lv' := [(7, .long (lI (((gX (nxM gF mp pp)) - (gX pp)) * (yy - (gY pp))))), (6, .int (iI ((nxM gF mp pp : Nat) : Int))), (0, .ref mo), (1, .int (iI (pp : Int))), (2, .long (lI xx)), (4, .long (lI yy))]) hx hb dM_isLeft_34 hl (by decide) rfl (fun ls hl => ?_)
  refine lv_lload_n hx hb dM_isLeft_36 rfl (lv_at hl 4 rfl) ?_
  refine lv_aload_n hx hb dM_isLeft_37 rfl (lv_at hl 2 rfl) ?_
  refine va_get (ci := 4) (v := .ref mx) (C := "WindingRasterModel") (T := TM) (N := 11) hx hb hts in_4 hown hK hP 0 rfl rfl 5 (by decide) fl_18 (fun _ h9 => h9) rfl dM_isLeft_38 ?_
  refine lv_iload_n hx hb dM_isLeft_41 rfl (lv_at hl 3 rfl) ?_
  refine ii_iald hx hb hK hP 3 0 rfl rfl pp rfl (by omega) (by omega) dM_isLeft_42 ?_
  refine ii_i2l hx hb dM_isLeft_43 (by omega) ?_
  refine ii_lsub hx hb dM_isLeft_44 ?_
  refine lv_aload_n hx hb dM_isLeft_45 rfl (lv_at hl 2 rfl) ?_
  refine va_get (ci := 4) (v := .ref my) (C := "WindingRasterModel") (T := TM) (N := 11) hx hb hts in_4 hown hK hP 0 rfl rfl 6 (by decide) fl_22 (fun _ h9 => h9) rfl dM_isLeft_46 ?_
  refine lv_iload hx hb dM_isLeft_49 (lv_at hl 1 rfl) ?_
  refine ii_iald hx hb hK hP 4 0 rfl rfl (nxM gF mp pp) rfl (by omega) (by omega) dM_isLeft_51 ?_
  refine ii_i2l hx hb dM_isLeft_52 (by omega) ?_
  refine lv_aload_n hx hb dM_isLeft_53 rfl (lv_at hl 2 rfl) ?_
  refine va_get (ci := 4) (v := .ref my) (C := "WindingRasterModel") (T := TM) (N := 11) hx hb hts in_4 hown hK hP 0 rfl rfl 6 (by decide) fl_22 (fun _ h9 => h9) rfl dM_isLeft_54 ?_
  refine lv_iload_n hx hb dM_isLeft_57 rfl (lv_at hl 3 rfl) ?_
  refine ii_iald hx hb hK hP 4 0 rfl rfl pp rfl (by omega) (by omega) dM_isLeft_58 ?_
  refine ii_i2l hx hb dM_isLeft_59 (by omega) ?_
  refine ii_lsub hx hb dM_isLeft_60 ?_
  refine ii_lmul hx hb dM_isLeft_61 ?_
  refine lv_lstore (lv' := [(9, .long (lI ((xx - (gX pp)) * ((gY (nxM gF mp pp)) - (gY pp))))), (7, .long (lI (((gX (nxM gF mp pp)) - (gX pp)) * (yy - (gY pp))))), (6, .int (iI ((nxM gF mp pp : Nat) : Int))), (0, .ref mo), (1, .int (iI (pp : Int))), (2, .long (lI xx)), (4, .long (lI yy))]) hx hb dM_isLeft_62 hl (by decide) rfl (fun ls hl => ?_)
  refine lv_aload_n hx hb dM_isLeft_64 rfl (lv_at hl 3 rfl) ?_
  refine va_get (ci := 4) (v := .ref my) (C := "WindingRasterModel") (T := TM) (N := 11) hx hb hts in_4 hown hK hP 0 rfl rfl 6 (by decide) fl_22 (fun _ h9 => h9) rfl dM_isLeft_65 ?_
  refine lv_iload hx hb dM_isLeft_68 (lv_at hl 2 rfl) ?_
  refine ii_iald hx hb hK hP 4 0 rfl rfl (nxM gF mp pp) rfl (by omega) (by omega) dM_isLeft_70 ?_
  refine lv_aload_n hx hb dM_isLeft_71 rfl (lv_at hl 3 rfl) ?_
  refine va_get (ci := 4) (v := .ref my) (C := "WindingRasterModel") (T := TM) (N := 11) hx hb hts in_4 hown hK hP 0 rfl rfl 6 (by decide) fl_22 (fun _ h9 => h9) rfl dM_isLeft_72 ?_
  refine lv_iload_n hx hb dM_isLeft_75 rfl (lv_at hl 4 rfl) ?_
  refine ii_iald hx hb hK hP 4 0 rfl rfl pp rfl (by omega) (by omega) dM_isLeft_76 ?_
  refine ii_icmp_le (tgt := 96) hx hb dM_isLeft_77 (by decide) (by omega) (by omega) (fun c77 => ?_) (fun c77 => ?_)
  · refine lv_lload hx hb dM_isLeft_96 (lv_at hl 1 rfl) ?_
    refine lv_lload hx hb dM_isLeft_98 (lv_at hl 0 rfl) ?_
    refine ii_lcmp hx hb dM_isLeft_100 (by omega) (by omega) (fun zc_2 hzc_2 => ?_)
    refine ii_if_lt (tgt := 108) hx hb dM_isLeft_101 (by decide) (by omega) (fun c101 => ?_) (fun c101 => ?_)
    · refine ii_iconst (n := 0) hx hb dM_isLeft_108 ?_
      rw [← hQ]
      exact rd_zret hx hb hr hlocks (nar_b (by omega)) (by omega) dM_isLeft_109
    · refine ii_iconst (n := 1) hx hb dM_isLeft_104 ?_
      refine lv_goto (tgt := 109) hx hb dM_isLeft_105 (by decide) ?_
      rw [← hQ]
      exact rd_zret hx hb hr hlocks (nar_b (by omega)) (by omega) dM_isLeft_109
  · refine lv_lload hx hb dM_isLeft_80 (lv_at hl 1 rfl) ?_
    refine lv_lload hx hb dM_isLeft_82 (lv_at hl 0 rfl) ?_
    refine ii_lcmp hx hb dM_isLeft_84 (by omega) (by omega) (fun zc_3 hzc_3 => ?_)
    refine ii_if_gt (tgt := 92) hx hb dM_isLeft_85 (by decide) (by omega) (fun c85 => ?_) (fun c85 => ?_)
    · refine ii_iconst (n := 0) hx hb dM_isLeft_92 ?_
      refine lv_goto (tgt := 109) hx hb dM_isLeft_93 (by decide) ?_
      rw [← hQ]
      exact rd_zret hx hb hr hlocks (nar_b (by omega)) (by omega) dM_isLeft_109
    · refine ii_iconst (n := 1) hx hb dM_isLeft_88 ?_
      refine lv_goto (tgt := 109) hx hb dM_isLeft_89 (by decide) ?_
      rw [← hQ]
      exact rd_zret hx hb hr hlocks (nar_b (by omega)) (by omega) dM_isLeft_109

def rm_m_windings : Room := { frames := 2, cells := 0, slots := 0, locals := 51 }
set_option maxHeartbeats 4000000 in
set_option maxRecDepth 100000 in
theorem m_windings (l : Launch) (D : va_G) (cA cB cS : ClassId) (mo : Nat) (cs : Nat) (rs : Nat) (mg : Nat) (mm : Nat) (mx : Nat) (my : Nat) (mf : Nat) (mt : Nat) (fB : Nat → Int) (fM : Nat → Int) (gX : Nat → Int) (gY : Nat → Int) (gF : Nat → Int) (gT : Nat → Int) (mv : Nat) (mp : Nat) (me : Nat) (kc : Nat) (kr : Nat) (h2 : mp ≤ 4096) (hf : firM gF mp) (hp : ∀ i, i < mp → (-536870912 ≤ gX i ∧ gX i ≤ 536870912) ∧ (-536870912 ≤ gY i ∧ gY i ≤ 536870912)) (h1 : kr < 256) (h3 : kc < 256) (h4 : metI gX gY gF mp ((kr * 65536 + 32768 : Nat) : Int) gT me mp) : Met l yM_windings wM_windings rm_m_windings (pR [.ref mo, .int (iI (kc : Int)), .int (iI (kr : Int))] D vwCl (vwTy cA cB cS) vwNw [(mo, .inr (4, [.int (iI (cs : Int)), .int (iI (rs : Int)), .ref mg, .ref mm, .int (iI (mv : Int)), .ref mx, .ref my, .ref mf, .int (iI (mp : Int)), .ref mt, .int (iI (me : Int))])), (mg, .inl (cB, 65536, .inl (iA fB))), (mm, .inl (cS, 65536, .inl (iA fM))), (mx, .inl (cA, 4096, .inl (iA gX))), (my, .inl (cA, 4096, .inl (iA gY))), (mf, .inl (cA, 4096, .inl (iA gF))), (mt, .inl (cA, 4096, .inl (iA gT)))]) (qI (fun z => z = wiZ gX gY (nxZ gF mp) mp ((kr * 65536 + 32768 : Nat) : Int) (kc : Int))) 0 0 (fun _ => False) := by
  refine Met.ofW (cc := bM_windings) (maxL := 6) (ret := (some .int)) (by decide +kernel) rfl ?_
  intro p e s m args below meth c s₁ B hml hv
  obtain ⟨rfl, hP, hKW⟩ := hv
  have hK := hKW.1
  have hN := hKW.2.2
  have hx := B.exec
  have hb := B.bytes
  have hr := B.returns
  have hts := atoms_spec (ws := wM_windings) B.pre
  have hown : s.vm.findClass "WindingRasterModel" = some m.cls := findClass_of_methodNamed B.named
  have hlocks := B.notSynchronized
  have hP : va_P D vwCl [(mo, .inr (4, [.int (iI (cs : Int)), .int (iI (rs : Int)), .ref mg, .ref mm, .int (iI (mv : Int)), .ref mx, .ref my, .ref mf, .int (iI (mp : Int)), .ref mt, .int (iI (me : Int))])), (mg, .inl (cB, 65536, .inl (iA fB))), (mm, .inl (cS, 65536, .inl (iA fM))), (mx, .inl (cA, 4096, .inl (iA gX))), (my, .inl (cA, 4096, .inl (iA gY))), (mf, .inl (cA, 4096, .inl (iA gF))), (mt, .inl (cA, 4096, .inl (iA gT)))] s.heap := hP
  have in_4 : ∀ w ∈ wsM, w ∈ wM_windings := fun w h => List.mem_cons_of_mem _ (in0_M w h)
  have fl_65 := (hts _ (List.mem_cons_of_mem _ vm_259))
  have fl_28 := (hts _ (List.mem_cons_of_mem _ vm_258))
  have fl_22 := (hts _ (List.mem_cons_of_mem _ vm_255))
  have hl := lv_entry ([.ref mo, .int (iI (kc : Int)), .int (iI (kr : Int))]) (n := 6) (Nat.le_of_ble_eq_true rfl)
  rw [lg_entry_eq]
  generalize (lg_sl ([.ref mo, .int (iI (kc : Int)), .int (iI (kr : Int))]) ++ List.replicate (6 - (lg_sl ([.ref mo, .int (iI (kc : Int)), .int (iI (kr : Int))])).length) Slot.unset).toArray = ls at hl ⊢
  have hl : lv_has ls 6 [(0, .ref mo), (1, .int (iI (kc : Int))), (2, .int (iI (kr : Int)))] := hl
  generalize hQ : MQ below (qI (fun z => z = wiZ gX gY (nxZ gF mp) mp ((kr * 65536 + 32768 : Nat) : Int) (kc : Int))) [.ref mo, .int (iI (kc : Int)), .int (iI (kr : Int))].toArray s 0 0 (fun _ => False) = QQ
  have hme := h4.1
  refine ii_iconst (n := 0) hx hb dM_windings_0 ?_
  refine lv_istore_n (lv' := [(3, .int (iI 0)), (0, .ref mo), (1, .int (iI (kc : Int))), (2, .int (iI (kr : Int)))]) hx hb dM_windings_1 rfl hl (by decide) rfl (fun ls hl => ?_)
  refine ii_iconst (n := 0) hx hb dM_windings_2 ?_
  refine lv_istore (lv' := [(4, .int (iI 0)), (3, .int (iI 0)), (0, .ref mo), (1, .int (iI (kc : Int))), (2, .int (iI (kr : Int)))]) hx hb dM_windings_3 hl (by decide) rfl (fun ls hl => ?_)
  have lp5 : ∀ (n_ : Nat) (t : Nat) (sn : Int), (t ≤ me) → (sn = sm (fun t => ctM gX gY gF mp ((kr * 65536 + 32768 : Nat) : Int) (kc : Int) (gT t).toNat) t) → (me - t) < n_ → ∀ ls : Array Slot, lv_has ls 6 [(4, .int (iI (t : Int))), (3, .int (iI sn)), (0, .ref mo), (1, .int (iI (kc : Int))), (2, .int (iI (kr : Int)))] → W p l e (headSpec wM_windings rm_m_windings).room s m [.ref mo, .int (iI (kc : Int)), .int (iI (kr : Int))].toArray below meth c s.heap [] 0 0 QQ (F0 m 5 ls []) := by
    intro n_
    induction n_ with
    | zero =>
      intro t sn t1 t2 hm_
      exact absurd hm_ (Nat.not_lt_zero _)
    | succ n_ ih_lp5 =>
      intro t sn t1 t2 hm_lp5 ls hl
      refine lv_iload hx hb dM_windings_5 (lv_at hl 0 rfl) ?_
      refine lv_aload_n hx hb dM_windings_7 rfl (lv_at hl 2 rfl) ?_
      refine va_get (ci := 4) (v := .int (iI (me : Int))) (C := "WindingRasterModel") (T := TM) (N := 11) hx hb hts in_4 hown hK hP 0 rfl rfl 10 (by decide) fl_65 (fun _ h9 => h9) rfl dM_windings_8 ?_
      refine ii_icmp_ge (tgt := 75) hx hb dM_windings_11 (by decide) (by omega) (by omega) (fun c11 => ?_) (fun c11 => ?_)
      · refine lv_iload_n hx hb dM_windings_75 rfl (lv_at hl 1 rfl) ?_
        rw [← hQ]
        exact rd_iret hx hb hr hlocks (by rw [t2, show t = me by omega]; exact h4.2.2 _) dM_windings_76
      · obtain ⟨w1, w2, w3⟩ := h4.2.1 t (by omega)
        obtain ⟨pq, hpq⟩ : ∃ pq : Nat, gT t = (pq : Int) := ⟨(gT t).toNat, by omega⟩
        have epq : (gT t).toNat = pq := by omega
        rw [epq] at w3
        have g1 := hp pq (by omega)
        have g2 := nxM_lt hf (p := pq) (by omega)
        have g3 := hp _ g2
        have g4 := stZ_cases (gY pq) (gY (nxM gF mp pq)) ((kr * 65536 + 32768 : Nat) : Int)
        have g5 : ctM gX gY gF mp ((kr * 65536 + 32768 : Nat) : Int) (kc : Int) pq = ctZ (gX pq) (gY pq) (gX (nxM gF mp pq)) (gY (nxM gF mp pq)) ((kr * 65536 + 32768 : Nat) : Int) (kc : Int) := rfl
        have g6 := ctZ_cases (gX pq) (gY pq) (gX (nxM gF mp pq)) (gY (nxM gF mp pq)) ((kr * 65536 + 32768 : Nat) : Int) (kc : Int)
        have g7 : 0 < gY (nxM gF mp pq) - gY pq → _ := fun w => coZ_pos (a := gX pq) (c := gX (nxM gF mp pq)) (y := ((kr * 65536 + 32768 : Nat) : Int)) (k := (kc : Int)) w
        have g8 : gY (nxM gF mp pq) - gY pq < 0 → _ := fun w => coZ_neg (a := gX pq) (c := gX (nxM gF mp pq)) (y := ((kr * 65536 + 32768 : Nat) : Int)) (k := (kc : Int)) w
        refine lv_aload_n hx hb dM_windings_14 rfl (lv_at hl 2 rfl) ?_
        refine va_get (ci := 4) (v := .ref mt) (C := "WindingRasterModel") (T := TM) (N := 11) hx hb hts in_4 hown hK hP 0 rfl rfl 9 (by decide) fl_28 (fun _ h9 => h9) rfl dM_windings_15 ?_
        refine lv_iload hx hb dM_windings_18 (lv_at hl 0 rfl) ?_
        refine ii_iald hx hb hK hP 6 0 rfl rfl t rfl (by omega) (by omega) dM_windings_20 ?_
        refine ii_top (y := (pq : Int)) hpq ?_
        refine lv_istore (lv' := [(5, .int (iI (pq : Int))), (4, .int (iI (t : Int))), (3, .int (iI sn)), (0, .ref mo), (1, .int (iI (kc : Int))), (2, .int (iI (kr : Int)))]) hx hb dM_windings_21 hl (by decide) rfl (fun ls hl => ?_)
        refine lv_aload_n hx hb dM_windings_23 rfl (lv_at hl 3 rfl) ?_
        refine lv_iload hx hb dM_windings_24 (lv_at hl 0 rfl) ?_
        refine lv_iload_n hx hb dM_windings_26 rfl (lv_at hl 4 rfl) ?_
        refine cs_l (va_runS (As := [.int (iI (kc : Int))]) (rest := [.int (iI (pq : Int)), .ref mo]) ⟨hx, hb, hml, hown, hts⟩ (m_centre l D cA cB cS kc (by omega)) ⟨(callB_of 1 hts (gIn vm_313) rfl rfl rfl (hts _ (List.mem_cons_of_mem _ vm_8)) (hts _ (List.mem_cons_of_mem _ vm_311)) (by decide +kernel) ⟨Nat.le_of_ble_eq_true rfl, Nat.le_of_ble_eq_true rfl⟩), (hts _ (List.mem_cons_of_mem _ vm_312))⟩ (pR.pre (hP.sub [] rfl) hKW) rfl rfl hl.1 rfl (lv_room (Nat.le_of_ble_eq_true rfl)) dM_windings_27 ⟨Nat.le_of_ble_eq_true rfl, Nat.le_of_ble_eq_true rfl⟩) (fun z_1 hz_1 => ?_)
        subst hz_1
        refine ll_top (y := 65536 * (kc : Int) + 32768) (by omega) ?_
        refine lv_iload_n hx hb dM_windings_30 rfl (lv_at hl 5 rfl) ?_
        refine cs_l (va_runS (As := [.int (iI (kr : Int))]) (rest := [.long (lI (65536 * (kc : Int) + 32768)), .int (iI (pq : Int)), .ref mo]) ⟨hx, hb, hml, hown, hts⟩ (m_centre l D cA cB cS kr (by omega)) ⟨(callB_of 1 hts (gIn vm_313) rfl rfl rfl (hts _ (List.mem_cons_of_mem _ vm_8)) (hts _ (List.mem_cons_of_mem _ vm_311)) (by decide +kernel) ⟨Nat.le_of_ble_eq_true rfl, Nat.le_of_ble_eq_true rfl⟩), (hts _ (List.mem_cons_of_mem _ vm_312))⟩ (pR.pre (hP.sub [] rfl) hKW) rfl rfl hl.1 rfl (lv_room (Nat.le_of_ble_eq_true rfl)) dM_windings_31 ⟨Nat.le_of_ble_eq_true rfl, Nat.le_of_ble_eq_true rfl⟩) (fun z_2 hz_2 => ?_)
        subst hz_2
        refine cs_i (va_runV (As := [.int (iI (pq : Int)), .long (lI (65536 * (kc : Int) + 32768)), .long (lI ((kr * 65536 + 32768 : Nat) : Int))]) (rest := []) ⟨hx, hb, hml, hown, hts⟩ (m_isLeft l D cA cB cS mo cs rs mg mm mx my mf mt fB fM gX gY gF gT mv mp me pq (65536 * (kc : Int) + 32768) ((kr * 65536 + 32768 : Nat) : Int) (by omega) (by omega) (by omega) (by omega) (by omega) (by omega)) ⟨(callB_of 3 hts (gIn vm_324) rfl rfl rfl (hts _ (List.mem_cons_of_mem _ vm_8)) (hts _ (List.mem_cons_of_mem _ vm_322)) (by decide +kernel) ⟨Nat.le_of_ble_eq_true rfl, Nat.le_of_ble_eq_true rfl⟩), (hts _ (List.mem_cons_of_mem _ vm_323)), (hts _ (List.mem_cons_of_mem _ vm_410))⟩ (pR.preV (va_recv hK hP (ci := 4) (q0 := 0) rfl rfl) (hP.sub [0, 1, 2, 3, 4, 5, 6] rfl) hKW) rfl rfl hl.1 rfl (lv_room (Nat.le_of_ble_eq_true rfl)) dM_windings_34 ⟨Nat.le_of_ble_eq_true rfl, Nat.le_of_ble_eq_true rfl⟩) (fun zl hzl => ?_)
        refine ii_if_eq (tgt := 69) hx hb dM_windings_37 (by decide) (by omega) (fun c37 => ?_) (fun c37 => ?_)
        · refine lv_iinc (v := iI ((t + 1 : Nat) : Int)) (lv' := [(4, .int (iI ((t + 1 : Nat) : Int))), (5, .int (iI (pq : Int))), (3, .int (iI sn)), (0, .ref mo), (1, .int (iI (kc : Int))), (2, .int (iI (kr : Int)))]) hx hb dM_windings_69 hl (k := 1) rfl (iI_inc _ 1 (by omega)) (by decide) rfl (fun ls hl => ?_)
          refine lv_goto (tgt := 5) hx hb dM_windings_72 (by decide) ?_
          exact ih_lp5 (t + 1) sn (by omega) (by show _ = sm _ t + ctM gX gY gF mp ((kr * 65536 + 32768 : Nat) : Int) (kc : Int) (gT t).toNat; rw [← t2, epq]; omega) (by omega) _ (lv_sub hl [0, 2, 3, 4, 5] rfl)
        · refine lv_iload_n hx hb dM_windings_40 rfl (lv_at hl 2 rfl) ?_
          refine lv_aload_n hx hb dM_windings_41 rfl (lv_at hl 3 rfl) ?_
          refine va_get (ci := 4) (v := .ref my) (C := "WindingRasterModel") (T := TM) (N := 11) hx hb hts in_4 hown hK hP 0 rfl rfl 6 (by decide) fl_22 (fun _ h9 => h9) rfl dM_windings_42 ?_
          refine lv_aload_n hx hb dM_windings_45 rfl (lv_at hl 3 rfl) ?_
          refine lv_iload hx hb dM_windings_46 (lv_at hl 0 rfl) ?_
          refine cs_i (va_runV (As := [.int (iI (pq : Int))]) (rest := [.ref my, .int (iI sn)]) ⟨hx, hb, hml, hown, hts⟩ (m_next l D cA cB cS mo cs rs mg mm mx my mf mt fB fM gX gY gF gT mv mp me pq (by omega) (by omega) (by omega)) ⟨(callB_of 1 hts (gIn vm_318) rfl rfl rfl (hts _ (List.mem_cons_of_mem _ vm_8)) (hts _ (List.mem_cons_of_mem _ vm_316)) (by decide +kernel) ⟨Nat.le_of_ble_eq_true rfl, Nat.le_of_ble_eq_true rfl⟩), (hts _ (List.mem_cons_of_mem _ vm_317)), (hts _ (List.mem_cons_of_mem _ vm_408))⟩ (pR.preV (va_recv hK hP (ci := 4) (q0 := 0) rfl rfl) (hP.sub [0, 1, 2, 3, 4, 5, 6] rfl) hKW) rfl rfl hl.1 rfl (lv_room (Nat.le_of_ble_eq_true rfl)) dM_windings_48 ⟨Nat.le_of_ble_eq_true rfl, Nat.le_of_ble_eq_true rfl⟩) (fun z_3 hz_3 => ?_)
          subst hz_3
          refine ii_iald hx hb hK hP 4 0 rfl rfl (nxM gF mp pq) rfl (by omega) (by omega) dM_windings_51 ?_
          refine lv_aload_n hx hb dM_windings_52 rfl (lv_at hl 3 rfl) ?_
          refine va_get (ci := 4) (v := .ref my) (C := "WindingRasterModel") (T := TM) (N := 11) hx hb hts in_4 hown hK hP 0 rfl rfl 6 (by decide) fl_22 (fun _ h9 => h9) rfl dM_windings_53 ?_
          refine lv_iload hx hb dM_windings_56 (lv_at hl 0 rfl) ?_
          refine ii_iald hx hb hK hP 4 0 rfl rfl pq rfl (by omega) (by omega) dM_windings_58 ?_
          refine ii_icmp_le (tgt := 66) hx hb dM_windings_59 (by decide) (by omega) (by omega) (fun c59 => ?_) (fun c59 => ?_)
          · refine ii_iconst (n := (-1)) hx hb dM_windings_66 ?_
            refine ii_iadd hx hb dM_windings_67 ?_
            refine lv_istore_n (lv' := [(3, .int (iI (sn + (-1)))), (5, .int (iI (pq : Int))), (4, .int (iI (t : Int))), (0, .ref mo), (1, .int (iI (kc : Int))), (2, .int (iI (kr : Int)))]) hx hb dM_windings_68 rfl hl (by decide) rfl (fun ls hl => ?_)
            refine lv_iinc (v := iI ((t + 1 : Nat) : Int)) (lv' := [(4, .int (iI ((t + 1 : Nat) : Int))), (3, .int (iI (sn + (-1)))), (5, .int (iI (pq : Int))), (0, .ref mo), (1, .int (iI (kc : Int))), (2, .int (iI (kr : Int)))]) hx hb dM_windings_69 hl (k := 2) rfl (iI_inc _ 1 (by omega)) (by decide) rfl (fun ls hl => ?_)
            refine lv_goto (tgt := 5) hx hb dM_windings_72 (by decide) ?_
            exact ih_lp5 (t + 1) (sn + (-1)) (by omega) (by show _ = sm _ t + ctM gX gY gF mp ((kr * 65536 + 32768 : Nat) : Int) (kc : Int) (gT t).toNat; rw [← t2, epq]; omega) (by omega) _ (lv_sub hl [0, 1, 3, 4, 5] rfl)
          · refine ii_iconst (n := 1) hx hb dM_windings_62 ?_
            refine lv_goto (tgt := 67) hx hb dM_windings_63 (by decide) ?_
            refine ii_iadd hx hb dM_windings_67 ?_
            refine lv_istore_n (lv' := [(3, .int (iI (sn + 1))), (5, .int (iI (pq : Int))), (4, .int (iI (t : Int))), (0, .ref mo), (1, .int (iI (kc : Int))), (2, .int (iI (kr : Int)))]) hx hb dM_windings_68 rfl hl (by decide) rfl (fun ls hl => ?_)
            refine lv_iinc (v := iI ((t + 1 : Nat) : Int)) (lv' := [(4, .int (iI ((t + 1 : Nat) : Int))), (3, .int (iI (sn + 1))), (5, .int (iI (pq : Int))), (0, .ref mo), (1, .int (iI (kc : Int))), (2, .int (iI (kr : Int)))]) hx hb dM_windings_69 hl (k := 2) rfl (iI_inc _ 1 (by omega)) (by decide) rfl (fun ls hl => ?_)
            refine lv_goto (tgt := 5) hx hb dM_windings_72 (by decide) ?_
            exact ih_lp5 (t + 1) (sn + 1) (by omega) (by show _ = sm _ t + ctM gX gY gF mp ((kr * 65536 + 32768 : Nat) : Int) (kc : Int) (gT t).toNat; rw [← t2, epq]; omega) (by omega) _ (lv_sub hl [0, 1, 3, 4, 5] rfl)
  exact lp5 (me - 0 + 1) 0 0 (by omega) rfl (Nat.lt_succ_self _) _ (lv_sub hl [0, 1, 2, 3, 4] rfl)

def rm_m_isPixel : Room := { frames := 0, cells := 0, slots := 0, locals := 0 }
set_option maxHeartbeats 4000000 in
set_option maxRecDepth 100000 in
theorem m_isPixel (l : Launch) (D : va_G) (cA cB cS : ClassId) (mo : Nat) (cs : Nat) (rs : Nat) (mg : Nat) (mm : Nat) (mx : Nat) (my : Nat) (mf : Nat) (mt : Nat) (fB : Nat → Int) (fM : Nat → Int) (gX : Nat → Int) (gY : Nat → Int) (gF : Nat → Int) (gT : Nat → Int) (mv : Nat) (mp : Nat) (me : Nat) (a1 : Int) (a2 : Int) (h1 : i32 a1) (h3 : i32 a2) (hc : 0 < cs ∧ cs ≤ 256) (hr_ : 0 < rs ∧ rs ≤ 256) : Met l yM_isPixel wM_isPixel rm_m_isPixel (pR [.ref mo, .int (iI a1), .int (iI a2)] D vwCl (vwTy cA cB cS) vwNw [(mo, .inr (4, [.int (iI (cs : Int)), .int (iI (rs : Int)), .ref mg, .ref mm, .int (iI (mv : Int)), .ref mx, .ref my, .ref mf, .int (iI (mp : Int)), .ref mt, .int (iI (me : Int))])), (mg, .inl (cB, 65536, .inl (iA fB))), (mm, .inl (cS, 65536, .inl (iA fM))), (mx, .inl (cA, 4096, .inl (iA gX))), (my, .inl (cA, 4096, .inl (iA gY))), (mf, .inl (cA, 4096, .inl (iA gF))), (mt, .inl (cA, 4096, .inl (iA gT)))]) (qI (fun z => (z = 1 ∧ ((0 ≤ a1 ∧ a1 < (cs : Int) ∧ 0 ≤ a2 ∧ a2 < (rs : Int)))) ∨ (z = 0 ∧ ¬ ((0 ≤ a1 ∧ a1 < (cs : Int) ∧ 0 ≤ a2 ∧ a2 < (rs : Int)))))) 0 0 (fun _ => False) := by
  refine Met.ofW (cc := bM_isPixel) (maxL := 3) (ret := (some .boolean)) (by decide +kernel) rfl ?_
  intro p e s m args below meth c s₁ B hml hv
  obtain ⟨rfl, hP, hKW⟩ := hv
  have hK := hKW.1
  have hN := hKW.2.2
  have hx := B.exec
  have hb := B.bytes
  have hr := B.returns
  have hts := atoms_spec (ws := wM_isPixel) B.pre
  have hown : s.vm.findClass "WindingRasterModel" = some m.cls := findClass_of_methodNamed B.named
  have hlocks := B.notSynchronized
  have hP : va_P D vwCl [(mo, .inr (4, [.int (iI (cs : Int)), .int (iI (rs : Int)), .ref mg, .ref mm, .int (iI (mv : Int)), .ref mx, .ref my, .ref mf, .int (iI (mp : Int)), .ref mt, .int (iI (me : Int))])), (mg, .inl (cB, 65536, .inl (iA fB))), (mm, .inl (cS, 65536, .inl (iA fM))), (mx, .inl (cA, 4096, .inl (iA gX))), (my, .inl (cA, 4096, .inl (iA gY))), (mf, .inl (cA, 4096, .inl (iA gF))), (mt, .inl (cA, 4096, .inl (iA gT)))] s.heap := hP
  have in_4 : ∀ w ∈ wsM, w ∈ wM_isPixel := fun w h => List.mem_cons_of_mem _ (in0_M w h)
  have fl_35 := (hts _ (List.mem_cons_of_mem _ vm_249))
  have fl_39 := (hts _ (List.mem_cons_of_mem _ vm_250))
  have hl := lv_entry ([.ref mo, .int (iI a1), .int (iI a2)]) (n := 3) (Nat.le_of_ble_eq_true rfl)
  rw [lg_entry_eq]
  generalize (lg_sl ([.ref mo, .int (iI a1), .int (iI a2)]) ++ List.replicate (3 - (lg_sl ([.ref mo, .int (iI a1), .int (iI a2)])).length) Slot.unset).toArray = ls at hl ⊢
  have hl : lv_has ls 3 [(0, .ref mo), (1, .int (iI a1)), (2, .int (iI a2))] := hl
  generalize hQ : MQ below (qI (fun z => (z = 1 ∧ ((0 ≤ a1 ∧ a1 < (cs : Int) ∧ 0 ≤ a2 ∧ a2 < (rs : Int)))) ∨ (z = 0 ∧ ¬ ((0 ≤ a1 ∧ a1 < (cs : Int) ∧ 0 ≤ a2 ∧ a2 < (rs : Int)))))) [.ref mo, .int (iI a1), .int (iI a2)].toArray s 0 0 (fun _ => False) = QQ
  refine lv_iload_n hx hb dM_isPixel_0 rfl (lv_at hl 1 rfl) ?_
  refine ii_if_lt (tgt := 28) hx hb dM_isPixel_1 (by decide) (by omega) (fun c1 => ?_) (fun c1 => ?_)
  · refine ii_iconst (n := 0) hx hb dM_isPixel_28 ?_
    rw [← hQ]
    exact rd_zret hx hb hr hlocks (nar_b (by omega)) (by omega) dM_isPixel_29
  · refine lv_iload_n hx hb dM_isPixel_4 rfl (lv_at hl 1 rfl) ?_
    refine lv_aload_n hx hb dM_isPixel_5 rfl (lv_at hl 0 rfl) ?_
    refine va_get (ci := 4) (v := .int (iI (cs : Int))) (C := "WindingRasterModel") (T := TM) (N := 11) hx hb hts in_4 hown hK hP 0 rfl rfl 0 (by decide) fl_35 (fun _ h9 => h9) rfl dM_isPixel_6 ?_
    refine ii_icmp_ge (tgt := 28) hx hb dM_isPixel_9 (by decide) (by omega) (by omega) (fun c9 => ?_) (fun c9 => ?_)
    · refine ii_iconst (n := 0) hx hb dM_isPixel_28 ?_
      rw [← hQ]
      exact rd_zret hx hb hr hlocks (nar_b (by omega)) (by omega) dM_isPixel_29
    · refine lv_iload_n hx hb dM_isPixel_12 rfl (lv_at hl 2 rfl) ?_
      refine ii_if_lt (tgt := 28) hx hb dM_isPixel_13 (by decide) (by omega) (fun c13 => ?_) (fun c13 => ?_)
      · refine ii_iconst (n := 0) hx hb dM_isPixel_28 ?_
        rw [← hQ]
        exact rd_zret hx hb hr hlocks (nar_b (by omega)) (by omega) dM_isPixel_29
      · refine lv_iload_n hx hb dM_isPixel_16 rfl (lv_at hl 2 rfl) ?_
        refine lv_aload_n hx hb dM_isPixel_17 rfl (lv_at hl 0 rfl) ?_
        refine va_get (ci := 4) (v := .int (iI (rs : Int))) (C := "WindingRasterModel") (T := TM) (N := 11) hx hb hts in_4 hown hK hP 0 rfl rfl 1 (by decide) fl_39 (fun _ h9 => h9) rfl dM_isPixel_18 ?_
        refine ii_icmp_ge (tgt := 28) hx hb dM_isPixel_21 (by decide) (by omega) (by omega) (fun c21 => ?_) (fun c21 => ?_)
        · refine ii_iconst (n := 0) hx hb dM_isPixel_28 ?_
          rw [← hQ]
          exact rd_zret hx hb hr hlocks (nar_b (by omega)) (by omega) dM_isPixel_29
        · refine ii_iconst (n := 1) hx hb dM_isPixel_24 ?_
          refine lv_goto (tgt := 29) hx hb dM_isPixel_25 (by decide) ?_
          rw [← hQ]
          exact rd_zret hx hb hr hlocks (nar_b (by omega)) (by omega) dM_isPixel_29

def rm_m_at : Room := { frames := 0, cells := 0, slots := 0, locals := 0 }
set_option maxHeartbeats 4000000 in
set_option maxRecDepth 100000 in
theorem m_at (l : Launch) (D : va_G) (cA cB cS : ClassId) (kc : Nat) (kr : Nat) : Met l yM_at wM_at rm_m_at (pR [.int (iI (kc : Int)), .int (iI (kr : Int))] D vwCl (vwTy cA cB cS) vwNw []) (qI (fun z => z = ((256 * kr + kc : Nat) : Int))) 0 0 (fun _ => False) := by
  refine Met.ofW (cc := bM_at) (maxL := 2) (ret := (some .int)) (by decide +kernel) rfl ?_
  intro p e s m args below meth c s₁ B hml hv
  obtain ⟨rfl, hP, hKW⟩ := hv
  have hK := hKW.1
  have hN := hKW.2.2
  have hx := B.exec
  have hb := B.bytes
  have hr := B.returns
  have hts := atoms_spec (ws := wM_at) B.pre
  have hown : s.vm.findClass "WindingRasterModel" = some m.cls := findClass_of_methodNamed B.named
  have hlocks := B.notSynchronized
  have hP : va_P D vwCl [] s.heap := hP
  have hl := lv_entry ([.int (iI (kc : Int)), .int (iI (kr : Int))]) (n := 2) (Nat.le_of_ble_eq_true rfl)
  rw [lg_entry_eq]
  generalize (lg_sl ([.int (iI (kc : Int)), .int (iI (kr : Int))]) ++ List.replicate (2 - (lg_sl ([.int (iI (kc : Int)), .int (iI (kr : Int))])).length) Slot.unset).toArray = ls at hl ⊢
  have hl : lv_has ls 2 [(0, .int (iI (kc : Int))), (1, .int (iI (kr : Int)))] := hl
  generalize hQ : MQ below (qI (fun z => z = ((256 * kr + kc : Nat) : Int))) [.int (iI (kc : Int)), .int (iI (kr : Int))].toArray s 0 0 (fun _ => False) = QQ
  refine ii_sipush (n := 256) hx hb dM_at_0 (by decide +kernel) ?_
  refine lv_iload_n hx hb dM_at_3 rfl (lv_at hl 1 rfl) ?_
  refine ii_imul hx hb dM_at_4 ?_
  refine ii_top (y := ((256 * kr : Nat) : Int)) (by push_cast; rfl) ?_
  refine lv_iload_n hx hb dM_at_5 rfl (lv_at hl 0 rfl) ?_
  refine ii_iadd hx hb dM_at_6 ?_
  refine ii_top (y := (((256 * kr) + kc : Nat) : Int)) (by push_cast; rfl) ?_
  rw [← hQ]
  exact rd_iret hx hb hr hlocks rfl dM_at_7

def rm_m_winding : Room := { frames := 3, cells := 0, slots := 0, locals := 76 }
set_option maxHeartbeats 4000000 in
set_option maxRecDepth 100000 in
theorem m_winding (l : Launch) (D : va_G) (cA cB cS : ClassId) (mo : Nat) (cs : Nat) (rs : Nat) (mg : Nat) (mm : Nat) (mx : Nat) (my : Nat) (mf : Nat) (mt : Nat) (fB : Nat → Int) (fM : Nat → Int) (gX : Nat → Int) (gY : Nat → Int) (gF : Nat → Int) (gT : Nat → Int) (mv : Nat) (mp : Nat) (me : Nat) (a1 : Int) (a2 : Int) (h1 : i32 a1) (h3 : i32 a2) (hc : 0 < cs ∧ cs ≤ 256) (hr_ : 0 < rs ∧ rs ≤ 256) (h2 : mp ≤ 4096) (hf : firM gF mp) (hp : ∀ i, i < mp → (-536870912 ≤ gX i ∧ gX i ≤ 536870912) ∧ (-536870912 ≤ gY i ∧ gY i ≤ 536870912)) (sz : Nat) : Met l yM_winding wM_winding rm_m_winding (pW [.ref mo, .int (iI a1), .int (iI a2)] D vwCl (vwTy cA cB cS) vwNw [(mo, .inr (4, [.int (iI (cs : Int)), .int (iI (rs : Int)), .ref mg, .ref mm, .int (iI (mv : Int)), .ref mx, .ref my, .ref mf, .int (iI (mp : Int)), .ref mt, .int (iI (me : Int))])), (mg, .inl (cB, 65536, .inl (iA fB))), (mm, .inl (cS, 65536, .inl (iA fM))), (mx, .inl (cA, 4096, .inl (iA gX))), (my, .inl (cA, 4096, .inl (iA gY))), (mf, .inl (cA, 4096, .inl (iA gF))), (mt, .inl (cA, 4096, .inl (iA gT)))] sz) (qW (S := (Nat → Int) × Nat) (fun (z : Int) (u : (Nat → Int) × Nat) => ((0 ≤ a1 ∧ a1 < (cs : Int) ∧ 0 ≤ a2 ∧ a2 < (rs : Int)) ∧ z = wiZ gX gY (nxZ gF mp) mp ((a2.toNat * 65536 + 32768 : Nat) : Int) (a1.toNat : Int)) ∨ (¬ (0 ≤ a1 ∧ a1 < (cs : Int) ∧ 0 ≤ a2 ∧ a2 < (rs : Int)) ∧ z = 0)) D vwCl [(mo, .inr (4, [.int (iI (cs : Int)), .int (iI (rs : Int)), .ref mg, .ref mm, .int (iI (mv : Int)), .ref mx, .ref my, .ref mf, .int (iI (mp : Int)), .ref mt, .int (iI (me : Int))])), (mg, .inl (cB, 65536, .inl (iA fB))), (mm, .inl (cS, 65536, .inl (iA fM))), (mx, .inl (cA, 4096, .inl (iA gX))), (my, .inl (cA, 4096, .inl (iA gY))), (mf, .inl (cA, 4096, .inl (iA gF))), (mt, .inl (cA, 4096, .inl (iA gT)))] sz (fun u : (Nat → Int) × Nat => [(mo, .inr (4, [.int (iI (cs : Int)), .int (iI (rs : Int)), .ref mg, .ref mm, .int (iI (mv : Int)), .ref mx, .ref my, .ref mf, .int (iI (mp : Int)), .ref mt, .int (iI ((u.2 : Nat) : Int))])), (mg, .inl (cB, 65536, .inl (iA fB))), (mm, .inl (cS, 65536, .inl (iA fM))), (mx, .inl (cA, 4096, .inl (iA gX))), (my, .inl (cA, 4096, .inl (iA gY))), (mf, .inl (cA, 4096, .inl (iA gF))), (mt, .inl (cA, 4096, .inl (iA u.1)))])) 0 0 (va_A [(mo, .inr (4, [.int (iI (cs : Int)), .int (iI (rs : Int)), .ref mg, .ref mm, .int (iI (mv : Int)), .ref mx, .ref my, .ref mf, .int (iI (mp : Int)), .ref mt, .int (iI (me : Int))])), (mg, .inl (cB, 65536, .inl (iA fB))), (mm, .inl (cS, 65536, .inl (iA fM))), (mx, .inl (cA, 4096, .inl (iA gX))), (my, .inl (cA, 4096, .inl (iA gY))), (mf, .inl (cA, 4096, .inl (iA gF))), (mt, .inl (cA, 4096, .inl (iA gT)))] sz) := by
  refine Met.ofW (cc := bM_winding) (maxL := 3) (ret := (some .int)) (by decide +kernel) rfl ?_
  intro p e s m args below meth c s₁ B hml hv
  obtain ⟨rfl, hsz, hP, hKW, hD0⟩ := hv
  have hK := hKW.1
  have hN := hKW.2.2
  have hx := B.exec
  have hb := B.bytes
  have hr := B.returns
  have hts := atoms_spec (ws := wM_winding) B.pre
  have hown : s.vm.findClass "WindingRasterModel" = some m.cls := findClass_of_methodNamed B.named
  have hlocks := B.notSynchronized
  subst hsz
  have hD := hD0.self (sz := s.heap.size)
  obtain ⟨A, hAe⟩ : ∃ A, va_A [(mo, .inr (4, [.int (iI (cs : Int)), .int (iI (rs : Int)), .ref mg, .ref mm, .int (iI (mv : Int)), .ref mx, .ref my, .ref mf, .int (iI (mp : Int)), .ref mt, .int (iI (me : Int))])), (mg, .inl (cB, 65536, .inl (iA fB))), (mm, .inl (cS, 65536, .inl (iA fM))), (mx, .inl (cA, 4096, .inl (iA gX))), (my, .inl (cA, 4096, .inl (iA gY))), (mf, .inl (cA, 4096, .inl (iA gF))), (mt, .inl (cA, 4096, .inl (iA gT)))] s.heap.size = A := ⟨_, rfl⟩
  rw [hAe] at hD
  have hA : ∀ q : Nat, s.heap.size ≤ q → A q := fun q h => by rw [← hAe]; exact Or.inr h
  have hS : va_S A s.heap s.heap [] := va_S.rf
  have hP : va_P D vwCl [(mo, .inr (4, [.int (iI (cs : Int)), .int (iI (rs : Int)), .ref mg, .ref mm, .int (iI (mv : Int)), .ref mx, .ref my, .ref mf, .int (iI (mp : Int)), .ref mt, .int (iI (me : Int))])), (mg, .inl (cB, 65536, .inl (iA fB))), (mm, .inl (cS, 65536, .inl (iA fM))), (mx, .inl (cA, 4096, .inl (iA gX))), (my, .inl (cA, 4096, .inl (iA gY))), (mf, .inl (cA, 4096, .inl (iA gF))), (mt, .inl (cA, 4096, .inl (iA gT)))] s.heap := hP
  have hl := lv_entry ([.ref mo, .int (iI a1), .int (iI a2)]) (n := 3) (Nat.le_of_ble_eq_true rfl)
  rw [lg_entry_eq]
  generalize (lg_sl ([.ref mo, .int (iI a1), .int (iI a2)]) ++ List.replicate (3 - (lg_sl ([.ref mo, .int (iI a1), .int (iI a2)])).length) Slot.unset).toArray = ls at hl ⊢
  have hl : lv_has ls 3 [(0, .ref mo), (1, .int (iI a1)), (2, .int (iI a2))] := hl
  generalize hQ : MQ below (qW (S := (Nat → Int) × Nat) (fun (z : Int) (u : (Nat → Int) × Nat) => ((0 ≤ a1 ∧ a1 < (cs : Int) ∧ 0 ≤ a2 ∧ a2 < (rs : Int)) ∧ z = wiZ gX gY (nxZ gF mp) mp ((a2.toNat * 65536 + 32768 : Nat) : Int) (a1.toNat : Int)) ∨ (¬ (0 ≤ a1 ∧ a1 < (cs : Int) ∧ 0 ≤ a2 ∧ a2 < (rs : Int)) ∧ z = 0)) D vwCl [(mo, .inr (4, [.int (iI (cs : Int)), .int (iI (rs : Int)), .ref mg, .ref mm, .int (iI (mv : Int)), .ref mx, .ref my, .ref mf, .int (iI (mp : Int)), .ref mt, .int (iI (me : Int))])), (mg, .inl (cB, 65536, .inl (iA fB))), (mm, .inl (cS, 65536, .inl (iA fM))), (mx, .inl (cA, 4096, .inl (iA gX))), (my, .inl (cA, 4096, .inl (iA gY))), (mf, .inl (cA, 4096, .inl (iA gF))), (mt, .inl (cA, 4096, .inl (iA gT)))] s.heap.size (fun u : (Nat → Int) × Nat => [(mo, .inr (4, [.int (iI (cs : Int)), .int (iI (rs : Int)), .ref mg, .ref mm, .int (iI (mv : Int)), .ref mx, .ref my, .ref mf, .int (iI (mp : Int)), .ref mt, .int (iI ((u.2 : Nat) : Int))])), (mg, .inl (cB, 65536, .inl (iA fB))), (mm, .inl (cS, 65536, .inl (iA fM))), (mx, .inl (cA, 4096, .inl (iA gX))), (my, .inl (cA, 4096, .inl (iA gY))), (mf, .inl (cA, 4096, .inl (iA gF))), (mt, .inl (cA, 4096, .inl (iA u.1)))])) [.ref mo, .int (iI a1), .int (iI a2)].toArray s 0 0 (va_A [(mo, .inr (4, [.int (iI (cs : Int)), .int (iI (rs : Int)), .ref mg, .ref mm, .int (iI (mv : Int)), .ref mx, .ref my, .ref mf, .int (iI (mp : Int)), .ref mt, .int (iI (me : Int))])), (mg, .inl (cB, 65536, .inl (iA fB))), (mm, .inl (cS, 65536, .inl (iA fM))), (mx, .inl (cA, 4096, .inl (iA gX))), (my, .inl (cA, 4096, .inl (iA gY))), (mf, .inl (cA, 4096, .inl (iA gF))), (mt, .inl (cA, 4096, .inl (iA gT)))] s.heap.size) = QQ
  refine lv_aload_n hx hb dM_winding_0 rfl (lv_at hl 0 rfl) ?_
  refine lv_iload_n hx hb dM_winding_1 rfl (lv_at hl 1 rfl) ?_
  refine lv_iload_n hx hb dM_winding_2 rfl (lv_at hl 2 rfl) ?_
  refine cs_i (va_runV (As := [.int (iI a1), .int (iI a2)]) (rest := []) ⟨hx, hb, hml, hown, hts⟩ (m_isPixel l D cA cB cS mo cs rs mg mm mx my mf mt fB fM gX gY gF gT mv mp me a1 a2 (by omega) (by omega) (by omega) (by omega)) ⟨(callB_of 2 hts (gIn vm_307) rfl rfl rfl (hts _ (List.mem_cons_of_mem _ vm_8)) (hts _ (List.mem_cons_of_mem _ vm_305)) (by decide +kernel) ⟨Nat.le_of_ble_eq_true rfl, Nat.le_of_ble_eq_true rfl⟩), (hts _ (List.mem_cons_of_mem _ vm_306)), (hts _ (List.mem_cons_of_mem _ vm_406))⟩ (pR.preV (va_recv hK hP (ci := 4) (q0 := 0) rfl rfl) (hP.sub [0, 1, 2, 3, 4, 5, 6] rfl) hKW) rfl rfl hl.1 rfl (lv_room (Nat.le_of_ble_eq_true rfl)) dM_winding_3 ⟨Nat.le_of_ble_eq_true rfl, Nat.le_of_ble_eq_true rfl⟩) (fun z_1 hz_1 => ?_)
  refine ii_if_ne (tgt := 11) hx hb dM_winding_6 (by decide) (by omega) (fun c6 => ?_) (fun c6 => ?_)
  · obtain ⟨kc, rfl⟩ : ∃ kc : Nat, a1 = (kc : Int) := ⟨a1.toNat, by omega⟩
    obtain ⟨kr, rfl⟩ : ∃ kr : Nat, a2 = (kr : Int) := ⟨a2.toNat, by omega⟩
    refine lv_aload_n hx hb dM_winding_11 rfl (lv_at hl 0 rfl) ?_
    refine lv_iload_n hx hb dM_winding_12 rfl (lv_at hl 2 rfl) ?_
    refine cw_v (wc := [(mo, .inr (4, [.int (iI (cs : Int)), .int (iI (rs : Int)), .ref mg, .ref mm, .int (iI (mv : Int)), .ref mx, .ref my, .ref mf, .int (iI (mp : Int)), .ref mt, .int (iI (me : Int))])), (mg, .inl (cB, 65536, .inl (iA fB))), (mm, .inl (cS, 65536, .inl (iA fM))), (mx, .inl (cA, 4096, .inl (iA gX))), (my, .inl (cA, 4096, .inl (iA gY))), (mf, .inl (cA, 4096, .inl (iA gF))), (mt, .inl (cA, 4096, .inl (iA gT)))]) (wr := []) hP hD hS hA [0, 1, 2, 3, 4, 5, 6] [] rfl rfl (by decide) (by decide) (va_runV (As := [.int (iI (kr : Int))]) (rest := []) ⟨hx, hb, hml, hown, hts⟩ (m_meet l D cA cB cS mo cs rs mg mm mx my mf mt fB fM gX gY gF gT mv mp me kr (by omega) hf hp (by omega) _) ⟨(callB_of 1 hts (gIn vm_310) rfl rfl rfl (hts _ (List.mem_cons_of_mem _ vm_8)) (hts _ (List.mem_cons_of_mem _ vm_308)) (by decide +kernel) ⟨Nat.le_of_ble_eq_true rfl, Nat.le_of_ble_eq_true rfl⟩), (hts _ (List.mem_cons_of_mem _ vm_309)), (hts _ (List.mem_cons_of_mem _ vm_407))⟩ (pW.preV (va_recv hK hP (ci := 4) (q0 := 0) rfl rfl) (hP.sub [0, 1, 2, 3, 4, 5, 6] rfl) (hD.sub [0, 1, 2, 3, 4, 5, 6] (by decide) rfl) hKW) rfl rfl hl.1 rfl (lv_room (Nat.le_of_ble_eq_true rfl)) dM_winding_13 ⟨Nat.le_of_ble_eq_true rfl, Nat.le_of_ble_eq_true rfl⟩) (fun u_2 H locs hzm hP hD hS => ?_)
    obtain ⟨gT1, me1⟩ := u_2
    try dsimp only at hzm
    have hP : va_P D vwCl [(mo, .inr (4, [.int (iI (cs : Int)), .int (iI (rs : Int)), .ref mg, .ref mm, .int (iI (mv : Int)), .ref mx, .ref my, .ref mf, .int (iI (mp : Int)), .ref mt, .int (iI (me1 : Int))])), (mg, .inl (cB, 65536, .inl (iA fB))), (mm, .inl (cS, 65536, .inl (iA fM))), (mx, .inl (cA, 4096, .inl (iA gX))), (my, .inl (cA, 4096, .inl (iA gY))), (mf, .inl (cA, 4096, .inl (iA gF))), (mt, .inl (cA, 4096, .inl (iA gT1)))] H := hP
    have hD : va_D A [(mo, .inr (4, [.int (iI (cs : Int)), .int (iI (rs : Int)), .ref mg, .ref mm, .int (iI (mv : Int)), .ref mx, .ref my, .ref mf, .int (iI (mp : Int)), .ref mt, .int (iI (me1 : Int))])), (mg, .inl (cB, 65536, .inl (iA fB))), (mm, .inl (cS, 65536, .inl (iA fM))), (mx, .inl (cA, 4096, .inl (iA gX))), (my, .inl (cA, 4096, .inl (iA gY))), (mf, .inl (cA, 4096, .inl (iA gF))), (mt, .inl (cA, 4096, .inl (iA gT1)))] := hD
    refine lv_aload_n hx hb dM_winding_16 rfl (lv_at hl 0 rfl) ?_
    refine lv_iload_n hx hb dM_winding_17 rfl (lv_at hl 1 rfl) ?_
    refine lv_iload_n hx hb dM_winding_18 rfl (lv_at hl 2 rfl) ?_
    refine cs_i (va_runV (As := [.int (iI (kc : Int)), .int (iI (kr : Int))]) (rest := []) ⟨hx, hb, hml, hown, hts⟩ (m_windings l D cA cB cS mo cs rs mg mm mx my mf mt fB fM gX gY gF gT1 mv mp me1 kc kr (by omega) hf hp (by omega) (by omega) hzm) ⟨(callB_of 2 hts (gIn vm_321) rfl rfl rfl (hts _ (List.mem_cons_of_mem _ vm_8)) (hts _ (List.mem_cons_of_mem _ vm_319)) (by decide +kernel) ⟨Nat.le_of_ble_eq_true rfl, Nat.le_of_ble_eq_true rfl⟩), (hts _ (List.mem_cons_of_mem _ vm_320)), (hts _ (List.mem_cons_of_mem _ vm_409))⟩ (pR.preV (va_recv hK hP (ci := 4) (q0 := 0) rfl rfl) (hP.sub [0, 1, 2, 3, 4, 5, 6] rfl) hKW) rfl rfl hl.1 rfl (lv_room (Nat.le_of_ble_eq_true rfl)) dM_winding_19 ⟨Nat.le_of_ble_eq_true rfl, Nat.le_of_ble_eq_true rfl⟩) (fun z_3 hz_3 => ?_)
    subst hz_3
    rw [← hQ]
    exact wr_iret (gT1, me1) hx hb hr hlocks hAe (hP.sub [0, 1, 2, 3, 4, 5, 6] rfl) (hD.sub [0, 1, 2, 3, 4, 5, 6] (by decide) rfl) hS (Or.inl ⟨by omega, rfl⟩) dM_winding_22
  · refine ii_iconst (n := 0) hx hb dM_winding_9 ?_
    rw [← hQ]
    exact wr_iret (gT, me) hx hb hr hlocks hAe (hP.sub [0, 1, 2, 3, 4, 5, 6] rfl) (hD.sub [0, 1, 2, 3, 4, 5, 6] (by decide) rfl) hS (Or.inr ⟨by omega, rfl⟩) dM_winding_10

def rm_m_isInside : Room := { frames := 0, cells := 0, slots := 0, locals := 0 }
set_option maxHeartbeats 4000000 in
set_option maxRecDepth 100000 in
theorem m_isInside (l : Launch) (D : va_G) (cA cB cS : ClassId) (a1 : Int) (a2 : Int) (h1 : i32 a1) (h2 : i32 a2) : Met l yM_isInside wM_isInside rm_m_isInside (pR [.int (iI a1), .int (iI a2)] D vwCl (vwTy cA cB cS) vwNw []) (qI (fun z => (z = 1 ∧ ((a2 = 0 ∧ ¬ a1 = 0) ∨ (¬ a2 = 0 ∧ ¬ a1 % 2 = 0))) ∨ (z = 0 ∧ ¬ ((a2 = 0 ∧ ¬ a1 = 0) ∨ (¬ a2 = 0 ∧ ¬ a1 % 2 = 0))))) 0 0 (fun _ => False) := by
  refine Met.ofW (cc := bM_isInside) (maxL := 2) (ret := (some .boolean)) (by decide +kernel) rfl ?_
  intro p e s m args below meth c s₁ B hml hv
  obtain ⟨rfl, hP, hKW⟩ := hv
  have hK := hKW.1
  have hN := hKW.2.2
  have hx := B.exec
  have hb := B.bytes
  have hr := B.returns
  have hts := atoms_spec (ws := wM_isInside) B.pre
  have hown : s.vm.findClass "WindingRasterModel" = some m.cls := findClass_of_methodNamed B.named
  have hlocks := B.notSynchronized
  have hP : va_P D vwCl [] s.heap := hP
  have hl := lv_entry ([.int (iI a1), .int (iI a2)]) (n := 2) (Nat.le_of_ble_eq_true rfl)
  rw [lg_entry_eq]
  generalize (lg_sl ([.int (iI a1), .int (iI a2)]) ++ List.replicate (2 - (lg_sl ([.int (iI a1), .int (iI a2)])).length) Slot.unset).toArray = ls at hl ⊢
  have hl : lv_has ls 2 [(0, .int (iI a1)), (1, .int (iI a2))] := hl
  generalize hQ : MQ below (qI (fun z => (z = 1 ∧ ((a2 = 0 ∧ ¬ a1 = 0) ∨ (¬ a2 = 0 ∧ ¬ a1 % 2 = 0))) ∨ (z = 0 ∧ ¬ ((a2 = 0 ∧ ¬ a1 = 0) ∨ (¬ a2 = 0 ∧ ¬ a1 % 2 = 0))))) [.int (iI a1), .int (iI a2)].toArray s 0 0 (fun _ => False) = QQ
  refine lv_iload_n hx hb dM_isInside_0 rfl (lv_at hl 1 rfl) ?_
  refine ii_if_ne (tgt := 16) hx hb dM_isInside_1 (by decide) (by omega) (fun c1 => ?_) (fun c1 => ?_)
  · refine lv_iload_n hx hb dM_isInside_16 rfl (lv_at hl 0 rfl) ?_
    refine ii_iconst (n := 2) hx hb dM_isInside_17 ?_
    refine ii_irem2 hx hb dM_isInside_18 (by omega) (fun zr_1 hzr_1 gzr_1 => ?_)
    refine ii_if_eq (tgt := 26) hx hb dM_isInside_19 (by decide) (by omega) (fun c19 => ?_) (fun c19 => ?_)
    · refine ii_iconst (n := 0) hx hb dM_isInside_26 ?_
      rw [← hQ]
      exact rd_zret hx hb hr hlocks (nar_b (by omega)) (by omega) dM_isInside_27
    · refine ii_iconst (n := 1) hx hb dM_isInside_22 ?_
      refine lv_goto (tgt := 27) hx hb dM_isInside_23 (by decide) ?_
      rw [← hQ]
      exact rd_zret hx hb hr hlocks (nar_b (by omega)) (by omega) dM_isInside_27
  · refine lv_iload_n hx hb dM_isInside_4 rfl (lv_at hl 0 rfl) ?_
    refine ii_if_eq (tgt := 12) hx hb dM_isInside_5 (by decide) (by omega) (fun c5 => ?_) (fun c5 => ?_)
    · refine ii_iconst (n := 0) hx hb dM_isInside_12 ?_
      refine lv_goto (tgt := 27) hx hb dM_isInside_13 (by decide) ?_
      rw [← hQ]
      exact rd_zret hx hb hr hlocks (nar_b (by omega)) (by omega) dM_isInside_27
    · refine ii_iconst (n := 1) hx hb dM_isInside_8 ?_
      refine lv_goto (tgt := 27) hx hb dM_isInside_9 (by decide) ?_
      rw [← hQ]
      exact rd_zret hx hb hr hlocks (nar_b (by omega)) (by omega) dM_isInside_27
end
section
def rm_m_isOpen : Room := { frames := 0, cells := 0, slots := 0, locals := 0 }
set_option maxHeartbeats 4000000 in
set_option maxRecDepth 100000 in
theorem m_isOpen (l : Launch) (D : va_G) (cA cB cS : ClassId) (mo : Nat) (cs : Nat) (rs : Nat) (mg : Nat) (mm : Nat) (mx : Nat) (my : Nat) (mf : Nat) (mt : Nat) (fB : Nat → Int) (fM : Nat → Int) (gX : Nat → Int) (gY : Nat → Int) (gF : Nat → Int) (gT : Nat → Int) (mv : Nat) (mp : Nat) (me : Nat) (pp : Nat) (jj : Nat) (h1 : pp < 65536) (h2 : jj < 14) (hm : ∀ p, p < 65536 → 0 ≤ fM p ∧ fM p < 16384) : Met l yM_isOpen wM_isOpen rm_m_isOpen (pR [.ref mo, .int (iI (pp : Int)), .int (iI (jj : Int))] D vwCl (vwTy cA cB cS) vwNw [(mo, .inr (4, [.int (iI (cs : Int)), .int (iI (rs : Int)), .ref mg, .ref mm, .int (iI (mv : Int)), .ref mx, .ref my, .ref mf, .int (iI (mp : Int)), .ref mt, .int (iI (me : Int))])), (mg, .inl (cB, 65536, .inl (iA fB))), (mm, .inl (cS, 65536, .inl (iA fM))), (mx, .inl (cA, 4096, .inl (iA gX))), (my, .inl (cA, 4096, .inl (iA gY))), (mf, .inl (cA, 4096, .inl (iA gF))), (mt, .inl (cA, 4096, .inl (iA gT)))]) (qI (fun z => (z = 1 ∧ ((fM pp).toNat.testBit jj = true)) ∨ (z = 0 ∧ ¬ ((fM pp).toNat.testBit jj = true)))) 0 0 (fun _ => False) := by
  refine Met.ofW (cc := bM_isOpen) (maxL := 3) (ret := (some .boolean)) (by decide +kernel) rfl ?_
  intro p e s m args below meth c s₁ B hml hv
  obtain ⟨rfl, hP, hKW⟩ := hv
  have hK := hKW.1
  have hN := hKW.2.2
  have hx := B.exec
  have hb := B.bytes
  have hr := B.returns
  have hts := atoms_spec (ws := wM_isOpen) B.pre
  have hown : s.vm.findClass "WindingRasterModel" = some m.cls := findClass_of_methodNamed B.named
  have hlocks := B.notSynchronized
  have hP : va_P D vwCl [(mo, .inr (4, [.int (iI (cs : Int)), .int (iI (rs : Int)), .ref mg, .ref mm, .int (iI (mv : Int)), .ref mx, .ref my, .ref mf, .int (iI (mp : Int)), .ref mt, .int (iI (me : Int))])), (mg, .inl (cB, 65536, .inl (iA fB))), (mm, .inl (cS, 65536, .inl (iA fM))), (mx, .inl (cA, 4096, .inl (iA gX))), (my, .inl (cA, 4096, .inl (iA gY))), (mf, .inl (cA, 4096, .inl (iA gF))), (mt, .inl (cA, 4096, .inl (iA gT)))] s.heap := hP
  have in_4 : ∀ w ∈ wsM, w ∈ wM_isOpen := fun w h => List.mem_cons_of_mem _ (in0_M w h)
  have fl_14 := (hts _ (List.mem_cons_of_mem _ vm_252))
  have hl := lv_entry ([.ref mo, .int (iI (pp : Int)), .int (iI (jj : Int))]) (n := 3) (Nat.le_of_ble_eq_true rfl)
  rw [lg_entry_eq]
  generalize (lg_sl ([.ref mo, .int (iI (pp : Int)), .int (iI (jj : Int))]) ++ List.replicate (3 - (lg_sl ([.ref mo, .int (iI (pp : Int)), .int (iI (jj : Int))])).length) Slot.unset).toArray = ls at hl ⊢
  have hl : lv_has ls 3 [(0, .ref mo), (1, .int (iI (pp : Int))), (2, .int (iI (jj : Int)))] := hl
  generalize hQ : MQ below (qI (fun z => (z = 1 ∧ ((fM pp).toNat.testBit jj = true)) ∨ (z = 0 ∧ ¬ ((fM pp).toNat.testBit jj = true)))) [.ref mo, .int (iI (pp : Int)), .int (iI (jj : Int))].toArray s 0 0 (fun _ => False) = QQ
  have hm0 := hm pp h1
  obtain ⟨mN, hmN⟩ : ∃ mN : Nat, fM pp = (mN : Int) := ⟨(fM pp).toNat, by omega⟩
  have emN : (fM pp).toNat = mN := by omega
  have hdm := bit_dm mN jj
  rw [← emN] at hdm
  have hq0 : ∀ q : Nat, q ≤ mN → q < 16384 := fun q hq => by omega
  have hq1 := hq0 _ (Nat.div_le_self mN (2 ^ jj))
  rw [emN] at hdm
  obtain ⟨qd, hqd⟩ : ∃ qd, mN / 2 ^ jj = qd := ⟨_, rfl⟩
  rw [hqd] at hdm hq1
  refine lv_aload_n hx hb dM_isOpen_0 rfl (lv_at hl 0 rfl) ?_
  refine va_get (ci := 4) (v := .ref mm) (C := "WindingRasterModel") (T := TM) (N := 11) hx hb hts in_4 hown hK hP 0 rfl rfl 3 (by decide) fl_14 (fun _ h9 => h9) rfl dM_isOpen_1 ?_
  refine lv_iload_n hx hb dM_isOpen_4 rfl (lv_at hl 1 rfl) ?_
  refine ii_sald hx hb hK hP 2 2 rfl rfl pp rfl (by omega) (by omega) dM_isOpen_5 ?_
  refine ii_top (y := (mN : Int)) hmN ?_
  refine lv_iload_n hx hb dM_isOpen_6 rfl (lv_at hl 2 rfl) ?_
  refine ii_ishr (z := (qd : Int)) hx hb dM_isOpen_7 (by rw [← hqd]; exact iI_shrV (by omega) (by omega)) ?_
  refine ii_iconst (n := 1) hx hb dM_isOpen_8 ?_
  refine ii_iand (z := (qd : Int) % 2) hx hb dM_isOpen_9 (iI_and1 _) ?_
  refine ii_iconst (n := 1) hx hb dM_isOpen_10 ?_
  refine ii_icmp_ne (tgt := 18) hx hb dM_isOpen_11 (by decide) (by omega) (by omega) (fun c11 => ?_) (fun c11 => ?_)
  · refine ii_iconst (n := 0) hx hb dM_isOpen_18 ?_
    rw [← hQ]
    exact rd_zret hx hb hr hlocks (nar_b (by omega)) (Or.inr ⟨rfl, fun w => by rw [emN] at w; have w2 := hdm.mp w; omega⟩) dM_isOpen_19
  · refine ii_iconst (n := 1) hx hb dM_isOpen_14 ?_
    refine lv_goto (tgt := 19) hx hb dM_isOpen_15 (by decide) ?_
    rw [← hQ]
    exact rd_zret hx hb hr hlocks (nar_b (by omega)) (Or.inl ⟨rfl, by rw [emN]; exact hdm.mpr (by omega)⟩) dM_isOpen_19

def rm_m_setOpen : Room := { frames := 0, cells := 0, slots := 0, locals := 0 }
set_option maxHeartbeats 4000000 in
set_option maxRecDepth 100000 in
theorem m_setOpen (l : Launch) (D : va_G) (cA cB cS : ClassId) (mo : Nat) (cs : Nat) (rs : Nat) (mg : Nat) (mm : Nat) (mx : Nat) (my : Nat) (mf : Nat) (mt : Nat) (fB : Nat → Int) (fM : Nat → Int) (gX : Nat → Int) (gY : Nat → Int) (gF : Nat → Int) (gT : Nat → Int) (mv : Nat) (mp : Nat) (me : Nat) (pp : Nat) (jj : Nat) (ob : Int) (h1 : pp < 65536) (h2 : jj < 14) (hm : ∀ p, p < 65536 → 0 ≤ fM p ∧ fM p < 16384) (h3 : ob = 0 ∨ ob = 1) (sz : Nat) : Met l yM_setOpen wM_setOpen rm_m_setOpen (pW [.ref mo, .int (iI (pp : Int)), .int (iI (jj : Int)), .int (iI ob)] D vwCl (vwTy cA cB cS) vwNw [(mo, .inr (4, [.int (iI (cs : Int)), .int (iI (rs : Int)), .ref mg, .ref mm, .int (iI (mv : Int)), .ref mx, .ref my, .ref mf, .int (iI (mp : Int)), .ref mt, .int (iI (me : Int))])), (mg, .inl (cB, 65536, .inl (iA fB))), (mm, .inl (cS, 65536, .inl (iA fM))), (mx, .inl (cA, 4096, .inl (iA gX))), (my, .inl (cA, 4096, .inl (iA gY))), (mf, .inl (cA, 4096, .inl (iA gF))), (mt, .inl (cA, 4096, .inl (iA gT)))] sz) (qV (S := (Nat → Int)) (fun fM1 : (Nat → Int) => (∀ p, ¬ p = pp → fM1 p = fM p) ∧ (0 ≤ fM1 pp ∧ fM1 pp < 16384) ∧ ∀ i, (fM1 pp).toNat.testBit i = if i = jj then decide (ob = 1) else (fM pp).toNat.testBit i) D vwCl [(mo, .inr (4, [.int (iI (cs : Int)), .int (iI (rs : Int)), .ref mg, .ref mm, .int (iI (mv : Int)), .ref mx, .ref my, .ref mf, .int (iI (mp : Int)), .ref mt, .int (iI (me : Int))])), (mg, .inl (cB, 65536, .inl (iA fB))), (mm, .inl (cS, 65536, .inl (iA fM))), (mx, .inl (cA, 4096, .inl (iA gX))), (my, .inl (cA, 4096, .inl (iA gY))), (mf, .inl (cA, 4096, .inl (iA gF))), (mt, .inl (cA, 4096, .inl (iA gT)))] sz (fun fM1 : (Nat → Int) => [(mo, .inr (4, [.int (iI (cs : Int)), .int (iI (rs : Int)), .ref mg, .ref mm, .int (iI (mv : Int)), .ref mx, .ref my, .ref mf, .int (iI (mp : Int)), .ref mt, .int (iI (me : Int))])), (mg, .inl (cB, 65536, .inl (iA fB))), (mm, .inl (cS, 65536, .inl (iA fM1))), (mx, .inl (cA, 4096, .inl (iA gX))), (my, .inl (cA, 4096, .inl (iA gY))), (mf, .inl (cA, 4096, .inl (iA gF))), (mt, .inl (cA, 4096, .inl (iA gT)))])) 0 0 (va_A [(mo, .inr (4, [.int (iI (cs : Int)), .int (iI (rs : Int)), .ref mg, .ref mm, .int (iI (mv : Int)), .ref mx, .ref my, .ref mf, .int (iI (mp : Int)), .ref mt, .int (iI (me : Int))])), (mg, .inl (cB, 65536, .inl (iA fB))), (mm, .inl (cS, 65536, .inl (iA fM))), (mx, .inl (cA, 4096, .inl (iA gX))), (my, .inl (cA, 4096, .inl (iA gY))), (mf, .inl (cA, 4096, .inl (iA gF))), (mt, .inl (cA, 4096, .inl (iA gT)))] sz) := by
  refine Met.ofW (cc := bM_setOpen) (maxL := 5) (ret := none) (by decide +kernel) rfl ?_
  intro p e s m args below meth c s₁ B hml hv
  obtain ⟨rfl, hsz, hP, hKW, hD0⟩ := hv
  have hK := hKW.1
  have hN := hKW.2.2
  have hx := B.exec
  have hb := B.bytes
  have hr := B.returns
  have hts := atoms_spec (ws := wM_setOpen) B.pre
  have hown : s.vm.findClass "WindingRasterModel" = some m.cls := findClass_of_methodNamed B.named
  have hlocks := B.notSynchronized
  subst hsz
  have hD := hD0.self (sz := s.heap.size)
  obtain ⟨A, hAe⟩ : ∃ A, va_A [(mo, .inr (4, [.int (iI (cs : Int)), .int (iI (rs : Int)), .ref mg, .ref mm, .int (iI (mv : Int)), .ref mx, .ref my, .ref mf, .int (iI (mp : Int)), .ref mt, .int (iI (me : Int))])), (mg, .inl (cB, 65536, .inl (iA fB))), (mm, .inl (cS, 65536, .inl (iA fM))), (mx, .inl (cA, 4096, .inl (iA gX))), (my, .inl (cA, 4096, .inl (iA gY))), (mf, .inl (cA, 4096, .inl (iA gF))), (mt, .inl (cA, 4096, .inl (iA gT)))] s.heap.size = A := ⟨_, rfl⟩
  rw [hAe] at hD
  have hA : ∀ q : Nat, s.heap.size ≤ q → A q := fun q h => by rw [← hAe]; exact Or.inr h
  have hS : va_S A s.heap s.heap [] := va_S.rf
  have hP : va_P D vwCl [(mo, .inr (4, [.int (iI (cs : Int)), .int (iI (rs : Int)), .ref mg, .ref mm, .int (iI (mv : Int)), .ref mx, .ref my, .ref mf, .int (iI (mp : Int)), .ref mt, .int (iI (me : Int))])), (mg, .inl (cB, 65536, .inl (iA fB))), (mm, .inl (cS, 65536, .inl (iA fM))), (mx, .inl (cA, 4096, .inl (iA gX))), (my, .inl (cA, 4096, .inl (iA gY))), (mf, .inl (cA, 4096, .inl (iA gF))), (mt, .inl (cA, 4096, .inl (iA gT)))] s.heap := hP
  have in_4 : ∀ w ∈ wsM, w ∈ wM_setOpen := fun w h => List.mem_cons_of_mem _ (in0_M w h)
  have fl_14 := (hts _ (List.mem_cons_of_mem _ vm_252))
  have hl := lv_entry ([.ref mo, .int (iI (pp : Int)), .int (iI (jj : Int)), .int (iI ob)]) (n := 5) (Nat.le_of_ble_eq_true rfl)
  rw [lg_entry_eq]
  generalize (lg_sl ([.ref mo, .int (iI (pp : Int)), .int (iI (jj : Int)), .int (iI ob)]) ++ List.replicate (5 - (lg_sl ([.ref mo, .int (iI (pp : Int)), .int (iI (jj : Int)), .int (iI ob)])).length) Slot.unset).toArray = ls at hl ⊢
  have hl : lv_has ls 5 [(0, .ref mo), (1, .int (iI (pp : Int))), (2, .int (iI (jj : Int))), (3, .int (iI ob))] := hl
  generalize hQ : MQ below (qV (S := (Nat → Int)) (fun fM1 : (Nat → Int) => (∀ p, ¬ p = pp → fM1 p = fM p) ∧ (0 ≤ fM1 pp ∧ fM1 pp < 16384) ∧ ∀ i, (fM1 pp).toNat.testBit i = if i = jj then decide (ob = 1) else (fM pp).toNat.testBit i) D vwCl [(mo, .inr (4, [.int (iI (cs : Int)), .int (iI (rs : Int)), .ref mg, .ref mm, .int (iI (mv : Int)), .ref mx, .ref my, .ref mf, .int (iI (mp : Int)), .ref mt, .int (iI (me : Int))])), (mg, .inl (cB, 65536, .inl (iA fB))), (mm, .inl (cS, 65536, .inl (iA fM))), (mx, .inl (cA, 4096, .inl (iA gX))), (my, .inl (cA, 4096, .inl (iA gY))), (mf, .inl (cA, 4096, .inl (iA gF))), (mt, .inl (cA, 4096, .inl (iA gT)))] s.heap.size (fun fM1 : (Nat → Int) => [(mo, .inr (4, [.int (iI (cs : Int)), .int (iI (rs : Int)), .ref mg, .ref mm, .int (iI (mv : Int)), .ref mx, .ref my, .ref mf, .int (iI (mp : Int)), .ref mt, .int (iI (me : Int))])), (mg, .inl (cB, 65536, .inl (iA fB))), (mm, .inl (cS, 65536, .inl (iA fM1))), (mx, .inl (cA, 4096, .inl (iA gX))), (my, .inl (cA, 4096, .inl (iA gY))), (mf, .inl (cA, 4096, .inl (iA gF))), (mt, .inl (cA, 4096, .inl (iA gT)))])) [.ref mo, .int (iI (pp : Int)), .int (iI (jj : Int)), .int (iI ob)].toArray s 0 0 (va_A [(mo, .inr (4, [.int (iI (cs : Int)), .int (iI (rs : Int)), .ref mg, .ref mm, .int (iI (mv : Int)), .ref mx, .ref my, .ref mf, .int (iI (mp : Int)), .ref mt, .int (iI (me : Int))])), (mg, .inl (cB, 65536, .inl (iA fB))), (mm, .inl (cS, 65536, .inl (iA fM))), (mx, .inl (cA, 4096, .inl (iA gX))), (my, .inl (cA, 4096, .inl (iA gY))), (mf, .inl (cA, 4096, .inl (iA gF))), (mt, .inl (cA, 4096, .inl (iA gT)))] s.heap.size) = QQ
  have hm0 := hm pp h1
  obtain ⟨mN, hmN⟩ : ∃ mN : Nat, fM pp = (mN : Int) := ⟨(fM pp).toNat, by omega⟩
  have emN : (fM pp).toNat = mN := by omega
  obtain ⟨qc, hqc, hqc2, hqc3⟩ := iI_clr (m := mN) (j := jj) (by omega) h2
  obtain ⟨qs, hqs, hqs2, hqs3⟩ := iI_set (m := qc) (j := jj) hqc2 h2
  refine lv_aload_n hx hb dM_setOpen_0 rfl (lv_at hl 0 rfl) ?_
  refine va_get (ci := 4) (v := .ref mm) (C := "WindingRasterModel") (T := TM) (N := 11) hx hb hts in_4 hown hK hP 0 rfl rfl 3 (by decide) fl_14 (fun _ h9 => h9) rfl dM_setOpen_1 ?_
  refine lv_iload_n hx hb dM_setOpen_4 rfl (lv_at hl 1 rfl) ?_
  refine ii_sald hx hb hK hP 2 2 rfl rfl pp rfl (by omega) (by omega) dM_setOpen_5 ?_
  refine ii_top (y := (mN : Int)) hmN ?_
  refine ii_iconst (n := 1) hx hb dM_setOpen_6 ?_
  refine lv_iload_n hx hb dM_setOpen_7 rfl (lv_at hl 2 rfl) ?_
  refine ii_ishl (z := ((2 ^ jj : Nat) : Int)) hx hb dM_setOpen_8 (iI_shl1 h2) ?_
  refine ii_iconst (n := (-1)) hx hb dM_setOpen_9 ?_
  refine ii_ixor (z := iI ((2 ^ jj : Nat) : Int) ^^^ iI (-1)) hx hb dM_setOpen_10 rfl ?_
  refine ii_iand (z := (qc : Int)) hx hb dM_setOpen_11 hqc ?_
  refine lv_istore (lv' := [(4, .int (iI (qc : Int))), (0, .ref mo), (1, .int (iI (pp : Int))), (2, .int (iI (jj : Int))), (3, .int (iI ob))]) hx hb dM_setOpen_12 hl (by decide) rfl (fun ls hl => ?_)
  refine lv_aload_n hx hb dM_setOpen_14 rfl (lv_at hl 1 rfl) ?_
  refine va_get (ci := 4) (v := .ref mm) (C := "WindingRasterModel") (T := TM) (N := 11) hx hb hts in_4 hown hK hP 0 rfl rfl 3 (by decide) fl_14 (fun _ h9 => h9) rfl dM_setOpen_15 ?_
  refine lv_iload_n hx hb dM_setOpen_18 rfl (lv_at hl 2 rfl) ?_
  refine lv_iload_n hx hb dM_setOpen_19 rfl (lv_at hl 4 rfl) ?_
  refine ii_if_eq (tgt := 32) hx hb dM_setOpen_20 (by decide) (by omega) (fun c20 => ?_) (fun c20 => ?_)
  · refine lv_iload hx hb dM_setOpen_32 (lv_at hl 0 rfl) ?_
    refine ii_i2s (z := (qc : Int)) hx hb dM_setOpen_34 (iI_16 (by omega)) ?_
    refine ii_sast hx hb hK hP hD hS 2 2 rfl rfl pp rfl (by omega) (by omega) (by omega) dM_setOpen_35 (fun H locs hP hD hS => ?_)
    have hP : va_P D vwCl [(mo, .inr (4, [.int (iI (cs : Int)), .int (iI (rs : Int)), .ref mg, .ref mm, .int (iI (mv : Int)), .ref mx, .ref my, .ref mf, .int (iI (mp : Int)), .ref mt, .int (iI (me : Int))])), (mg, .inl (cB, 65536, .inl (iA fB))), (mm, .inl (cS, 65536, .inl (iA (uZ fM pp (qc : Int))))), (mx, .inl (cA, 4096, .inl (iA gX))), (my, .inl (cA, 4096, .inl (iA gY))), (mf, .inl (cA, 4096, .inl (iA gF))), (mt, .inl (cA, 4096, .inl (iA gT)))] H := hP
    have hD : va_D A [(mo, .inr (4, [.int (iI (cs : Int)), .int (iI (rs : Int)), .ref mg, .ref mm, .int (iI (mv : Int)), .ref mx, .ref my, .ref mf, .int (iI (mp : Int)), .ref mt, .int (iI (me : Int))])), (mg, .inl (cB, 65536, .inl (iA fB))), (mm, .inl (cS, 65536, .inl (iA (uZ fM pp (qc : Int))))), (mx, .inl (cA, 4096, .inl (iA gX))), (my, .inl (cA, 4096, .inl (iA gY))), (mf, .inl (cA, 4096, .inl (iA gF))), (mt, .inl (cA, 4096, .inl (iA gT)))] := hD
    rw [← hQ]
    exact wr_vret (uZ fM pp (qc : Int)) hx hb hr hlocks hAe (hP.sub [0, 1, 2, 3, 4, 5, 6] rfl) (hD.sub [0, 1, 2, 3, 4, 5, 6] (by decide) rfl) hS ⟨fun p hp0 => by show uZ fM pp (qc : Int) p = fM p; unfold uZ; rw [if_neg hp0], by show 0 ≤ uZ fM pp (qc : Int) pp ∧ uZ fM pp (qc : Int) pp < 16384; unfold uZ; rw [if_pos rfl]; omega, fun i => by show (uZ fM pp (qc : Int) pp).toNat.testBit i = _; rw [show uZ fM pp (qc : Int) pp = (qc : Int) from if_pos rfl, Int.toNat_natCast, emN]; rw [hqc3 i]; by_cases w : i = jj; (rw [if_pos w, decide_eq_true w, decide_eq_false (show ¬ ob = 1 by omega)]; simp); (rw [if_neg w, decide_eq_false w]; simp)⟩ dM_setOpen_36
  · refine lv_iload hx hb dM_setOpen_23 (lv_at hl 0 rfl) ?_
    refine ii_iconst (n := 1) hx hb dM_setOpen_25 ?_
    refine lv_iload_n hx hb dM_setOpen_26 rfl (lv_at hl 3 rfl) ?_
    refine ii_ishl (z := ((2 ^ jj : Nat) : Int)) hx hb dM_setOpen_27 (iI_shl1 h2) ?_
    refine ii_ior (z := (qs : Int)) hx hb dM_setOpen_28 hqs ?_
    refine lv_goto (tgt := 34) hx hb dM_setOpen_29 (by decide) ?_
    refine ii_i2s (z := (qs : Int)) hx hb dM_setOpen_34 (iI_16 (by omega)) ?_
    refine ii_sast hx hb hK hP hD hS 2 2 rfl rfl pp rfl (by omega) (by omega) (by omega) dM_setOpen_35 (fun H locs hP hD hS => ?_)
    have hP : va_P D vwCl [(mo, .inr (4, [.int (iI (cs : Int)), .int (iI (rs : Int)), .ref mg, .ref mm, .int (iI (mv : Int)), .ref mx, .ref my, .ref mf, .int (iI (mp : Int)), .ref mt, .int (iI (me : Int))])), (mg, .inl (cB, 65536, .inl (iA fB))), (mm, .inl (cS, 65536, .inl (iA (uZ fM pp (qs : Int))))), (mx, .inl (cA, 4096, .inl (iA gX))), (my, .inl (cA, 4096, .inl (iA gY))), (mf, .inl (cA, 4096, .inl (iA gF))), (mt, .inl (cA, 4096, .inl (iA gT)))] H := hP
    have hD : va_D A [(mo, .inr (4, [.int (iI (cs : Int)), .int (iI (rs : Int)), .ref mg, .ref mm, .int (iI (mv : Int)), .ref mx, .ref my, .ref mf, .int (iI (mp : Int)), .ref mt, .int (iI (me : Int))])), (mg, .inl (cB, 65536, .inl (iA fB))), (mm, .inl (cS, 65536, .inl (iA (uZ fM pp (qs : Int))))), (mx, .inl (cA, 4096, .inl (iA gX))), (my, .inl (cA, 4096, .inl (iA gY))), (mf, .inl (cA, 4096, .inl (iA gF))), (mt, .inl (cA, 4096, .inl (iA gT)))] := hD
    rw [← hQ]
    exact wr_vret (uZ fM pp (qs : Int)) hx hb hr hlocks hAe (hP.sub [0, 1, 2, 3, 4, 5, 6] rfl) (hD.sub [0, 1, 2, 3, 4, 5, 6] (by decide) rfl) hS ⟨fun p hp0 => by show uZ fM pp (qs : Int) p = fM p; unfold uZ; rw [if_neg hp0], by show 0 ≤ uZ fM pp (qs : Int) pp ∧ uZ fM pp (qs : Int) pp < 16384; unfold uZ; rw [if_pos rfl]; omega, fun i => by show (uZ fM pp (qs : Int) pp).toNat.testBit i = _; rw [show uZ fM pp (qs : Int) pp = (qs : Int) from if_pos rfl, Int.toNat_natCast, emN]; rw [hqs3 i, hqc3 i]; by_cases w : i = jj; (rw [if_pos w, decide_eq_true w, decide_eq_true (show ob = 1 by omega)]; simp); (rw [if_neg w, decide_eq_false w]; simp)⟩ dM_setOpen_36
end
