-- ===== PART A: goes FIRST, ahead of the names: the tables' words, and 'selects' of the private methods out of them =====
/-- a private method of a class that the tables say can be made, by its rows of tables_1 -/
def lw_okq (q : MethodName × Nat) : Prop := (q.1.cls ≠ "java/lang/invoke/MethodHandle" ∧ q.1.cls ≠ "java/lang/invoke/VarHandle") ∧ Cond.instantiable q.1.cls q.2 ∈ tables_1 ∧ Cond.privateMethod q.1 ∈ tables_1 ∧ Cond.instanceMethod q.1 ∈ tables_1
theorem lw_p0 : lw_okq (⟨"WindingRaster$Outline", "isFull", "()Z"⟩, 5) := ⟨⟨by decide +kernel, by decide +kernel⟩, List.mem_of_getElem? (i := 28) (by decide +kernel), List.mem_of_getElem? (i := 135) (by decide +kernel), List.mem_of_getElem? (i := 136) (by decide +kernel)⟩
theorem lw_p1 : lw_okq (⟨"WindingRaster$Outline", "begin", "(II)V"⟩, 5) := ⟨⟨by decide +kernel, by decide +kernel⟩, List.mem_of_getElem? (i := 28) (by decide +kernel), List.mem_of_getElem? (i := 139) (by decide +kernel), List.mem_of_getElem? (i := 140) (by decide +kernel)⟩
theorem lw_p2 : lw_okq (⟨"WindingRaster$Outline", "addPoint", "(II)V"⟩, 5) := ⟨⟨by decide +kernel, by decide +kernel⟩, List.mem_of_getElem? (i := 28) (by decide +kernel), List.mem_of_getElem? (i := 143) (by decide +kernel), List.mem_of_getElem? (i := 144) (by decide +kernel)⟩
theorem lw_p3 : lw_okq (⟨"WindingRaster$Outline", "hasLine", "()Z"⟩, 5) := ⟨⟨by decide +kernel, by decide +kernel⟩, List.mem_of_getElem? (i := 28) (by decide +kernel), List.mem_of_getElem? (i := 152) (by decide +kernel), List.mem_of_getElem? (i := 153) (by decide +kernel)⟩
theorem lw_p4 : lw_okq (⟨"WindingRaster$Outline", "goOn", "(II)V"⟩, 5) := ⟨⟨by decide +kernel, by decide +kernel⟩, List.mem_of_getElem? (i := 28) (by decide +kernel), List.mem_of_getElem? (i := 156) (by decide +kernel), List.mem_of_getElem? (i := 157) (by decide +kernel)⟩
theorem lw_p5 : lw_okq (⟨"WindingRaster$Outline", "forget", "()V"⟩, 5) := ⟨⟨by decide +kernel, by decide +kernel⟩, List.mem_of_getElem? (i := 28) (by decide +kernel), List.mem_of_getElem? (i := 165) (by decide +kernel), List.mem_of_getElem? (i := 166) (by decide +kernel)⟩
theorem lw_p6 : lw_okq (⟨"WindingRaster", "hasPixel", "(II)Z"⟩, 7) := ⟨⟨by decide +kernel, by decide +kernel⟩, List.mem_of_getElem? (i := 11) (by decide +kernel), List.mem_of_getElem? (i := 173) (by decide +kernel), List.mem_of_getElem? (i := 174) (by decide +kernel)⟩
theorem lw_p7 : lw_okq (⟨"WindingRaster$Outline", "windingAt", "(II)I"⟩, 5) := ⟨⟨by decide +kernel, by decide +kernel⟩, List.mem_of_getElem? (i := 28) (by decide +kernel), List.mem_of_getElem? (i := 177) (by decide +kernel), List.mem_of_getElem? (i := 178) (by decide +kernel)⟩
theorem lw_p8 : lw_okq (⟨"WindingRaster$Outline", "stepAt", "(II)I"⟩, 5) := ⟨⟨by decide +kernel, by decide +kernel⟩, List.mem_of_getElem? (i := 28) (by decide +kernel), List.mem_of_getElem? (i := 185) (by decide +kernel), List.mem_of_getElem? (i := 186) (by decide +kernel)⟩
theorem lw_p9 : lw_okq (⟨"WindingRaster$Outline", "hasEdge", "(I)Z"⟩, 5) := ⟨⟨by decide +kernel, by decide +kernel⟩, List.mem_of_getElem? (i := 28) (by decide +kernel), List.mem_of_getElem? (i := 189) (by decide +kernel), List.mem_of_getElem? (i := 190) (by decide +kernel)⟩
theorem lw_p10 : lw_okq (⟨"WindingRaster$Outline", "firstColumn", "(II)I"⟩, 5) := ⟨⟨by decide +kernel, by decide +kernel⟩, List.mem_of_getElem? (i := 28) (by decide +kernel), List.mem_of_getElem? (i := 193) (by decide +kernel), List.mem_of_getElem? (i := 194) (by decide +kernel)⟩
theorem lw_p11 : lw_okq (⟨"WindingRaster", "cutClip", "(I)V"⟩, 7) := ⟨⟨by decide +kernel, by decide +kernel⟩, List.mem_of_getElem? (i := 11) (by decide +kernel), List.mem_of_getElem? (i := 211) (by decide +kernel), List.mem_of_getElem? (i := 212) (by decide +kernel)⟩
theorem lw_p12 : lw_okq (⟨"WindingRaster$ClipPile", "start", "()I"⟩, 4) := ⟨⟨by decide +kernel, by decide +kernel⟩, List.mem_of_getElem? (i := 52) (by decide +kernel), List.mem_of_getElem? (i := 215) (by decide +kernel), List.mem_of_getElem? (i := 216) (by decide +kernel)⟩
theorem lw_p13 : lw_okq (⟨"WindingRaster$ClipPile", "runAt", "(I)I"⟩, 4) := ⟨⟨by decide +kernel, by decide +kernel⟩, List.mem_of_getElem? (i := 52) (by decide +kernel), List.mem_of_getElem? (i := 219) (by decide +kernel), List.mem_of_getElem? (i := 220) (by decide +kernel)⟩
theorem lw_p14 : lw_okq (⟨"WindingRaster$Outline", "windRow", "(I[I)Z"⟩, 5) := ⟨⟨by decide +kernel, by decide +kernel⟩, List.mem_of_getElem? (i := 28) (by decide +kernel), List.mem_of_getElem? (i := 226) (by decide +kernel), List.mem_of_getElem? (i := 227) (by decide +kernel)⟩
theorem lw_p15 : lw_okq (⟨"WindingRaster", "cutRun", "(II)V"⟩, 7) := ⟨⟨by decide +kernel, by decide +kernel⟩, List.mem_of_getElem? (i := 11) (by decide +kernel), List.mem_of_getElem? (i := 232) (by decide +kernel), List.mem_of_getElem? (i := 233) (by decide +kernel)⟩
def lw_privs_1 : List (MethodName × Nat) := [(⟨"WindingRaster$Outline", "isFull", "()Z"⟩, 5), (⟨"WindingRaster$Outline", "begin", "(II)V"⟩, 5), (⟨"WindingRaster$Outline", "addPoint", "(II)V"⟩, 5), (⟨"WindingRaster$Outline", "hasLine", "()Z"⟩, 5), (⟨"WindingRaster$Outline", "goOn", "(II)V"⟩, 5), (⟨"WindingRaster$Outline", "forget", "()V"⟩, 5), (⟨"WindingRaster", "hasPixel", "(II)Z"⟩, 7), (⟨"WindingRaster$Outline", "windingAt", "(II)I"⟩, 5), (⟨"WindingRaster$Outline", "stepAt", "(II)I"⟩, 5), (⟨"WindingRaster$Outline", "hasEdge", "(I)Z"⟩, 5), (⟨"WindingRaster$Outline", "firstColumn", "(II)I"⟩, 5), (⟨"WindingRaster", "cutClip", "(I)V"⟩, 7), (⟨"WindingRaster$ClipPile", "start", "()I"⟩, 4), (⟨"WindingRaster$ClipPile", "runAt", "(I)I"⟩, 4), (⟨"WindingRaster$Outline", "windRow", "(I[I)Z"⟩, 5), (⟨"WindingRaster", "cutRun", "(II)V"⟩, 7)]
theorem lw_r1 : ∀ q ∈ lw_privs_1, lw_okq q := List.forall_mem_cons.mpr ⟨lw_p0, List.forall_mem_cons.mpr ⟨lw_p1, List.forall_mem_cons.mpr ⟨lw_p2, List.forall_mem_cons.mpr ⟨lw_p3, List.forall_mem_cons.mpr ⟨lw_p4, List.forall_mem_cons.mpr ⟨lw_p5, List.forall_mem_cons.mpr ⟨lw_p6, List.forall_mem_cons.mpr ⟨lw_p7, List.forall_mem_cons.mpr ⟨lw_p8, List.forall_mem_cons.mpr ⟨lw_p9, List.forall_mem_cons.mpr ⟨lw_p10, List.forall_mem_cons.mpr ⟨lw_p11, List.forall_mem_cons.mpr ⟨lw_p12, List.forall_mem_cons.mpr ⟨lw_p13, List.forall_mem_cons.mpr ⟨lw_p14, List.forall_mem_cons.mpr ⟨lw_p15, fun _ h => absurd h List.not_mem_nil⟩⟩⟩⟩⟩⟩⟩⟩⟩⟩⟩⟩⟩⟩⟩⟩
theorem lw_p16 : lw_okq (⟨"WindingRaster$RunList", "add", "(I)V"⟩, 2) := ⟨⟨by decide +kernel, by decide +kernel⟩, List.mem_of_getElem? (i := 78) (by decide +kernel), List.mem_of_getElem? (i := 246) (by decide +kernel), List.mem_of_getElem? (i := 247) (by decide +kernel)⟩
theorem lw_p17 : lw_okq (⟨"WindingRaster", "paint", "([IIII)I"⟩, 7) := ⟨⟨by decide +kernel, by decide +kernel⟩, List.mem_of_getElem? (i := 11) (by decide +kernel), List.mem_of_getElem? (i := 250) (by decide +kernel), List.mem_of_getElem? (i := 251) (by decide +kernel)⟩
theorem lw_p18 : lw_okq (⟨"WindingRaster", "paintRun", "(II)V"⟩, 7) := ⟨⟨by decide +kernel, by decide +kernel⟩, List.mem_of_getElem? (i := 11) (by decide +kernel), List.mem_of_getElem? (i := 254) (by decide +kernel), List.mem_of_getElem? (i := 255) (by decide +kernel)⟩
theorem lw_p19 : lw_okq (⟨"WindingRaster$ClipPile", "replace", "(LWindingRaster$RunList;)Z"⟩, 4) := ⟨⟨by decide +kernel, by decide +kernel⟩, List.mem_of_getElem? (i := 52) (by decide +kernel), List.mem_of_getElem? (i := 267) (by decide +kernel), List.mem_of_getElem? (i := 268) (by decide +kernel)⟩
theorem lw_p20 : lw_okq (⟨"WindingRaster$ClipPile", "copyRuns", "([IIII)Z"⟩, 4) := ⟨⟨by decide +kernel, by decide +kernel⟩, List.mem_of_getElem? (i := 52) (by decide +kernel), List.mem_of_getElem? (i := 272) (by decide +kernel), List.mem_of_getElem? (i := 273) (by decide +kernel)⟩
theorem lw_p21 : lw_okq (⟨"WindingRaster$ClipPile", "pixelCount", "()I"⟩, 4) := ⟨⟨by decide +kernel, by decide +kernel⟩, List.mem_of_getElem? (i := 52) (by decide +kernel), List.mem_of_getElem? (i := 279) (by decide +kernel), List.mem_of_getElem? (i := 280) (by decide +kernel)⟩
theorem lw_p22 : lw_okq (⟨"WindingRaster$ClipPile", "push", "()Z"⟩, 4) := ⟨⟨by decide +kernel, by decide +kernel⟩, List.mem_of_getElem? (i := 52) (by decide +kernel), List.mem_of_getElem? (i := 289) (by decide +kernel), List.mem_of_getElem? (i := 290) (by decide +kernel)⟩
theorem lw_p23 : lw_okq (⟨"WindingRaster$ClipPile", "pop", "()Z"⟩, 4) := ⟨⟨by decide +kernel, by decide +kernel⟩, List.mem_of_getElem? (i := 52) (by decide +kernel), List.mem_of_getElem? (i := 297) (by decide +kernel), List.mem_of_getElem? (i := 298) (by decide +kernel)⟩
theorem lw_p24 : lw_okq (⟨"WindingRaster$ClipPile", "has", "(II)Z"⟩, 4) := ⟨⟨by decide +kernel, by decide +kernel⟩, List.mem_of_getElem? (i := 52) (by decide +kernel), List.mem_of_getElem? (i := 309) (by decide +kernel), List.mem_of_getElem? (i := 310) (by decide +kernel)⟩
theorem lw_p25 : lw_okq (⟨"WindingRasterModel", "put", "(III)I"⟩, 11) := ⟨⟨by decide +kernel, by decide +kernel⟩, List.mem_of_getElem? (i := 335) (by decide +kernel), List.mem_of_getElem? (i := 398) (by decide +kernel), List.mem_of_getElem? (i := 399) (by decide +kernel)⟩
theorem lw_p26 : lw_okq (⟨"WindingRasterModel", "isPixel", "(II)Z"⟩, 11) := ⟨⟨by decide +kernel, by decide +kernel⟩, List.mem_of_getElem? (i := 335) (by decide +kernel), List.mem_of_getElem? (i := 414) (by decide +kernel), List.mem_of_getElem? (i := 415) (by decide +kernel)⟩
theorem lw_p27 : lw_okq (⟨"WindingRasterModel", "meet", "(I)V"⟩, 11) := ⟨⟨by decide +kernel, by decide +kernel⟩, List.mem_of_getElem? (i := 335) (by decide +kernel), List.mem_of_getElem? (i := 418) (by decide +kernel), List.mem_of_getElem? (i := 419) (by decide +kernel)⟩
theorem lw_p28 : lw_okq (⟨"WindingRasterModel", "next", "(I)I"⟩, 11) := ⟨⟨by decide +kernel, by decide +kernel⟩, List.mem_of_getElem? (i := 335) (by decide +kernel), List.mem_of_getElem? (i := 427) (by decide +kernel), List.mem_of_getElem? (i := 428) (by decide +kernel)⟩
theorem lw_p29 : lw_okq (⟨"WindingRasterModel", "windings", "(II)I"⟩, 11) := ⟨⟨by decide +kernel, by decide +kernel⟩, List.mem_of_getElem? (i := 335) (by decide +kernel), List.mem_of_getElem? (i := 431) (by decide +kernel), List.mem_of_getElem? (i := 432) (by decide +kernel)⟩
theorem lw_p30 : lw_okq (⟨"WindingRasterModel", "isLeft", "(IJJ)Z"⟩, 11) := ⟨⟨by decide +kernel, by decide +kernel⟩, List.mem_of_getElem? (i := 335) (by decide +kernel), List.mem_of_getElem? (i := 435) (by decide +kernel), List.mem_of_getElem? (i := 436) (by decide +kernel)⟩
theorem lw_p31 : lw_okq (⟨"WindingRasterModel", "isOpen", "(II)Z"⟩, 11) := ⟨⟨by decide +kernel, by decide +kernel⟩, List.mem_of_getElem? (i := 335) (by decide +kernel), List.mem_of_getElem? (i := 446) (by decide +kernel), List.mem_of_getElem? (i := 447) (by decide +kernel)⟩
def lw_privs_2 : List (MethodName × Nat) := [(⟨"WindingRaster$RunList", "add", "(I)V"⟩, 2), (⟨"WindingRaster", "paint", "([IIII)I"⟩, 7), (⟨"WindingRaster", "paintRun", "(II)V"⟩, 7), (⟨"WindingRaster$ClipPile", "replace", "(LWindingRaster$RunList;)Z"⟩, 4), (⟨"WindingRaster$ClipPile", "copyRuns", "([IIII)Z"⟩, 4), (⟨"WindingRaster$ClipPile", "pixelCount", "()I"⟩, 4), (⟨"WindingRaster$ClipPile", "push", "()Z"⟩, 4), (⟨"WindingRaster$ClipPile", "pop", "()Z"⟩, 4), (⟨"WindingRaster$ClipPile", "has", "(II)Z"⟩, 4), (⟨"WindingRasterModel", "put", "(III)I"⟩, 11), (⟨"WindingRasterModel", "isPixel", "(II)Z"⟩, 11), (⟨"WindingRasterModel", "meet", "(I)V"⟩, 11), (⟨"WindingRasterModel", "next", "(I)I"⟩, 11), (⟨"WindingRasterModel", "windings", "(II)I"⟩, 11), (⟨"WindingRasterModel", "isLeft", "(IJJ)Z"⟩, 11), (⟨"WindingRasterModel", "isOpen", "(II)Z"⟩, 11)]
theorem lw_r2 : ∀ q ∈ lw_privs_2, lw_okq q := List.forall_mem_cons.mpr ⟨lw_p16, List.forall_mem_cons.mpr ⟨lw_p17, List.forall_mem_cons.mpr ⟨lw_p18, List.forall_mem_cons.mpr ⟨lw_p19, List.forall_mem_cons.mpr ⟨lw_p20, List.forall_mem_cons.mpr ⟨lw_p21, List.forall_mem_cons.mpr ⟨lw_p22, List.forall_mem_cons.mpr ⟨lw_p23, List.forall_mem_cons.mpr ⟨lw_p24, List.forall_mem_cons.mpr ⟨lw_p25, List.forall_mem_cons.mpr ⟨lw_p26, List.forall_mem_cons.mpr ⟨lw_p27, List.forall_mem_cons.mpr ⟨lw_p28, List.forall_mem_cons.mpr ⟨lw_p29, List.forall_mem_cons.mpr ⟨lw_p30, List.forall_mem_cons.mpr ⟨lw_p31, fun _ h => absurd h List.not_mem_nil⟩⟩⟩⟩⟩⟩⟩⟩⟩⟩⟩⟩⟩⟩⟩⟩
theorem lw_p32 : lw_okq (⟨"WindingRasterModel", "setOpen", "(IIZ)V"⟩, 11) := ⟨⟨by decide +kernel, by decide +kernel⟩, List.mem_of_getElem? (i := 335) (by decide +kernel), List.mem_of_getElem? (i := 457) (by decide +kernel), List.mem_of_getElem? (i := 458) (by decide +kernel)⟩
theorem lw_p33 : lw_okq (⟨"WindingRasterModel", "runsTo", "(I)I"⟩, 11) := ⟨⟨by decide +kernel, by decide +kernel⟩, List.mem_of_getElem? (i := 335) (by decide +kernel), List.mem_of_getElem? (i := 461) (by decide +kernel), List.mem_of_getElem? (i := 462) (by decide +kernel)⟩
theorem lw_p34 : lw_okq (⟨"WindingRasterModel", "runsOf", "(I)I"⟩, 11) := ⟨⟨by decide +kernel, by decide +kernel⟩, List.mem_of_getElem? (i := 335) (by decide +kernel), List.mem_of_getElem? (i := 465) (by decide +kernel), List.mem_of_getElem? (i := 466) (by decide +kernel)⟩
def lw_privs_3 : List (MethodName × Nat) := [(⟨"WindingRasterModel", "setOpen", "(IIZ)V"⟩, 11), (⟨"WindingRasterModel", "runsTo", "(I)I"⟩, 11), (⟨"WindingRasterModel", "runsOf", "(I)I"⟩, 11)]
theorem lw_r3 : ∀ q ∈ lw_privs_3, lw_okq q := List.forall_mem_cons.mpr ⟨lw_p32, List.forall_mem_cons.mpr ⟨lw_p33, List.forall_mem_cons.mpr ⟨lw_p34, fun _ h => absurd h List.not_mem_nil⟩⟩⟩
def lw_privs : List (MethodName × Nat) := lw_privs_1 ++ (lw_privs_2 ++ (lw_privs_3))
def lw_tbl : List Cond := k2_sels lw_privs ++ tables_1
theorem lw_privs_ok : ∀ q ∈ lw_privs, lw_okq q := by
  show ∀ q ∈ lw_privs_1 ++ (lw_privs_2 ++ (lw_privs_3)), lw_okq q
  exact List.forall_mem_append.mpr ⟨lw_r1, List.forall_mem_append.mpr ⟨lw_r2, lw_r3⟩⟩
-- names, by a program out of claim/Statement.lean and claim/JAVAP.txt
abbrev bW_init : ByteArray := prog_1_method_1_code
def yW_init : MethodName := ⟨"WindingRaster", "<init>", "(II)V"⟩
abbrev bJM_min : ByteArray := prog_8_method_69_code
def yJM_min : MethodName := ⟨"java/lang/Math", "min", "(II)I"⟩
abbrev bJM_max : ByteArray := prog_8_method_65_code
def yJM_max : MethodName := ⟨"java/lang/Math", "max", "(II)I"⟩
abbrev bJA_fill : ByteArray := prog_10_method_103_code
def yJA_fill : MethodName := ⟨"java/util/Arrays", "fill", "([II)V"⟩
abbrev bO_init : ByteArray := prog_3_method_1_code
def yO_init : MethodName := ⟨"WindingRaster$Outline", "<init>", "()V"⟩
abbrev bC_init : ByteArray := prog_2_method_1_code
def yC_init : MethodName := ⟨"WindingRaster$ClipPile", "<init>", "(II)V"⟩
abbrev bR_of : ByteArray := prog_4_method_2_code
def yR_of : MethodName := ⟨"WindingRaster$Run", "of", "(III)I"⟩
abbrev bL_init : ByteArray := prog_5_method_1_code
def yL_init : MethodName := ⟨"WindingRaster$RunList", "<init>", "(I)V"⟩
abbrev bW_columns : ByteArray := prog_1_method_2_code
def yW_columns : MethodName := ⟨"WindingRaster", "columns", "()I"⟩
abbrev bW_rows : ByteArray := prog_1_method_3_code
def yW_rows : MethodName := ⟨"WindingRaster", "rows", "()I"⟩
abbrev bW_move : ByteArray := prog_1_method_4_code
def yW_move : MethodName := ⟨"WindingRaster", "move", "(II)I"⟩
abbrev bW_isPlace : ByteArray := prog_1_method_18_code
def yW_isPlace : MethodName := ⟨"WindingRaster", "isPlace", "(I)Z"⟩
abbrev bO_isFull : ByteArray := prog_3_method_2_code
def yO_isFull : MethodName := ⟨"WindingRaster$Outline", "isFull", "()Z"⟩
abbrev bO_begin : ByteArray := prog_3_method_4_code
def yO_begin : MethodName := ⟨"WindingRaster$Outline", "begin", "(II)V"⟩
abbrev bO_addPoint : ByteArray := prog_3_method_6_code
def yO_addPoint : MethodName := ⟨"WindingRaster$Outline", "addPoint", "(II)V"⟩
abbrev bW_line : ByteArray := prog_1_method_5_code
def yW_line : MethodName := ⟨"WindingRaster", "line", "(II)I"⟩
abbrev bO_hasLine : ByteArray := prog_3_method_3_code
def yO_hasLine : MethodName := ⟨"WindingRaster$Outline", "hasLine", "()Z"⟩
abbrev bO_goOn : ByteArray := prog_3_method_5_code
def yO_goOn : MethodName := ⟨"WindingRaster$Outline", "goOn", "(II)V"⟩
abbrev bW_clear : ByteArray := prog_1_method_6_code
def yW_clear : MethodName := ⟨"WindingRaster", "clear", "()I"⟩
abbrev bO_forget : ByteArray := prog_3_method_7_code
def yO_forget : MethodName := ⟨"WindingRaster$Outline", "forget", "()V"⟩
abbrev bW_winding : ByteArray := prog_1_method_7_code
def yW_winding : MethodName := ⟨"WindingRaster", "winding", "(II)I"⟩
abbrev bW_hasPixel : ByteArray := prog_1_method_22_code
def yW_hasPixel : MethodName := ⟨"WindingRaster", "hasPixel", "(II)Z"⟩
abbrev bO_windingAt : ByteArray := prog_3_method_8_code
def yO_windingAt : MethodName := ⟨"WindingRaster$Outline", "windingAt", "(II)I"⟩
abbrev bO_centreOf : ByteArray := prog_3_method_10_code
def yO_centreOf : MethodName := ⟨"WindingRaster$Outline", "centreOf", "(I)I"⟩
abbrev bO_stepAt : ByteArray := prog_3_method_12_code
def yO_stepAt : MethodName := ⟨"WindingRaster$Outline", "stepAt", "(II)I"⟩
abbrev bO_hasEdge : ByteArray := prog_3_method_11_code
def yO_hasEdge : MethodName := ⟨"WindingRaster$Outline", "hasEdge", "(I)Z"⟩
abbrev bO_firstColumn : ByteArray := prog_3_method_13_code
def yO_firstColumn : MethodName := ⟨"WindingRaster$Outline", "firstColumn", "(II)I"⟩
abbrev bJM_floorDiv : ByteArray := prog_8_method_49_code
def yJM_floorDiv : MethodName := ⟨"java/lang/Math", "floorDiv", "(JJ)J"⟩
abbrev bW_fill : ByteArray := prog_1_method_8_code
def yW_fill : MethodName := ⟨"WindingRaster", "fill", "(II)I"⟩
abbrev bW_isRule : ByteArray := prog_1_method_19_code
def yW_isRule : MethodName := ⟨"WindingRaster", "isRule", "(I)Z"⟩
abbrev bW_isGray : ByteArray := prog_1_method_20_code
def yW_isGray : MethodName := ⟨"WindingRaster", "isGray", "(I)Z"⟩
abbrev bW_cutClip : ByteArray := prog_1_method_23_code
def yW_cutClip : MethodName := ⟨"WindingRaster", "cutClip", "(I)V"⟩
abbrev bC_start : ByteArray := prog_2_method_2_code
def yC_start : MethodName := ⟨"WindingRaster$ClipPile", "start", "()I"⟩
abbrev bC_runAt : ByteArray := prog_2_method_3_code
def yC_runAt : MethodName := ⟨"WindingRaster$ClipPile", "runAt", "(I)I"⟩
abbrev bR_rowOf : ByteArray := prog_4_method_3_code
def yR_rowOf : MethodName := ⟨"WindingRaster$Run", "rowOf", "(I)I"⟩
abbrev bO_windRow : ByteArray := prog_3_method_9_code
def yO_windRow : MethodName := ⟨"WindingRaster$Outline", "windRow", "(I[I)Z"⟩
abbrev bW_cutRun : ByteArray := prog_1_method_24_code
def yW_cutRun : MethodName := ⟨"WindingRaster", "cutRun", "(II)V"⟩
abbrev bR_endOf : ByteArray := prog_4_method_5_code
def yR_endOf : MethodName := ⟨"WindingRaster$Run", "endOf", "(I)I"⟩
abbrev bR_fromOf : ByteArray := prog_4_method_4_code
def yR_fromOf : MethodName := ⟨"WindingRaster$Run", "fromOf", "(I)I"⟩
abbrev bW_isInside : ByteArray := prog_1_method_21_code
def yW_isInside : MethodName := ⟨"WindingRaster", "isInside", "(II)Z"⟩
abbrev bL_add : ByteArray := prog_5_method_2_code
def yL_add : MethodName := ⟨"WindingRaster$RunList", "add", "(I)V"⟩
abbrev bW_paint : ByteArray := prog_1_method_25_code
def yW_paint : MethodName := ⟨"WindingRaster", "paint", "([IIII)I"⟩
abbrev bW_paintRun : ByteArray := prog_1_method_26_code
def yW_paintRun : MethodName := ⟨"WindingRaster", "paintRun", "(II)V"⟩
abbrev bR_lengthOf : ByteArray := prog_4_method_6_code
def yR_lengthOf : MethodName := ⟨"WindingRaster$Run", "lengthOf", "(I)I"⟩
abbrev bW_clip : ByteArray := prog_1_method_9_code
def yW_clip : MethodName := ⟨"WindingRaster", "clip", "(I)I"⟩
abbrev bC_replace : ByteArray := prog_2_method_6_code
def yC_replace : MethodName := ⟨"WindingRaster$ClipPile", "replace", "(LWindingRaster$RunList;)Z"⟩
abbrev bC_copyRuns : ByteArray := prog_2_method_7_code
def yC_copyRuns : MethodName := ⟨"WindingRaster$ClipPile", "copyRuns", "([IIII)Z"⟩
abbrev bC_pixelCount : ByteArray := prog_2_method_9_code
def yC_pixelCount : MethodName := ⟨"WindingRaster$ClipPile", "pixelCount", "()I"⟩
abbrev bW_save : ByteArray := prog_1_method_10_code
def yW_save : MethodName := ⟨"WindingRaster", "save", "()I"⟩
abbrev bC_push : ByteArray := prog_2_method_4_code
def yC_push : MethodName := ⟨"WindingRaster$ClipPile", "push", "()Z"⟩
abbrev bW_restore : ByteArray := prog_1_method_11_code
def yW_restore : MethodName := ⟨"WindingRaster", "restore", "()I"⟩
abbrev bC_pop : ByteArray := prog_2_method_5_code
def yC_pop : MethodName := ⟨"WindingRaster$ClipPile", "pop", "()Z"⟩
abbrev bW_gray : ByteArray := prog_1_method_12_code
def yW_gray : MethodName := ⟨"WindingRaster", "gray", "(II)I"⟩
abbrev bW_open : ByteArray := prog_1_method_13_code
def yW_open : MethodName := ⟨"WindingRaster", "open", "(II)I"⟩
abbrev bC_has : ByteArray := prog_2_method_8_code
def yC_has : MethodName := ⟨"WindingRaster$ClipPile", "has", "(II)Z"⟩
abbrev bW_pixels : ByteArray := prog_1_method_14_code
def yW_pixels : MethodName := ⟨"WindingRaster", "pixels", "()I"⟩
abbrev bW_runs : ByteArray := prog_1_method_15_code
def yW_runs : MethodName := ⟨"WindingRaster", "runs", "()I"⟩
abbrev bW_count : ByteArray := prog_1_method_16_code
def yW_count : MethodName := ⟨"WindingRaster", "count", "(II)I"⟩
abbrev bW_flood : ByteArray := prog_1_method_17_code
def yW_flood : MethodName := ⟨"WindingRaster", "flood", "(I)I"⟩
abbrev bLW_cell : ByteArray := method_2_code
def yLW_cell : MethodName := ⟨"WindingRasterLaw", "cell", "([II)I"⟩
abbrev bM_init : ByteArray := prog_7_method_1_code
def yM_init : MethodName := ⟨"WindingRasterModel", "<init>", "(II)V"⟩
abbrev bM_side : ByteArray := prog_7_method_2_code
def yM_side : MethodName := ⟨"WindingRasterModel", "side", "(I)I"⟩
abbrev bM_columns : ByteArray := prog_7_method_3_code
def yM_columns : MethodName := ⟨"WindingRasterModel", "columns", "()I"⟩
abbrev bM_rows : ByteArray := prog_7_method_4_code
def yM_rows : MethodName := ⟨"WindingRasterModel", "rows", "()I"⟩
abbrev bM_move : ByteArray := prog_7_method_7_code
def yM_move : MethodName := ⟨"WindingRasterModel", "move", "(II)I"⟩
abbrev bM_isPlace : ByteArray := prog_7_method_5_code
def yM_isPlace : MethodName := ⟨"WindingRasterModel", "isPlace", "(I)Z"⟩
abbrev bM_put : ByteArray := prog_7_method_6_code
def yM_put : MethodName := ⟨"WindingRasterModel", "put", "(III)I"⟩
abbrev bM_line : ByteArray := prog_7_method_8_code
def yM_line : MethodName := ⟨"WindingRasterModel", "line", "(II)I"⟩
abbrev bM_clear : ByteArray := prog_7_method_9_code
def yM_clear : MethodName := ⟨"WindingRasterModel", "clear", "()I"⟩
abbrev bM_winding : ByteArray := prog_7_method_17_code
def yM_winding : MethodName := ⟨"WindingRasterModel", "winding", "(II)I"⟩
abbrev bM_isPixel : ByteArray := prog_7_method_15_code
def yM_isPixel : MethodName := ⟨"WindingRasterModel", "isPixel", "(II)Z"⟩
abbrev bM_meet : ByteArray := prog_7_method_12_code
def yM_meet : MethodName := ⟨"WindingRasterModel", "meet", "(I)V"⟩
abbrev bM_centre : ByteArray := prog_7_method_11_code
def yM_centre : MethodName := ⟨"WindingRasterModel", "centre", "(I)J"⟩
abbrev bM_next : ByteArray := prog_7_method_10_code
def yM_next : MethodName := ⟨"WindingRasterModel", "next", "(I)I"⟩
abbrev bM_windings : ByteArray := prog_7_method_14_code
def yM_windings : MethodName := ⟨"WindingRasterModel", "windings", "(II)I"⟩
abbrev bM_isLeft : ByteArray := prog_7_method_13_code
def yM_isLeft : MethodName := ⟨"WindingRasterModel", "isLeft", "(IJJ)Z"⟩
abbrev bM_fill : ByteArray := prog_7_method_23_code
def yM_fill : MethodName := ⟨"WindingRasterModel", "fill", "(II)I"⟩
abbrev bM_at : ByteArray := prog_7_method_16_code
def yM_at : MethodName := ⟨"WindingRasterModel", "at", "(II)I"⟩
abbrev bM_isOpen : ByteArray := prog_7_method_19_code
def yM_isOpen : MethodName := ⟨"WindingRasterModel", "isOpen", "(II)Z"⟩
abbrev bM_isInside : ByteArray := prog_7_method_18_code
def yM_isInside : MethodName := ⟨"WindingRasterModel", "isInside", "(II)Z"⟩
abbrev bM_clip : ByteArray := prog_7_method_24_code
def yM_clip : MethodName := ⟨"WindingRasterModel", "clip", "(I)I"⟩
abbrev bM_setOpen : ByteArray := prog_7_method_20_code
def yM_setOpen : MethodName := ⟨"WindingRasterModel", "setOpen", "(IIZ)V"⟩
abbrev bM_runsTo : ByteArray := prog_7_method_22_code
def yM_runsTo : MethodName := ⟨"WindingRasterModel", "runsTo", "(I)I"⟩
abbrev bM_runsOf : ByteArray := prog_7_method_21_code
def yM_runsOf : MethodName := ⟨"WindingRasterModel", "runsOf", "(I)I"⟩
abbrev bM_pixels : ByteArray := prog_7_method_29_code
def yM_pixels : MethodName := ⟨"WindingRasterModel", "pixels", "()I"⟩
abbrev bM_save : ByteArray := prog_7_method_25_code
def yM_save : MethodName := ⟨"WindingRasterModel", "save", "()I"⟩
abbrev bM_restore : ByteArray := prog_7_method_26_code
def yM_restore : MethodName := ⟨"WindingRasterModel", "restore", "()I"⟩
abbrev bM_gray : ByteArray := prog_7_method_27_code
def yM_gray : MethodName := ⟨"WindingRasterModel", "gray", "(II)I"⟩
abbrev bM_open : ByteArray := prog_7_method_28_code
def yM_open : MethodName := ⟨"WindingRasterModel", "open", "(II)I"⟩
abbrev bM_runs : ByteArray := prog_7_method_30_code
def yM_runs : MethodName := ⟨"WindingRasterModel", "runs", "()I"⟩
abbrev bM_count : ByteArray := prog_7_method_31_code
def yM_count : MethodName := ⟨"WindingRasterModel", "count", "(II)I"⟩
abbrev bM_flood : ByteArray := prog_7_method_32_code
def yM_flood : MethodName := ⟨"WindingRasterModel", "flood", "(I)I"⟩
def TW : u_T := fun k => match k with
  | 0 => ("WindingRaster", "columns", "I", true)
  | 1 => ("WindingRaster", "rows", "I", true)
  | 2 => ("WindingRaster", "grays", "[I", true)
  | 3 => ("WindingRaster", "outline", "LWindingRaster$Outline;", true)
  | 4 => ("WindingRaster", "clips", "LWindingRaster$ClipPile;", true)
  | 5 => ("WindingRaster", "windings", "[I", true)
  | _ => ("WindingRaster", "pieces", "LWindingRaster$RunList;", true)
def tW : Nat → FieldType := fun k => match k with
  | 0 => .int
  | 1 => .int
  | 2 => (.array .int)
  | 3 => (.object "WindingRaster$Outline")
  | 4 => (.object "WindingRaster$ClipPile")
  | 5 => (.array .int)
  | _ => (.object "WindingRaster$RunList")
abbrev wsW : List Cond := u_ws "WindingRaster" TW 7
theorem nW : ∀ a, a < 7 → ∀ b, b < 7 → a ≠ b → (TW a).2.1 ≠ (TW b).2.1 := by decide +kernel
theorem tW_ok : ∀ k, k < 7 → parseFieldDescriptor (TW k).2.2.1 = some (tW k) := by decide +kernel
def TO : u_T := fun k => match k with
  | 0 => ("WindingRaster$Outline", "xs", "[I", true)
  | 1 => ("WindingRaster$Outline", "ys", "[I", true)
  | 2 => ("WindingRaster$Outline", "next", "[I", true)
  | 3 => ("WindingRaster$Outline", "size", "I", false)
  | _ => ("WindingRaster$Outline", "lineStart", "I", false)
def tO : Nat → FieldType := fun k => match k with
  | 0 => (.array .int)
  | 1 => (.array .int)
  | 2 => (.array .int)
  | 3 => .int
  | _ => .int
abbrev wsO : List Cond := u_ws "WindingRaster$Outline" TO 5
theorem nO : ∀ a, a < 5 → ∀ b, b < 5 → a ≠ b → (TO a).2.1 ≠ (TO b).2.1 := by decide +kernel
theorem tO_ok : ∀ k, k < 5 → parseFieldDescriptor (TO k).2.2.1 = some (tO k) := by decide +kernel
def TC : u_T := fun k => match k with
  | 0 => ("WindingRaster$ClipPile", "items", "[I", true)
  | 1 => ("WindingRaster$ClipPile", "starts", "[I", true)
  | 2 => ("WindingRaster$ClipPile", "saved", "I", false)
  | _ => ("WindingRaster$ClipPile", "end", "I", false)
def tC : Nat → FieldType := fun k => match k with
  | 0 => (.array .int)
  | 1 => (.array .int)
  | 2 => .int
  | _ => .int
abbrev wsC : List Cond := u_ws "WindingRaster$ClipPile" TC 4
theorem nC : ∀ a, a < 4 → ∀ b, b < 4 → a ≠ b → (TC a).2.1 ≠ (TC b).2.1 := by decide +kernel
theorem tC_ok : ∀ k, k < 4 → parseFieldDescriptor (TC k).2.2.1 = some (tC k) := by decide +kernel
def TL : u_T := fun k => match k with
  | 0 => ("WindingRaster$RunList", "items", "[I", true)
  | _ => ("WindingRaster$RunList", "size", "I", false)
def tL : Nat → FieldType := fun k => match k with
  | 0 => (.array .int)
  | _ => .int
abbrev wsL : List Cond := u_ws "WindingRaster$RunList" TL 2
theorem nL : ∀ a, a < 2 → ∀ b, b < 2 → a ≠ b → (TL a).2.1 ≠ (TL b).2.1 := by decide +kernel
theorem tL_ok : ∀ k, k < 2 → parseFieldDescriptor (TL k).2.2.1 = some (tL k) := by decide +kernel
def TM : u_T := fun k => match k with
  | 0 => ("WindingRasterModel", "columns", "I", true)
  | 1 => ("WindingRasterModel", "rows", "I", true)
  | 2 => ("WindingRasterModel", "grays", "[B", true)
  | 3 => ("WindingRasterModel", "masks", "[S", true)
  | 4 => ("WindingRasterModel", "saved", "I", false)
  | 5 => ("WindingRasterModel", "xs", "[I", true)
  | 6 => ("WindingRasterModel", "ys", "[I", true)
  | 7 => ("WindingRasterModel", "firsts", "[I", true)
  | 8 => ("WindingRasterModel", "points", "I", false)
  | 9 => ("WindingRasterModel", "met", "[I", true)
  | _ => ("WindingRasterModel", "meets", "I", false)
def tM : Nat → FieldType := fun k => match k with
  | 0 => .int
  | 1 => .int
  | 2 => (.array .byte)
  | 3 => (.array .short)
  | 4 => .int
  | 5 => (.array .int)
  | 6 => (.array .int)
  | 7 => (.array .int)
  | 8 => .int
  | 9 => (.array .int)
  | _ => .int
abbrev wsM : List Cond := u_ws "WindingRasterModel" TM 11
theorem nM : ∀ a, a < 11 → ∀ b, b < 11 → a ≠ b → (TM a).2.1 ≠ (TM b).2.1 := by decide +kernel
theorem tM_ok : ∀ k, k < 11 → parseFieldDescriptor (TM k).2.2.1 = some (tM k) := by decide +kernel
abbrev vwCl : List vw_C := [("WindingRaster", TW, 7), ("WindingRaster$Outline", TO, 5), ("WindingRaster$ClipPile", TC, 4), ("WindingRaster$RunList", TL, 2), ("WindingRasterModel", TM, 11)]
def vwTy (cA cB cS : ClassId) : List (ClassId × FieldType) := [(cA, .int), (cB, .byte), (cS, .short)]
def vwB : List Cond := lw_tbl.filter goodWord
theorem vwB_good : vwB.all goodWord = true := List.all_eq_true.mpr (fun w h => (List.mem_filter.mp h).2)
theorem vwB_law : ∀ w ∈ vwB, w ∈ lw_tbl := fun w h => (List.mem_filter.mp h).1
theorem vwB_t {w : Cond} (i : Nat) (h : tables_1[i]? = some w) (hg : goodWord w = true) : w ∈ vwB := List.mem_filter.mpr ⟨List.mem_append_right _ (List.mem_of_getElem? h), hg⟩
theorem vwB_p {w : Cond} (i : Nat) (h : (k2_sels lw_privs)[i]? = some w) (hg : goodWord w = true) : w ∈ vwB := List.mem_filter.mpr ⟨List.mem_append_left _ (List.mem_of_getElem? h), hg⟩
def vwNw : List Cond := [Cond.methodLinkNest "WindingRaster" 37 ⟨"WindingRaster$Outline", "<init>", "()V"⟩ "WindingRaster", Cond.fieldLinkNest "WindingRaster" 74 "WindingRaster$Outline" "size" "I" "WindingRaster", Cond.methodLinkNest "WindingRaster" 44 ⟨"WindingRaster$ClipPile", "<init>", "(II)V"⟩ "WindingRaster", Cond.methodLinkNest "WindingRaster$ClipPile" 18 ⟨"WindingRaster$Run", "of", "(III)I"⟩ "WindingRaster", Cond.fieldLinkNest "WindingRaster" 133 "WindingRaster$ClipPile" "items" "[I" "WindingRaster", Cond.fieldLinkNest "WindingRaster" 121 "WindingRaster$ClipPile" "saved" "I" "WindingRaster", Cond.fieldLinkNest "WindingRaster" 130 "WindingRaster$ClipPile" "end" "I" "WindingRaster", Cond.methodLinkNest "WindingRaster" 56 ⟨"WindingRaster$RunList", "<init>", "(I)V"⟩ "WindingRaster", Cond.fieldLinkNest "WindingRaster$ClipPile" 45 "WindingRaster$RunList" "items" "[I" "WindingRaster", Cond.fieldLinkNest "WindingRaster" 102 "WindingRaster$RunList" "items" "[I" "WindingRaster", Cond.fieldLinkNest "WindingRaster$ClipPile" 48 "WindingRaster$RunList" "size" "I" "WindingRaster", Cond.fieldLinkNest "WindingRaster" 105 "WindingRaster$RunList" "size" "I" "WindingRaster", Cond.methodLinkNest "WindingRaster" 67 ⟨"WindingRaster$Outline", "isFull", "()Z"⟩ "WindingRaster", Cond.methodLinkNest "WindingRaster" 71 ⟨"WindingRaster$Outline", "begin", "(II)V"⟩ "WindingRaster", Cond.methodLinkNest "WindingRaster" 77 ⟨"WindingRaster$Outline", "hasLine", "()Z"⟩ "WindingRaster", Cond.methodLinkNest "WindingRaster" 80 ⟨"WindingRaster$Outline", "goOn", "(II)V"⟩ "WindingRaster", Cond.methodLinkNest "WindingRaster" 83 ⟨"WindingRaster$Outline", "forget", "()V"⟩ "WindingRaster", Cond.methodLinkNest "WindingRaster" 90 ⟨"WindingRaster$Outline", "windingAt", "(II)I"⟩ "WindingRaster", Cond.methodLinkNest "WindingRaster" 134 ⟨"WindingRaster$ClipPile", "start", "()I"⟩ "WindingRaster", Cond.methodLinkNest "WindingRaster" 139 ⟨"WindingRaster$ClipPile", "runAt", "(I)I"⟩ "WindingRaster", Cond.methodLinkNest "WindingRaster" 143 ⟨"WindingRaster$Run", "rowOf", "(I)I"⟩ "WindingRaster", Cond.methodLinkNest "WindingRaster" 148 ⟨"WindingRaster$Outline", "windRow", "(I[I)Z"⟩ "WindingRaster", Cond.methodLinkNest "WindingRaster" 155 ⟨"WindingRaster$Run", "endOf", "(I)I"⟩ "WindingRaster", Cond.methodLinkNest "WindingRaster" 158 ⟨"WindingRaster$Run", "fromOf", "(I)I"⟩ "WindingRaster", Cond.methodLinkNest "WindingRaster" 164 ⟨"WindingRaster$Run", "of", "(III)I"⟩ "WindingRaster", Cond.methodLinkNest "WindingRaster" 168 ⟨"WindingRaster$RunList", "add", "(I)V"⟩ "WindingRaster", Cond.methodLinkNest "WindingRaster" 174 ⟨"WindingRaster$Run", "lengthOf", "(I)I"⟩ "WindingRaster", Cond.methodLinkNest "WindingRaster" 110 ⟨"WindingRaster$ClipPile", "replace", "(LWindingRaster$RunList;)Z"⟩ "WindingRaster", Cond.methodLinkNest "WindingRaster" 114 ⟨"WindingRaster$ClipPile", "pixelCount", "()I"⟩ "WindingRaster", Cond.methodLinkNest "WindingRaster$ClipPile" 70 ⟨"WindingRaster$Run", "lengthOf", "(I)I"⟩ "WindingRaster", Cond.methodLinkNest "WindingRaster" 118 ⟨"WindingRaster$ClipPile", "push", "()Z"⟩ "WindingRaster", Cond.methodLinkNest "WindingRaster" 124 ⟨"WindingRaster$ClipPile", "pop", "()Z"⟩ "WindingRaster", Cond.methodLinkNest "WindingRaster" 127 ⟨"WindingRaster$ClipPile", "has", "(II)Z"⟩ "WindingRaster", Cond.methodLinkNest "WindingRaster$ClipPile" 61 ⟨"WindingRaster$Run", "rowOf", "(I)I"⟩ "WindingRaster", Cond.methodLinkNest "WindingRaster$ClipPile" 64 ⟨"WindingRaster$Run", "fromOf", "(I)I"⟩ "WindingRaster", Cond.methodLinkNest "WindingRaster$ClipPile" 67 ⟨"WindingRaster$Run", "endOf", "(I)I"⟩ "WindingRaster"]
theorem vwNw_law : ∀ w ∈ vwNw, w ∈ lw_tbl := List.forall_mem_cons.mpr ⟨List.mem_append_right _ (List.mem_of_getElem? (i := 29) rfl), List.forall_mem_cons.mpr ⟨List.mem_append_right _ (List.mem_of_getElem? (i := 37) rfl), List.forall_mem_cons.mpr ⟨List.mem_append_right _ (List.mem_of_getElem? (i := 53) rfl), List.forall_mem_cons.mpr ⟨List.mem_append_right _ (List.mem_of_getElem? (i := 57) rfl), List.forall_mem_cons.mpr ⟨List.mem_append_right _ (List.mem_of_getElem? (i := 62) rfl), List.forall_mem_cons.mpr ⟨List.mem_append_right _ (List.mem_of_getElem? (i := 65) rfl), List.forall_mem_cons.mpr ⟨List.mem_append_right _ (List.mem_of_getElem? (i := 67) rfl), List.forall_mem_cons.mpr ⟨List.mem_append_right _ (List.mem_of_getElem? (i := 79) rfl), List.forall_mem_cons.mpr ⟨List.mem_append_right _ (List.mem_of_getElem? (i := 85) rfl), List.forall_mem_cons.mpr ⟨List.mem_append_right _ (List.mem_of_getElem? (i := 86) rfl), List.forall_mem_cons.mpr ⟨List.mem_append_right _ (List.mem_of_getElem? (i := 88) rfl), List.forall_mem_cons.mpr ⟨List.mem_append_right _ (List.mem_of_getElem? (i := 89) rfl), List.forall_mem_cons.mpr ⟨List.mem_append_right _ (List.mem_of_getElem? (i := 134) rfl), List.forall_mem_cons.mpr ⟨List.mem_append_right _ (List.mem_of_getElem? (i := 138) rfl), List.forall_mem_cons.mpr ⟨List.mem_append_right _ (List.mem_of_getElem? (i := 151) rfl), List.forall_mem_cons.mpr ⟨List.mem_append_right _ (List.mem_of_getElem? (i := 155) rfl), List.forall_mem_cons.mpr ⟨List.mem_append_right _ (List.mem_of_getElem? (i := 164) rfl), List.forall_mem_cons.mpr ⟨List.mem_append_right _ (List.mem_of_getElem? (i := 176) rfl), List.forall_mem_cons.mpr ⟨List.mem_append_right _ (List.mem_of_getElem? (i := 214) rfl), List.forall_mem_cons.mpr ⟨List.mem_append_right _ (List.mem_of_getElem? (i := 218) rfl), List.forall_mem_cons.mpr ⟨List.mem_append_right _ (List.mem_of_getElem? (i := 222) rfl), List.forall_mem_cons.mpr ⟨List.mem_append_right _ (List.mem_of_getElem? (i := 225) rfl), List.forall_mem_cons.mpr ⟨List.mem_append_right _ (List.mem_of_getElem? (i := 235) rfl), List.forall_mem_cons.mpr ⟨List.mem_append_right _ (List.mem_of_getElem? (i := 238) rfl), List.forall_mem_cons.mpr ⟨List.mem_append_right _ (List.mem_of_getElem? (i := 244) rfl), List.forall_mem_cons.mpr ⟨List.mem_append_right _ (List.mem_of_getElem? (i := 245) rfl), List.forall_mem_cons.mpr ⟨List.mem_append_right _ (List.mem_of_getElem? (i := 257) rfl), List.forall_mem_cons.mpr ⟨List.mem_append_right _ (List.mem_of_getElem? (i := 266) rfl), List.forall_mem_cons.mpr ⟨List.mem_append_right _ (List.mem_of_getElem? (i := 278) rfl), List.forall_mem_cons.mpr ⟨List.mem_append_right _ (List.mem_of_getElem? (i := 283) rfl), List.forall_mem_cons.mpr ⟨List.mem_append_right _ (List.mem_of_getElem? (i := 288) rfl), List.forall_mem_cons.mpr ⟨List.mem_append_right _ (List.mem_of_getElem? (i := 296) rfl), List.forall_mem_cons.mpr ⟨List.mem_append_right _ (List.mem_of_getElem? (i := 308) rfl), List.forall_mem_cons.mpr ⟨List.mem_append_right _ (List.mem_of_getElem? (i := 312) rfl), List.forall_mem_cons.mpr ⟨List.mem_append_right _ (List.mem_of_getElem? (i := 313) rfl), List.forall_mem_cons.mpr ⟨List.mem_append_right _ (List.mem_of_getElem? (i := 314) rfl), fun _ h => absurd h List.not_mem_nil⟩⟩⟩⟩⟩⟩⟩⟩⟩⟩⟩⟩⟩⟩⟩⟩⟩⟩⟩⟩⟩⟩⟩⟩⟩⟩⟩⟩⟩⟩⟩⟩⟩⟩⟩⟩
theorem gIn {c b : Cond} (h : c ∈ vwB) : GoodIn (b :: vwB) (c :: vwB) := fun w hw => by
  have hm : w ∈ vwB := (List.mem_cons.mp hw).elim (fun q => by rw [q]; exact h) id
  exact ⟨List.mem_cons_of_mem _ hm, good_of_word (List.all_eq_true.mp vwB_good w hm)⟩
theorem gInL {c : Cond} (h : c ∈ vwB) : GoodIn lw_tbl (c :: vwB) := fun w hw => by
  have hm : w ∈ vwB := (List.mem_cons.mp hw).elim (fun q => by rw [q]; exact h) id
  exact ⟨vwB_law w hm, good_of_word (List.all_eq_true.mp vwB_good w hm)⟩
theorem vm_0 : Cond.initialized "WindingRasterLaw" ∈ vwB := vwB_t 0 rfl rfl
theorem vm_1 : Cond.initialized "WindingRaster" ∈ vwB := vwB_t 1 rfl rfl
theorem vm_2 : Cond.initialized "java/lang/Math" ∈ vwB := vwB_t 2 rfl rfl
theorem vm_3 : Cond.initialized "java/util/Arrays" ∈ vwB := vwB_t 3 rfl rfl
theorem vm_4 : Cond.initialized "WindingRaster$Outline" ∈ vwB := vwB_t 4 rfl rfl
theorem vm_5 : Cond.initialized "WindingRaster$ClipPile" ∈ vwB := vwB_t 5 rfl rfl
theorem vm_6 : Cond.initialized "WindingRaster$Run" ∈ vwB := vwB_t 6 rfl rfl
theorem vm_7 : Cond.initialized "WindingRaster$RunList" ∈ vwB := vwB_t 7 rfl rfl
theorem vm_8 : Cond.initialized "WindingRasterModel" ∈ vwB := vwB_t 8 rfl rfl
theorem vm_9 : Cond.initialized "java/lang/System" ∈ vwB := vwB_t 9 rfl rfl
theorem vm_10 : Cond.classLink "WindingRasterLaw" 7 "WindingRaster" ∈ vwB := vwB_t 10 rfl rfl
theorem vm_11 : Cond.instantiable "WindingRaster" 7 ∈ vwB := vwB_t 11 rfl rfl
theorem vm_12 : Cond.methodLink "WindingRasterLaw" 15 ⟨"WindingRaster", "<init>", "(II)V"⟩ ∈ vwB := vwB_t 12 rfl rfl
theorem vm_13 : Cond.instanceMethod ⟨"WindingRaster", "<init>", "(II)V"⟩ ∈ vwB := vwB_t 13 rfl rfl
theorem vm_14 : Cond.code ⟨"WindingRaster", "<init>", "(II)V"⟩ prog_1_method_1_code 3 (Option.none : Option Jvm.ClassFile.FieldType) ∈ vwB := vwB_t 14 rfl rfl
theorem vm_15 : Cond.methodLink "WindingRaster" 1 ⟨"java/lang/Object", "<init>", "()V"⟩ ∈ vwB := vwB_t 15 rfl rfl
theorem vm_16 : Cond.instanceMethod ⟨"java/lang/Object", "<init>", "()V"⟩ ∈ vwB := vwB_t 16 rfl rfl
theorem vm_17 : Cond.code ⟨"java/lang/Object", "<init>", "()V"⟩ object_method_1_code 1 (Option.none : Option Jvm.ClassFile.FieldType) ∈ vwB := vwB_t 17 rfl rfl
theorem vm_18 : Cond.methodLink "WindingRaster" 9 ⟨"java/lang/Math", "min", "(II)I"⟩ ∈ vwB := vwB_t 18 rfl rfl
theorem vm_19 : Cond.static ⟨"java/lang/Math", "min", "(II)I"⟩ ∈ vwB := vwB_t 19 rfl rfl
theorem vm_20 : Cond.code ⟨"java/lang/Math", "min", "(II)I"⟩ prog_8_method_69_code 2 (Option.some Jvm.ClassFile.FieldType.int) ∈ vwB := vwB_t 20 rfl rfl
theorem vm_21 : Cond.methodLink "WindingRaster" 15 ⟨"java/lang/Math", "max", "(II)I"⟩ ∈ vwB := vwB_t 21 rfl rfl
theorem vm_22 : Cond.static ⟨"java/lang/Math", "max", "(II)I"⟩ ∈ vwB := vwB_t 22 rfl rfl
theorem vm_23 : Cond.code ⟨"java/lang/Math", "max", "(II)I"⟩ prog_8_method_65_code 2 (Option.some Jvm.ClassFile.FieldType.int) ∈ vwB := vwB_t 23 rfl rfl
theorem vm_24 : Cond.methodLink "WindingRaster" 29 ⟨"java/util/Arrays", "fill", "([II)V"⟩ ∈ vwB := vwB_t 24 rfl rfl
theorem vm_25 : Cond.static ⟨"java/util/Arrays", "fill", "([II)V"⟩ ∈ vwB := vwB_t 25 rfl rfl
theorem vm_26 : Cond.code ⟨"java/util/Arrays", "fill", "([II)V"⟩ prog_10_method_103_code 4 (Option.none : Option Jvm.ClassFile.FieldType) ∈ vwB := vwB_t 26 rfl rfl
theorem vm_27 : Cond.classLink "WindingRaster" 35 "WindingRaster$Outline" ∈ vwB := vwB_t 27 rfl rfl
theorem vm_28 : Cond.instantiable "WindingRaster$Outline" 5 ∈ vwB := vwB_t 28 rfl rfl
theorem vm_29 : Cond.instanceMethod ⟨"WindingRaster$Outline", "<init>", "()V"⟩ ∈ vwB := vwB_t 30 rfl rfl
theorem vm_30 : Cond.code ⟨"WindingRaster$Outline", "<init>", "()V"⟩ prog_3_method_1_code 1 (Option.none : Option Jvm.ClassFile.FieldType) ∈ vwB := vwB_t 31 rfl rfl
theorem vm_31 : Cond.methodLink "WindingRaster$Outline" 3 ⟨"java/lang/Object", "<init>", "()V"⟩ ∈ vwB := vwB_t 32 rfl rfl
theorem vm_32 : Cond.fieldLink "WindingRaster$Outline" 9 "WindingRaster$Outline" "xs" "[I" ∈ vwB := vwB_t 33 rfl rfl
theorem vm_33 : Cond.fieldLink "WindingRaster$Outline" 15 "WindingRaster$Outline" "ys" "[I" ∈ vwB := vwB_t 34 rfl rfl
theorem vm_34 : Cond.fieldLink "WindingRaster$Outline" 18 "WindingRaster$Outline" "next" "[I" ∈ vwB := vwB_t 35 rfl rfl
theorem vm_35 : Cond.fieldLink "WindingRaster$Outline" 21 "WindingRaster$Outline" "size" "I" ∈ vwB := vwB_t 36 rfl rfl
theorem vm_36 : Cond.fieldLink "WindingRaster$Outline" 25 "WindingRaster$Outline" "lineStart" "I" ∈ vwB := vwB_t 38 rfl rfl
theorem vm_37 : Cond.laysFinal "WindingRaster$Outline" "WindingRaster$Outline" "xs" "[I" ∈ vwB := vwB_t 39 rfl rfl
theorem vm_38 : Cond.laysFinal "WindingRaster$Outline" "WindingRaster$Outline" "ys" "[I" ∈ vwB := vwB_t 41 rfl rfl
theorem vm_39 : Cond.laysFinal "WindingRaster$Outline" "WindingRaster$Outline" "next" "[I" ∈ vwB := vwB_t 43 rfl rfl
theorem vm_40 : Cond.lays "WindingRaster$Outline" "WindingRaster$Outline" "size" "I" ∈ vwB := vwB_t 45 rfl rfl
theorem vm_41 : Cond.lays "WindingRaster$Outline" "WindingRaster$Outline" "lineStart" "I" ∈ vwB := vwB_t 47 rfl rfl
theorem vm_42 : Cond.arrayClass Jvm.ClassFile.FieldType.int ∈ vwB := vwB_t 50 rfl rfl
theorem vm_43 : Cond.classLink "WindingRaster" 42 "WindingRaster$ClipPile" ∈ vwB := vwB_t 51 rfl rfl
theorem vm_44 : Cond.instantiable "WindingRaster$ClipPile" 4 ∈ vwB := vwB_t 52 rfl rfl
theorem vm_45 : Cond.instanceMethod ⟨"WindingRaster$ClipPile", "<init>", "(II)V"⟩ ∈ vwB := vwB_t 54 rfl rfl
theorem vm_46 : Cond.code ⟨"WindingRaster$ClipPile", "<init>", "(II)V"⟩ prog_2_method_1_code 4 (Option.none : Option Jvm.ClassFile.FieldType) ∈ vwB := vwB_t 55 rfl rfl
theorem vm_47 : Cond.methodLink "WindingRaster$ClipPile" 3 ⟨"java/lang/Object", "<init>", "()V"⟩ ∈ vwB := vwB_t 56 rfl rfl
theorem vm_48 : Cond.static ⟨"WindingRaster$Run", "of", "(III)I"⟩ ∈ vwB := vwB_t 58 rfl rfl
theorem vm_49 : Cond.code ⟨"WindingRaster$Run", "of", "(III)I"⟩ prog_4_method_2_code 3 (Option.some Jvm.ClassFile.FieldType.int) ∈ vwB := vwB_t 59 rfl rfl
theorem vm_50 : Cond.methodLink "WindingRaster$ClipPile" 24 ⟨"java/lang/Math", "min", "(II)I"⟩ ∈ vwB := vwB_t 60 rfl rfl
theorem vm_51 : Cond.fieldLink "WindingRaster$ClipPile" 9 "WindingRaster$ClipPile" "items" "[I" ∈ vwB := vwB_t 61 rfl rfl
theorem vm_52 : Cond.fieldLink "WindingRaster$ClipPile" 15 "WindingRaster$ClipPile" "starts" "[I" ∈ vwB := vwB_t 63 rfl rfl
theorem vm_53 : Cond.fieldLink "WindingRaster$ClipPile" 34 "WindingRaster$ClipPile" "saved" "I" ∈ vwB := vwB_t 64 rfl rfl
theorem vm_54 : Cond.fieldLink "WindingRaster$ClipPile" 30 "WindingRaster$ClipPile" "end" "I" ∈ vwB := vwB_t 66 rfl rfl
theorem vm_55 : Cond.laysFinal "WindingRaster$ClipPile" "WindingRaster$ClipPile" "items" "[I" ∈ vwB := vwB_t 68 rfl rfl
theorem vm_56 : Cond.laysFinal "WindingRaster$ClipPile" "WindingRaster$ClipPile" "starts" "[I" ∈ vwB := vwB_t 70 rfl rfl
theorem vm_57 : Cond.lays "WindingRaster$ClipPile" "WindingRaster$ClipPile" "saved" "I" ∈ vwB := vwB_t 72 rfl rfl
theorem vm_58 : Cond.lays "WindingRaster$ClipPile" "WindingRaster$ClipPile" "end" "I" ∈ vwB := vwB_t 74 rfl rfl
theorem vm_59 : Cond.classLink "WindingRaster" 54 "WindingRaster$RunList" ∈ vwB := vwB_t 77 rfl rfl
theorem vm_60 : Cond.instantiable "WindingRaster$RunList" 2 ∈ vwB := vwB_t 78 rfl rfl
theorem vm_61 : Cond.instanceMethod ⟨"WindingRaster$RunList", "<init>", "(I)V"⟩ ∈ vwB := vwB_t 80 rfl rfl
theorem vm_62 : Cond.code ⟨"WindingRaster$RunList", "<init>", "(I)V"⟩ prog_5_method_1_code 2 (Option.none : Option Jvm.ClassFile.FieldType) ∈ vwB := vwB_t 81 rfl rfl
theorem vm_63 : Cond.methodLink "WindingRaster$RunList" 1 ⟨"java/lang/Object", "<init>", "()V"⟩ ∈ vwB := vwB_t 82 rfl rfl
theorem vm_64 : Cond.methodLink "WindingRaster$RunList" 7 ⟨"java/lang/Math", "max", "(II)I"⟩ ∈ vwB := vwB_t 83 rfl rfl
theorem vm_65 : Cond.fieldLink "WindingRaster$RunList" 13 "WindingRaster$RunList" "items" "[I" ∈ vwB := vwB_t 84 rfl rfl
theorem vm_66 : Cond.fieldLink "WindingRaster$RunList" 19 "WindingRaster$RunList" "size" "I" ∈ vwB := vwB_t 87 rfl rfl
theorem vm_67 : Cond.laysFinal "WindingRaster$RunList" "WindingRaster$RunList" "items" "[I" ∈ vwB := vwB_t 90 rfl rfl
theorem vm_68 : Cond.lays "WindingRaster$RunList" "WindingRaster$RunList" "size" "I" ∈ vwB := vwB_t 92 rfl rfl
theorem vm_69 : Cond.fieldLink "WindingRaster" 18 "WindingRaster" "columns" "I" ∈ vwB := vwB_t 95 rfl rfl
theorem vm_70 : Cond.fieldLink "WindingRaster" 22 "WindingRaster" "rows" "I" ∈ vwB := vwB_t 96 rfl rfl
theorem vm_71 : Cond.fieldLink "WindingRaster" 25 "WindingRaster" "grays" "[I" ∈ vwB := vwB_t 97 rfl rfl
theorem vm_72 : Cond.fieldLink "WindingRaster" 38 "WindingRaster" "outline" "LWindingRaster$Outline;" ∈ vwB := vwB_t 98 rfl rfl
theorem vm_73 : Cond.fieldLink "WindingRaster" 47 "WindingRaster" "clips" "LWindingRaster$ClipPile;" ∈ vwB := vwB_t 99 rfl rfl
theorem vm_74 : Cond.fieldLink "WindingRaster" 51 "WindingRaster" "windings" "[I" ∈ vwB := vwB_t 100 rfl rfl
theorem vm_75 : Cond.fieldLink "WindingRaster" 59 "WindingRaster" "pieces" "LWindingRaster$RunList;" ∈ vwB := vwB_t 101 rfl rfl
theorem vm_76 : Cond.laysFinal "WindingRaster" "WindingRaster" "columns" "I" ∈ vwB := vwB_t 102 rfl rfl
theorem vm_77 : Cond.laysFinal "WindingRaster" "WindingRaster" "rows" "I" ∈ vwB := vwB_t 104 rfl rfl
theorem vm_78 : Cond.laysFinal "WindingRaster" "WindingRaster" "grays" "[I" ∈ vwB := vwB_t 106 rfl rfl
theorem vm_79 : Cond.laysFinal "WindingRaster" "WindingRaster" "outline" "LWindingRaster$Outline;" ∈ vwB := vwB_t 108 rfl rfl
theorem vm_80 : Cond.laysFinal "WindingRaster" "WindingRaster" "clips" "LWindingRaster$ClipPile;" ∈ vwB := vwB_t 110 rfl rfl
theorem vm_81 : Cond.laysFinal "WindingRaster" "WindingRaster" "windings" "[I" ∈ vwB := vwB_t 112 rfl rfl
theorem vm_82 : Cond.laysFinal "WindingRaster" "WindingRaster" "pieces" "LWindingRaster$RunList;" ∈ vwB := vwB_t 114 rfl rfl
theorem vm_83 : Cond.methodLink "WindingRasterLaw" 21 ⟨"WindingRaster", "columns", "()I"⟩ ∈ vwB := vwB_t 117 rfl rfl
theorem vm_84 : Cond.instanceMethod ⟨"WindingRaster", "columns", "()I"⟩ ∈ vwB := vwB_t 118 rfl rfl
theorem vm_85 : Cond.selects "WindingRaster" ⟨"WindingRaster", "columns", "()I"⟩ ⟨"WindingRaster", "columns", "()I"⟩ ∈ vwB := vwB_t 119 rfl rfl
theorem vm_86 : Cond.code ⟨"WindingRaster", "columns", "()I"⟩ prog_1_method_2_code 1 (Option.some Jvm.ClassFile.FieldType.int) ∈ vwB := vwB_t 120 rfl rfl
theorem vm_87 : Cond.methodLink "WindingRasterLaw" 26 ⟨"WindingRaster", "rows", "()I"⟩ ∈ vwB := vwB_t 121 rfl rfl
theorem vm_88 : Cond.instanceMethod ⟨"WindingRaster", "rows", "()I"⟩ ∈ vwB := vwB_t 122 rfl rfl
theorem vm_89 : Cond.selects "WindingRaster" ⟨"WindingRaster", "rows", "()I"⟩ ⟨"WindingRaster", "rows", "()I"⟩ ∈ vwB := vwB_t 123 rfl rfl
theorem vm_90 : Cond.code ⟨"WindingRaster", "rows", "()I"⟩ prog_1_method_3_code 1 (Option.some Jvm.ClassFile.FieldType.int) ∈ vwB := vwB_t 124 rfl rfl
theorem vm_91 : Cond.methodLink "WindingRasterLaw" 30 ⟨"WindingRaster", "move", "(II)I"⟩ ∈ vwB := vwB_t 125 rfl rfl
theorem vm_92 : Cond.instanceMethod ⟨"WindingRaster", "move", "(II)I"⟩ ∈ vwB := vwB_t 126 rfl rfl
theorem vm_93 : Cond.selects "WindingRaster" ⟨"WindingRaster", "move", "(II)I"⟩ ⟨"WindingRaster", "move", "(II)I"⟩ ∈ vwB := vwB_t 127 rfl rfl
theorem vm_94 : Cond.code ⟨"WindingRaster", "move", "(II)I"⟩ prog_1_method_4_code 3 (Option.some Jvm.ClassFile.FieldType.int) ∈ vwB := vwB_t 128 rfl rfl
theorem vm_95 : Cond.methodLink "WindingRaster" 63 ⟨"WindingRaster", "isPlace", "(I)Z"⟩ ∈ vwB := vwB_t 129 rfl rfl
theorem vm_96 : Cond.static ⟨"WindingRaster", "isPlace", "(I)Z"⟩ ∈ vwB := vwB_t 130 rfl rfl
theorem vm_97 : Cond.code ⟨"WindingRaster", "isPlace", "(I)Z"⟩ prog_1_method_18_code 1 (Option.some Jvm.ClassFile.FieldType.boolean) ∈ vwB := vwB_t 131 rfl rfl
theorem vm_98 : Cond.constant "WindingRaster" 137 (-536870912 : Int32) ∈ vwB := vwB_t 132 rfl rfl
theorem vm_99 : Cond.constant "WindingRaster" 138 (536870912 : Int32) ∈ vwB := vwB_t 133 rfl rfl
theorem vm_100 : Cond.instanceMethod ⟨"WindingRaster$Outline", "isFull", "()Z"⟩ ∈ vwB := vwB_t 136 rfl rfl
theorem vm_101 : Cond.code ⟨"WindingRaster$Outline", "isFull", "()Z"⟩ prog_3_method_2_code 1 (Option.some Jvm.ClassFile.FieldType.boolean) ∈ vwB := vwB_t 137 rfl rfl
theorem vm_102 : Cond.instanceMethod ⟨"WindingRaster$Outline", "begin", "(II)V"⟩ ∈ vwB := vwB_t 140 rfl rfl
theorem vm_103 : Cond.code ⟨"WindingRaster$Outline", "begin", "(II)V"⟩ prog_3_method_4_code 3 (Option.none : Option Jvm.ClassFile.FieldType) ∈ vwB := vwB_t 141 rfl rfl
theorem vm_104 : Cond.methodLink "WindingRaster$Outline" 28 ⟨"WindingRaster$Outline", "addPoint", "(II)V"⟩ ∈ vwB := vwB_t 142 rfl rfl
theorem vm_105 : Cond.instanceMethod ⟨"WindingRaster$Outline", "addPoint", "(II)V"⟩ ∈ vwB := vwB_t 144 rfl rfl
theorem vm_106 : Cond.code ⟨"WindingRaster$Outline", "addPoint", "(II)V"⟩ prog_3_method_6_code 3 (Option.none : Option Jvm.ClassFile.FieldType) ∈ vwB := vwB_t 145 rfl rfl
theorem vm_107 : Cond.methodLink "WindingRaster$Outline" 36 ⟨"WindingRaster$Outline", "isFull", "()Z"⟩ ∈ vwB := vwB_t 146 rfl rfl
theorem vm_108 : Cond.methodLink "WindingRasterLaw" 35 ⟨"WindingRaster", "line", "(II)I"⟩ ∈ vwB := vwB_t 147 rfl rfl
theorem vm_109 : Cond.instanceMethod ⟨"WindingRaster", "line", "(II)I"⟩ ∈ vwB := vwB_t 148 rfl rfl
theorem vm_110 : Cond.selects "WindingRaster" ⟨"WindingRaster", "line", "(II)I"⟩ ⟨"WindingRaster", "line", "(II)I"⟩ ∈ vwB := vwB_t 149 rfl rfl
theorem vm_111 : Cond.code ⟨"WindingRaster", "line", "(II)I"⟩ prog_1_method_5_code 3 (Option.some Jvm.ClassFile.FieldType.int) ∈ vwB := vwB_t 150 rfl rfl
theorem vm_112 : Cond.instanceMethod ⟨"WindingRaster$Outline", "hasLine", "()Z"⟩ ∈ vwB := vwB_t 153 rfl rfl
theorem vm_113 : Cond.code ⟨"WindingRaster$Outline", "hasLine", "()Z"⟩ prog_3_method_3_code 1 (Option.some Jvm.ClassFile.FieldType.boolean) ∈ vwB := vwB_t 154 rfl rfl
theorem vm_114 : Cond.instanceMethod ⟨"WindingRaster$Outline", "goOn", "(II)V"⟩ ∈ vwB := vwB_t 157 rfl rfl
theorem vm_115 : Cond.code ⟨"WindingRaster$Outline", "goOn", "(II)V"⟩ prog_3_method_5_code 3 (Option.none : Option Jvm.ClassFile.FieldType) ∈ vwB := vwB_t 158 rfl rfl
theorem vm_116 : Cond.methodLink "WindingRaster$Outline" 32 ⟨"WindingRaster$Outline", "hasLine", "()Z"⟩ ∈ vwB := vwB_t 159 rfl rfl
theorem vm_117 : Cond.methodLink "WindingRasterLaw" 39 ⟨"WindingRaster", "clear", "()I"⟩ ∈ vwB := vwB_t 160 rfl rfl
theorem vm_118 : Cond.instanceMethod ⟨"WindingRaster", "clear", "()I"⟩ ∈ vwB := vwB_t 161 rfl rfl
theorem vm_119 : Cond.selects "WindingRaster" ⟨"WindingRaster", "clear", "()I"⟩ ⟨"WindingRaster", "clear", "()I"⟩ ∈ vwB := vwB_t 162 rfl rfl
theorem vm_120 : Cond.code ⟨"WindingRaster", "clear", "()I"⟩ prog_1_method_6_code 2 (Option.some Jvm.ClassFile.FieldType.int) ∈ vwB := vwB_t 163 rfl rfl
theorem vm_121 : Cond.instanceMethod ⟨"WindingRaster$Outline", "forget", "()V"⟩ ∈ vwB := vwB_t 166 rfl rfl
theorem vm_122 : Cond.code ⟨"WindingRaster$Outline", "forget", "()V"⟩ prog_3_method_7_code 1 (Option.none : Option Jvm.ClassFile.FieldType) ∈ vwB := vwB_t 167 rfl rfl
theorem vm_123 : Cond.methodLink "WindingRasterLaw" 43 ⟨"WindingRaster", "winding", "(II)I"⟩ ∈ vwB := vwB_t 168 rfl rfl
theorem vm_124 : Cond.instanceMethod ⟨"WindingRaster", "winding", "(II)I"⟩ ∈ vwB := vwB_t 169 rfl rfl
theorem vm_125 : Cond.selects "WindingRaster" ⟨"WindingRaster", "winding", "(II)I"⟩ ⟨"WindingRaster", "winding", "(II)I"⟩ ∈ vwB := vwB_t 170 rfl rfl
theorem vm_126 : Cond.code ⟨"WindingRaster", "winding", "(II)I"⟩ prog_1_method_7_code 3 (Option.some Jvm.ClassFile.FieldType.int) ∈ vwB := vwB_t 171 rfl rfl
theorem vm_127 : Cond.methodLink "WindingRaster" 86 ⟨"WindingRaster", "hasPixel", "(II)Z"⟩ ∈ vwB := vwB_t 172 rfl rfl
theorem vm_128 : Cond.instanceMethod ⟨"WindingRaster", "hasPixel", "(II)Z"⟩ ∈ vwB := vwB_t 174 rfl rfl
theorem vm_129 : Cond.code ⟨"WindingRaster", "hasPixel", "(II)Z"⟩ prog_1_method_22_code 3 (Option.some Jvm.ClassFile.FieldType.boolean) ∈ vwB := vwB_t 175 rfl rfl
theorem vm_130 : Cond.instanceMethod ⟨"WindingRaster$Outline", "windingAt", "(II)I"⟩ ∈ vwB := vwB_t 178 rfl rfl
theorem vm_131 : Cond.code ⟨"WindingRaster$Outline", "windingAt", "(II)I"⟩ prog_3_method_8_code 7 (Option.some Jvm.ClassFile.FieldType.int) ∈ vwB := vwB_t 179 rfl rfl
theorem vm_132 : Cond.methodLink "WindingRaster$Outline" 39 ⟨"WindingRaster$Outline", "centreOf", "(I)I"⟩ ∈ vwB := vwB_t 180 rfl rfl
theorem vm_133 : Cond.static ⟨"WindingRaster$Outline", "centreOf", "(I)I"⟩ ∈ vwB := vwB_t 181 rfl rfl
theorem vm_134 : Cond.code ⟨"WindingRaster$Outline", "centreOf", "(I)I"⟩ prog_3_method_10_code 1 (Option.some Jvm.ClassFile.FieldType.int) ∈ vwB := vwB_t 182 rfl rfl
theorem vm_135 : Cond.constant "WindingRaster$Outline" 61 (32768 : Int32) ∈ vwB := vwB_t 183 rfl rfl
theorem vm_136 : Cond.methodLink "WindingRaster$Outline" 43 ⟨"WindingRaster$Outline", "stepAt", "(II)I"⟩ ∈ vwB := vwB_t 184 rfl rfl
theorem vm_137 : Cond.instanceMethod ⟨"WindingRaster$Outline", "stepAt", "(II)I"⟩ ∈ vwB := vwB_t 186 rfl rfl
theorem vm_138 : Cond.code ⟨"WindingRaster$Outline", "stepAt", "(II)I"⟩ prog_3_method_12_code 5 (Option.some Jvm.ClassFile.FieldType.int) ∈ vwB := vwB_t 187 rfl rfl
theorem vm_139 : Cond.methodLink "WindingRaster$Outline" 62 ⟨"WindingRaster$Outline", "hasEdge", "(I)Z"⟩ ∈ vwB := vwB_t 188 rfl rfl
theorem vm_140 : Cond.instanceMethod ⟨"WindingRaster$Outline", "hasEdge", "(I)Z"⟩ ∈ vwB := vwB_t 190 rfl rfl
theorem vm_141 : Cond.code ⟨"WindingRaster$Outline", "hasEdge", "(I)Z"⟩ prog_3_method_11_code 2 (Option.some Jvm.ClassFile.FieldType.boolean) ∈ vwB := vwB_t 191 rfl rfl
theorem vm_142 : Cond.methodLink "WindingRaster$Outline" 47 ⟨"WindingRaster$Outline", "firstColumn", "(II)I"⟩ ∈ vwB := vwB_t 192 rfl rfl
theorem vm_143 : Cond.instanceMethod ⟨"WindingRaster$Outline", "firstColumn", "(II)I"⟩ ∈ vwB := vwB_t 194 rfl rfl
theorem vm_144 : Cond.code ⟨"WindingRaster$Outline", "firstColumn", "(II)I"⟩ prog_3_method_13_code 13 (Option.some Jvm.ClassFile.FieldType.int) ∈ vwB := vwB_t 195 rfl rfl
theorem vm_145 : Cond.methodLink "WindingRaster$Outline" 66 ⟨"java/lang/Math", "floorDiv", "(JJ)J"⟩ ∈ vwB := vwB_t 196 rfl rfl
theorem vm_146 : Cond.static ⟨"java/lang/Math", "floorDiv", "(JJ)J"⟩ ∈ vwB := vwB_t 197 rfl rfl
theorem vm_147 : Cond.code ⟨"java/lang/Math", "floorDiv", "(JJ)J"⟩ prog_8_method_49_code 6 (Option.some Jvm.ClassFile.FieldType.long) ∈ vwB := vwB_t 198 rfl rfl
theorem vm_148 : Cond.constantLong "WindingRaster$Outline" 70 (32768 : Int64) ∈ vwB := vwB_t 199 rfl rfl
theorem vm_149 : Cond.methodLink "WindingRasterLaw" 47 ⟨"WindingRaster", "fill", "(II)I"⟩ ∈ vwB := vwB_t 200 rfl rfl
theorem vm_150 : Cond.instanceMethod ⟨"WindingRaster", "fill", "(II)I"⟩ ∈ vwB := vwB_t 201 rfl rfl
theorem vm_151 : Cond.selects "WindingRaster" ⟨"WindingRaster", "fill", "(II)I"⟩ ⟨"WindingRaster", "fill", "(II)I"⟩ ∈ vwB := vwB_t 202 rfl rfl
theorem vm_152 : Cond.code ⟨"WindingRaster", "fill", "(II)I"⟩ prog_1_method_8_code 3 (Option.some Jvm.ClassFile.FieldType.int) ∈ vwB := vwB_t 203 rfl rfl
theorem vm_153 : Cond.methodLink "WindingRaster" 93 ⟨"WindingRaster", "isRule", "(I)Z"⟩ ∈ vwB := vwB_t 204 rfl rfl
theorem vm_154 : Cond.static ⟨"WindingRaster", "isRule", "(I)Z"⟩ ∈ vwB := vwB_t 205 rfl rfl
theorem vm_155 : Cond.code ⟨"WindingRaster", "isRule", "(I)Z"⟩ prog_1_method_19_code 1 (Option.some Jvm.ClassFile.FieldType.boolean) ∈ vwB := vwB_t 206 rfl rfl
theorem vm_156 : Cond.methodLink "WindingRaster" 96 ⟨"WindingRaster", "isGray", "(I)Z"⟩ ∈ vwB := vwB_t 207 rfl rfl
theorem vm_157 : Cond.static ⟨"WindingRaster", "isGray", "(I)Z"⟩ ∈ vwB := vwB_t 208 rfl rfl
theorem vm_158 : Cond.code ⟨"WindingRaster", "isGray", "(I)Z"⟩ prog_1_method_20_code 1 (Option.some Jvm.ClassFile.FieldType.boolean) ∈ vwB := vwB_t 209 rfl rfl
theorem vm_159 : Cond.methodLink "WindingRaster" 99 ⟨"WindingRaster", "cutClip", "(I)V"⟩ ∈ vwB := vwB_t 210 rfl rfl
theorem vm_160 : Cond.instanceMethod ⟨"WindingRaster", "cutClip", "(I)V"⟩ ∈ vwB := vwB_t 212 rfl rfl
theorem vm_161 : Cond.code ⟨"WindingRaster", "cutClip", "(I)V"⟩ prog_1_method_23_code 6 (Option.none : Option Jvm.ClassFile.FieldType) ∈ vwB := vwB_t 213 rfl rfl
theorem vm_162 : Cond.instanceMethod ⟨"WindingRaster$ClipPile", "start", "()I"⟩ ∈ vwB := vwB_t 216 rfl rfl
theorem vm_163 : Cond.code ⟨"WindingRaster$ClipPile", "start", "()I"⟩ prog_2_method_2_code 1 (Option.some Jvm.ClassFile.FieldType.int) ∈ vwB := vwB_t 217 rfl rfl
theorem vm_164 : Cond.instanceMethod ⟨"WindingRaster$ClipPile", "runAt", "(I)I"⟩ ∈ vwB := vwB_t 220 rfl rfl
theorem vm_165 : Cond.code ⟨"WindingRaster$ClipPile", "runAt", "(I)I"⟩ prog_2_method_3_code 2 (Option.some Jvm.ClassFile.FieldType.int) ∈ vwB := vwB_t 221 rfl rfl
theorem vm_166 : Cond.static ⟨"WindingRaster$Run", "rowOf", "(I)I"⟩ ∈ vwB := vwB_t 223 rfl rfl
theorem vm_167 : Cond.code ⟨"WindingRaster$Run", "rowOf", "(I)I"⟩ prog_4_method_3_code 1 (Option.some Jvm.ClassFile.FieldType.int) ∈ vwB := vwB_t 224 rfl rfl
theorem vm_168 : Cond.instanceMethod ⟨"WindingRaster$Outline", "windRow", "(I[I)Z"⟩ ∈ vwB := vwB_t 227 rfl rfl
theorem vm_169 : Cond.code ⟨"WindingRaster$Outline", "windRow", "(I[I)Z"⟩ prog_3_method_9_code 8 (Option.some Jvm.ClassFile.FieldType.boolean) ∈ vwB := vwB_t 228 rfl rfl
theorem vm_170 : Cond.methodLink "WindingRaster$Outline" 50 ⟨"java/util/Arrays", "fill", "([II)V"⟩ ∈ vwB := vwB_t 229 rfl rfl
theorem vm_171 : Cond.methodLink "WindingRaster$Outline" 56 ⟨"java/lang/Math", "max", "(II)I"⟩ ∈ vwB := vwB_t 230 rfl rfl
theorem vm_172 : Cond.methodLink "WindingRaster" 152 ⟨"WindingRaster", "cutRun", "(II)V"⟩ ∈ vwB := vwB_t 231 rfl rfl
theorem vm_173 : Cond.instanceMethod ⟨"WindingRaster", "cutRun", "(II)V"⟩ ∈ vwB := vwB_t 233 rfl rfl
theorem vm_174 : Cond.code ⟨"WindingRaster", "cutRun", "(II)V"⟩ prog_1_method_24_code 8 (Option.none : Option Jvm.ClassFile.FieldType) ∈ vwB := vwB_t 234 rfl rfl
theorem vm_175 : Cond.static ⟨"WindingRaster$Run", "endOf", "(I)I"⟩ ∈ vwB := vwB_t 236 rfl rfl
theorem vm_176 : Cond.code ⟨"WindingRaster$Run", "endOf", "(I)I"⟩ prog_4_method_5_code 1 (Option.some Jvm.ClassFile.FieldType.int) ∈ vwB := vwB_t 237 rfl rfl
theorem vm_177 : Cond.static ⟨"WindingRaster$Run", "fromOf", "(I)I"⟩ ∈ vwB := vwB_t 239 rfl rfl
theorem vm_178 : Cond.code ⟨"WindingRaster$Run", "fromOf", "(I)I"⟩ prog_4_method_4_code 1 (Option.some Jvm.ClassFile.FieldType.int) ∈ vwB := vwB_t 240 rfl rfl
theorem vm_179 : Cond.methodLink "WindingRaster" 161 ⟨"WindingRaster", "isInside", "(II)Z"⟩ ∈ vwB := vwB_t 241 rfl rfl
theorem vm_180 : Cond.static ⟨"WindingRaster", "isInside", "(II)Z"⟩ ∈ vwB := vwB_t 242 rfl rfl
theorem vm_181 : Cond.code ⟨"WindingRaster", "isInside", "(II)Z"⟩ prog_1_method_21_code 2 (Option.some Jvm.ClassFile.FieldType.boolean) ∈ vwB := vwB_t 243 rfl rfl
theorem vm_182 : Cond.instanceMethod ⟨"WindingRaster$RunList", "add", "(I)V"⟩ ∈ vwB := vwB_t 247 rfl rfl
theorem vm_183 : Cond.code ⟨"WindingRaster$RunList", "add", "(I)V"⟩ prog_5_method_2_code 2 (Option.none : Option Jvm.ClassFile.FieldType) ∈ vwB := vwB_t 248 rfl rfl
theorem vm_184 : Cond.methodLink "WindingRaster" 106 ⟨"WindingRaster", "paint", "([IIII)I"⟩ ∈ vwB := vwB_t 249 rfl rfl
theorem vm_185 : Cond.instanceMethod ⟨"WindingRaster", "paint", "([IIII)I"⟩ ∈ vwB := vwB_t 251 rfl rfl
theorem vm_186 : Cond.code ⟨"WindingRaster", "paint", "([IIII)I"⟩ prog_1_method_25_code 7 (Option.some Jvm.ClassFile.FieldType.int) ∈ vwB := vwB_t 252 rfl rfl
theorem vm_187 : Cond.methodLink "WindingRaster" 171 ⟨"WindingRaster", "paintRun", "(II)V"⟩ ∈ vwB := vwB_t 253 rfl rfl
theorem vm_188 : Cond.instanceMethod ⟨"WindingRaster", "paintRun", "(II)V"⟩ ∈ vwB := vwB_t 255 rfl rfl
theorem vm_189 : Cond.code ⟨"WindingRaster", "paintRun", "(II)V"⟩ prog_1_method_26_code 6 (Option.none : Option Jvm.ClassFile.FieldType) ∈ vwB := vwB_t 256 rfl rfl
theorem vm_190 : Cond.static ⟨"WindingRaster$Run", "lengthOf", "(I)I"⟩ ∈ vwB := vwB_t 258 rfl rfl
theorem vm_191 : Cond.code ⟨"WindingRaster$Run", "lengthOf", "(I)I"⟩ prog_4_method_6_code 1 (Option.some Jvm.ClassFile.FieldType.int) ∈ vwB := vwB_t 259 rfl rfl
theorem vm_192 : Cond.methodLink "WindingRaster$Run" 9 ⟨"WindingRaster$Run", "endOf", "(I)I"⟩ ∈ vwB := vwB_t 260 rfl rfl
theorem vm_193 : Cond.methodLink "WindingRaster$Run" 13 ⟨"WindingRaster$Run", "fromOf", "(I)I"⟩ ∈ vwB := vwB_t 261 rfl rfl
theorem vm_194 : Cond.methodLink "WindingRasterLaw" 51 ⟨"WindingRaster", "clip", "(I)I"⟩ ∈ vwB := vwB_t 262 rfl rfl
theorem vm_195 : Cond.instanceMethod ⟨"WindingRaster", "clip", "(I)I"⟩ ∈ vwB := vwB_t 263 rfl rfl
theorem vm_196 : Cond.selects "WindingRaster" ⟨"WindingRaster", "clip", "(I)I"⟩ ⟨"WindingRaster", "clip", "(I)I"⟩ ∈ vwB := vwB_t 264 rfl rfl
theorem vm_197 : Cond.code ⟨"WindingRaster", "clip", "(I)I"⟩ prog_1_method_9_code 2 (Option.some Jvm.ClassFile.FieldType.int) ∈ vwB := vwB_t 265 rfl rfl
theorem vm_198 : Cond.instanceMethod ⟨"WindingRaster$ClipPile", "replace", "(LWindingRaster$RunList;)Z"⟩ ∈ vwB := vwB_t 268 rfl rfl
theorem vm_199 : Cond.code ⟨"WindingRaster$ClipPile", "replace", "(LWindingRaster$RunList;)Z"⟩ prog_2_method_6_code 2 (Option.some Jvm.ClassFile.FieldType.boolean) ∈ vwB := vwB_t 269 rfl rfl
theorem vm_200 : Cond.methodLink "WindingRaster$ClipPile" 37 ⟨"WindingRaster$ClipPile", "start", "()I"⟩ ∈ vwB := vwB_t 270 rfl rfl
theorem vm_201 : Cond.methodLink "WindingRaster$ClipPile" 41 ⟨"WindingRaster$ClipPile", "copyRuns", "([IIII)Z"⟩ ∈ vwB := vwB_t 271 rfl rfl
theorem vm_202 : Cond.instanceMethod ⟨"WindingRaster$ClipPile", "copyRuns", "([IIII)Z"⟩ ∈ vwB := vwB_t 273 rfl rfl
theorem vm_203 : Cond.code ⟨"WindingRaster$ClipPile", "copyRuns", "([IIII)Z"⟩ prog_2_method_7_code 5 (Option.some Jvm.ClassFile.FieldType.boolean) ∈ vwB := vwB_t 274 rfl rfl
theorem vm_204 : Cond.methodLink "WindingRaster$ClipPile" 51 ⟨"java/lang/System", "arraycopy", "(Ljava/lang/Object;ILjava/lang/Object;II)V"⟩ ∈ vwB := vwB_t 275 rfl rfl
theorem vm_205 : Cond.static ⟨"java/lang/System", "arraycopy", "(Ljava/lang/Object;ILjava/lang/Object;II)V"⟩ ∈ vwB := vwB_t 276 rfl rfl
theorem vm_206 : Cond.native ⟨"java/lang/System", "arraycopy", "(Ljava/lang/Object;ILjava/lang/Object;II)V"⟩ ∈ vwB := vwB_t 277 rfl rfl
theorem vm_207 : Cond.instanceMethod ⟨"WindingRaster$ClipPile", "pixelCount", "()I"⟩ ∈ vwB := vwB_t 280 rfl rfl
theorem vm_208 : Cond.code ⟨"WindingRaster$ClipPile", "pixelCount", "()I"⟩ prog_2_method_9_code 3 (Option.some Jvm.ClassFile.FieldType.int) ∈ vwB := vwB_t 281 rfl rfl
theorem vm_209 : Cond.methodLink "WindingRaster$ClipPile" 57 ⟨"WindingRaster$ClipPile", "runAt", "(I)I"⟩ ∈ vwB := vwB_t 282 rfl rfl
theorem vm_210 : Cond.methodLink "WindingRasterLaw" 56 ⟨"WindingRaster", "save", "()I"⟩ ∈ vwB := vwB_t 284 rfl rfl
theorem vm_211 : Cond.instanceMethod ⟨"WindingRaster", "save", "()I"⟩ ∈ vwB := vwB_t 285 rfl rfl
theorem vm_212 : Cond.selects "WindingRaster" ⟨"WindingRaster", "save", "()I"⟩ ⟨"WindingRaster", "save", "()I"⟩ ∈ vwB := vwB_t 286 rfl rfl
theorem vm_213 : Cond.code ⟨"WindingRaster", "save", "()I"⟩ prog_1_method_10_code 1 (Option.some Jvm.ClassFile.FieldType.int) ∈ vwB := vwB_t 287 rfl rfl
theorem vm_214 : Cond.instanceMethod ⟨"WindingRaster$ClipPile", "push", "()Z"⟩ ∈ vwB := vwB_t 290 rfl rfl
theorem vm_215 : Cond.code ⟨"WindingRaster$ClipPile", "push", "()Z"⟩ prog_2_method_4_code 2 (Option.some Jvm.ClassFile.FieldType.boolean) ∈ vwB := vwB_t 291 rfl rfl
theorem vm_216 : Cond.methodLink "WindingRasterLaw" 60 ⟨"WindingRaster", "restore", "()I"⟩ ∈ vwB := vwB_t 292 rfl rfl
theorem vm_217 : Cond.instanceMethod ⟨"WindingRaster", "restore", "()I"⟩ ∈ vwB := vwB_t 293 rfl rfl
theorem vm_218 : Cond.selects "WindingRaster" ⟨"WindingRaster", "restore", "()I"⟩ ⟨"WindingRaster", "restore", "()I"⟩ ∈ vwB := vwB_t 294 rfl rfl
theorem vm_219 : Cond.code ⟨"WindingRaster", "restore", "()I"⟩ prog_1_method_11_code 1 (Option.some Jvm.ClassFile.FieldType.int) ∈ vwB := vwB_t 295 rfl rfl
theorem vm_220 : Cond.instanceMethod ⟨"WindingRaster$ClipPile", "pop", "()Z"⟩ ∈ vwB := vwB_t 298 rfl rfl
theorem vm_221 : Cond.code ⟨"WindingRaster$ClipPile", "pop", "()Z"⟩ prog_2_method_5_code 1 (Option.some Jvm.ClassFile.FieldType.boolean) ∈ vwB := vwB_t 299 rfl rfl
theorem vm_222 : Cond.methodLink "WindingRasterLaw" 64 ⟨"WindingRaster", "gray", "(II)I"⟩ ∈ vwB := vwB_t 300 rfl rfl
theorem vm_223 : Cond.instanceMethod ⟨"WindingRaster", "gray", "(II)I"⟩ ∈ vwB := vwB_t 301 rfl rfl
theorem vm_224 : Cond.selects "WindingRaster" ⟨"WindingRaster", "gray", "(II)I"⟩ ⟨"WindingRaster", "gray", "(II)I"⟩ ∈ vwB := vwB_t 302 rfl rfl
theorem vm_225 : Cond.code ⟨"WindingRaster", "gray", "(II)I"⟩ prog_1_method_12_code 3 (Option.some Jvm.ClassFile.FieldType.int) ∈ vwB := vwB_t 303 rfl rfl
theorem vm_226 : Cond.methodLink "WindingRasterLaw" 68 ⟨"WindingRaster", "open", "(II)I"⟩ ∈ vwB := vwB_t 304 rfl rfl
theorem vm_227 : Cond.instanceMethod ⟨"WindingRaster", "open", "(II)I"⟩ ∈ vwB := vwB_t 305 rfl rfl
theorem vm_228 : Cond.selects "WindingRaster" ⟨"WindingRaster", "open", "(II)I"⟩ ⟨"WindingRaster", "open", "(II)I"⟩ ∈ vwB := vwB_t 306 rfl rfl
theorem vm_229 : Cond.code ⟨"WindingRaster", "open", "(II)I"⟩ prog_1_method_13_code 3 (Option.some Jvm.ClassFile.FieldType.int) ∈ vwB := vwB_t 307 rfl rfl
theorem vm_230 : Cond.instanceMethod ⟨"WindingRaster$ClipPile", "has", "(II)Z"⟩ ∈ vwB := vwB_t 310 rfl rfl
theorem vm_231 : Cond.code ⟨"WindingRaster$ClipPile", "has", "(II)Z"⟩ prog_2_method_8_code 5 (Option.some Jvm.ClassFile.FieldType.boolean) ∈ vwB := vwB_t 311 rfl rfl
theorem vm_232 : Cond.methodLink "WindingRasterLaw" 72 ⟨"WindingRaster", "pixels", "()I"⟩ ∈ vwB := vwB_t 315 rfl rfl
theorem vm_233 : Cond.instanceMethod ⟨"WindingRaster", "pixels", "()I"⟩ ∈ vwB := vwB_t 316 rfl rfl
theorem vm_234 : Cond.selects "WindingRaster" ⟨"WindingRaster", "pixels", "()I"⟩ ⟨"WindingRaster", "pixels", "()I"⟩ ∈ vwB := vwB_t 317 rfl rfl
theorem vm_235 : Cond.code ⟨"WindingRaster", "pixels", "()I"⟩ prog_1_method_14_code 1 (Option.some Jvm.ClassFile.FieldType.int) ∈ vwB := vwB_t 318 rfl rfl
theorem vm_236 : Cond.methodLink "WindingRasterLaw" 76 ⟨"WindingRaster", "runs", "()I"⟩ ∈ vwB := vwB_t 319 rfl rfl
theorem vm_237 : Cond.instanceMethod ⟨"WindingRaster", "runs", "()I"⟩ ∈ vwB := vwB_t 320 rfl rfl
theorem vm_238 : Cond.selects "WindingRaster" ⟨"WindingRaster", "runs", "()I"⟩ ⟨"WindingRaster", "runs", "()I"⟩ ∈ vwB := vwB_t 321 rfl rfl
theorem vm_239 : Cond.code ⟨"WindingRaster", "runs", "()I"⟩ prog_1_method_15_code 1 (Option.some Jvm.ClassFile.FieldType.int) ∈ vwB := vwB_t 322 rfl rfl
theorem vm_240 : Cond.methodLink "WindingRasterLaw" 80 ⟨"WindingRaster", "count", "(II)I"⟩ ∈ vwB := vwB_t 323 rfl rfl
theorem vm_241 : Cond.instanceMethod ⟨"WindingRaster", "count", "(II)I"⟩ ∈ vwB := vwB_t 324 rfl rfl
theorem vm_242 : Cond.selects "WindingRaster" ⟨"WindingRaster", "count", "(II)I"⟩ ⟨"WindingRaster", "count", "(II)I"⟩ ∈ vwB := vwB_t 325 rfl rfl
theorem vm_243 : Cond.code ⟨"WindingRaster", "count", "(II)I"⟩ prog_1_method_16_code 5 (Option.some Jvm.ClassFile.FieldType.int) ∈ vwB := vwB_t 326 rfl rfl
theorem vm_244 : Cond.methodLink "WindingRasterLaw" 84 ⟨"WindingRaster", "flood", "(I)I"⟩ ∈ vwB := vwB_t 327 rfl rfl
theorem vm_245 : Cond.instanceMethod ⟨"WindingRaster", "flood", "(I)I"⟩ ∈ vwB := vwB_t 328 rfl rfl
theorem vm_246 : Cond.selects "WindingRaster" ⟨"WindingRaster", "flood", "(I)I"⟩ ⟨"WindingRaster", "flood", "(I)I"⟩ ∈ vwB := vwB_t 329 rfl rfl
theorem vm_247 : Cond.code ⟨"WindingRaster", "flood", "(I)I"⟩ prog_1_method_17_code 2 (Option.some Jvm.ClassFile.FieldType.int) ∈ vwB := vwB_t 330 rfl rfl
theorem vm_248 : Cond.methodLink "WindingRasterLaw" 9 ⟨"WindingRasterLaw", "cell", "([II)I"⟩ ∈ vwB := vwB_t 331 rfl rfl
theorem vm_249 : Cond.static ⟨"WindingRasterLaw", "cell", "([II)I"⟩ ∈ vwB := vwB_t 332 rfl rfl
theorem vm_250 : Cond.code ⟨"WindingRasterLaw", "cell", "([II)I"⟩ method_2_code 2 (Option.some Jvm.ClassFile.FieldType.int) ∈ vwB := vwB_t 333 rfl rfl
theorem vm_251 : Cond.classLink "WindingRasterLaw" 18 "WindingRasterModel" ∈ vwB := vwB_t 334 rfl rfl
theorem vm_252 : Cond.instantiable "WindingRasterModel" 11 ∈ vwB := vwB_t 335 rfl rfl
theorem vm_253 : Cond.methodLink "WindingRasterLaw" 20 ⟨"WindingRasterModel", "<init>", "(II)V"⟩ ∈ vwB := vwB_t 336 rfl rfl
theorem vm_254 : Cond.instanceMethod ⟨"WindingRasterModel", "<init>", "(II)V"⟩ ∈ vwB := vwB_t 337 rfl rfl
theorem vm_255 : Cond.code ⟨"WindingRasterModel", "<init>", "(II)V"⟩ prog_7_method_1_code 4 (Option.none : Option Jvm.ClassFile.FieldType) ∈ vwB := vwB_t 338 rfl rfl
theorem vm_256 : Cond.methodLink "WindingRasterModel" 1 ⟨"java/lang/Object", "<init>", "()V"⟩ ∈ vwB := vwB_t 339 rfl rfl
theorem vm_257 : Cond.constant "WindingRasterModel" 7 (65536 : Int32) ∈ vwB := vwB_t 340 rfl rfl
theorem vm_258 : Cond.methodLink "WindingRasterModel" 31 ⟨"WindingRasterModel", "side", "(I)I"⟩ ∈ vwB := vwB_t 341 rfl rfl
theorem vm_259 : Cond.static ⟨"WindingRasterModel", "side", "(I)I"⟩ ∈ vwB := vwB_t 342 rfl rfl
theorem vm_260 : Cond.code ⟨"WindingRasterModel", "side", "(I)I"⟩ prog_7_method_2_code 1 (Option.some Jvm.ClassFile.FieldType.int) ∈ vwB := vwB_t 343 rfl rfl
theorem vm_261 : Cond.fieldLink "WindingRasterModel" 35 "WindingRasterModel" "columns" "I" ∈ vwB := vwB_t 344 rfl rfl
theorem vm_262 : Cond.fieldLink "WindingRasterModel" 39 "WindingRasterModel" "rows" "I" ∈ vwB := vwB_t 345 rfl rfl
theorem vm_263 : Cond.fieldLink "WindingRasterModel" 8 "WindingRasterModel" "grays" "[B" ∈ vwB := vwB_t 346 rfl rfl
theorem vm_264 : Cond.fieldLink "WindingRasterModel" 14 "WindingRasterModel" "masks" "[S" ∈ vwB := vwB_t 347 rfl rfl
theorem vm_265 : Cond.fieldLink "WindingRasterModel" 96 "WindingRasterModel" "saved" "I" ∈ vwB := vwB_t 348 rfl rfl
theorem vm_266 : Cond.fieldLink "WindingRasterModel" 18 "WindingRasterModel" "xs" "[I" ∈ vwB := vwB_t 349 rfl rfl
theorem vm_267 : Cond.fieldLink "WindingRasterModel" 22 "WindingRasterModel" "ys" "[I" ∈ vwB := vwB_t 350 rfl rfl
theorem vm_268 : Cond.fieldLink "WindingRasterModel" 25 "WindingRasterModel" "firsts" "[I" ∈ vwB := vwB_t 351 rfl rfl
theorem vm_269 : Cond.fieldLink "WindingRasterModel" 46 "WindingRasterModel" "points" "I" ∈ vwB := vwB_t 352 rfl rfl
theorem vm_270 : Cond.fieldLink "WindingRasterModel" 28 "WindingRasterModel" "met" "[I" ∈ vwB := vwB_t 353 rfl rfl
theorem vm_271 : Cond.fieldLink "WindingRasterModel" 65 "WindingRasterModel" "meets" "I" ∈ vwB := vwB_t 354 rfl rfl
theorem vm_272 : Cond.laysFinal "WindingRasterModel" "WindingRasterModel" "columns" "I" ∈ vwB := vwB_t 355 rfl rfl
theorem vm_273 : Cond.laysFinal "WindingRasterModel" "WindingRasterModel" "rows" "I" ∈ vwB := vwB_t 357 rfl rfl
theorem vm_274 : Cond.laysFinal "WindingRasterModel" "WindingRasterModel" "grays" "[B" ∈ vwB := vwB_t 359 rfl rfl
theorem vm_275 : Cond.laysFinal "WindingRasterModel" "WindingRasterModel" "masks" "[S" ∈ vwB := vwB_t 361 rfl rfl
theorem vm_276 : Cond.lays "WindingRasterModel" "WindingRasterModel" "saved" "I" ∈ vwB := vwB_t 363 rfl rfl
theorem vm_277 : Cond.laysFinal "WindingRasterModel" "WindingRasterModel" "xs" "[I" ∈ vwB := vwB_t 365 rfl rfl
theorem vm_278 : Cond.laysFinal "WindingRasterModel" "WindingRasterModel" "ys" "[I" ∈ vwB := vwB_t 367 rfl rfl
theorem vm_279 : Cond.laysFinal "WindingRasterModel" "WindingRasterModel" "firsts" "[I" ∈ vwB := vwB_t 369 rfl rfl
theorem vm_280 : Cond.lays "WindingRasterModel" "WindingRasterModel" "points" "I" ∈ vwB := vwB_t 371 rfl rfl
theorem vm_281 : Cond.laysFinal "WindingRasterModel" "WindingRasterModel" "met" "[I" ∈ vwB := vwB_t 373 rfl rfl
theorem vm_282 : Cond.lays "WindingRasterModel" "WindingRasterModel" "meets" "I" ∈ vwB := vwB_t 375 rfl rfl
theorem vm_283 : Cond.arrayClass Jvm.ClassFile.FieldType.byte ∈ vwB := vwB_t 378 rfl rfl
theorem vm_284 : Cond.arrayClass Jvm.ClassFile.FieldType.short ∈ vwB := vwB_t 379 rfl rfl
theorem vm_285 : Cond.methodLink "WindingRasterLaw" 25 ⟨"WindingRasterModel", "columns", "()I"⟩ ∈ vwB := vwB_t 380 rfl rfl
theorem vm_286 : Cond.instanceMethod ⟨"WindingRasterModel", "columns", "()I"⟩ ∈ vwB := vwB_t 381 rfl rfl
theorem vm_287 : Cond.selects "WindingRasterModel" ⟨"WindingRasterModel", "columns", "()I"⟩ ⟨"WindingRasterModel", "columns", "()I"⟩ ∈ vwB := vwB_t 382 rfl rfl
theorem vm_288 : Cond.code ⟨"WindingRasterModel", "columns", "()I"⟩ prog_7_method_3_code 1 (Option.some Jvm.ClassFile.FieldType.int) ∈ vwB := vwB_t 383 rfl rfl
theorem vm_289 : Cond.methodLink "WindingRasterLaw" 29 ⟨"WindingRasterModel", "rows", "()I"⟩ ∈ vwB := vwB_t 384 rfl rfl
theorem vm_290 : Cond.instanceMethod ⟨"WindingRasterModel", "rows", "()I"⟩ ∈ vwB := vwB_t 385 rfl rfl
theorem vm_291 : Cond.selects "WindingRasterModel" ⟨"WindingRasterModel", "rows", "()I"⟩ ⟨"WindingRasterModel", "rows", "()I"⟩ ∈ vwB := vwB_t 386 rfl rfl
theorem vm_292 : Cond.code ⟨"WindingRasterModel", "rows", "()I"⟩ prog_7_method_4_code 1 (Option.some Jvm.ClassFile.FieldType.int) ∈ vwB := vwB_t 387 rfl rfl
theorem vm_293 : Cond.methodLink "WindingRasterLaw" 34 ⟨"WindingRasterModel", "move", "(II)I"⟩ ∈ vwB := vwB_t 388 rfl rfl
theorem vm_294 : Cond.instanceMethod ⟨"WindingRasterModel", "move", "(II)I"⟩ ∈ vwB := vwB_t 389 rfl rfl
theorem vm_295 : Cond.selects "WindingRasterModel" ⟨"WindingRasterModel", "move", "(II)I"⟩ ⟨"WindingRasterModel", "move", "(II)I"⟩ ∈ vwB := vwB_t 390 rfl rfl
theorem vm_296 : Cond.code ⟨"WindingRasterModel", "move", "(II)I"⟩ prog_7_method_7_code 3 (Option.some Jvm.ClassFile.FieldType.int) ∈ vwB := vwB_t 391 rfl rfl
theorem vm_297 : Cond.methodLink "WindingRasterModel" 49 ⟨"WindingRasterModel", "isPlace", "(I)Z"⟩ ∈ vwB := vwB_t 392 rfl rfl
theorem vm_298 : Cond.static ⟨"WindingRasterModel", "isPlace", "(I)Z"⟩ ∈ vwB := vwB_t 393 rfl rfl
theorem vm_299 : Cond.code ⟨"WindingRasterModel", "isPlace", "(I)Z"⟩ prog_7_method_5_code 1 (Option.some Jvm.ClassFile.FieldType.boolean) ∈ vwB := vwB_t 394 rfl rfl
theorem vm_300 : Cond.constantLong "WindingRasterModel" 42 (-536870912 : Int64) ∈ vwB := vwB_t 395 rfl rfl
theorem vm_301 : Cond.constantLong "WindingRasterModel" 44 (536870912 : Int64) ∈ vwB := vwB_t 396 rfl rfl
theorem vm_302 : Cond.methodLink "WindingRasterModel" 53 ⟨"WindingRasterModel", "put", "(III)I"⟩ ∈ vwB := vwB_t 397 rfl rfl
theorem vm_303 : Cond.instanceMethod ⟨"WindingRasterModel", "put", "(III)I"⟩ ∈ vwB := vwB_t 399 rfl rfl
theorem vm_304 : Cond.code ⟨"WindingRasterModel", "put", "(III)I"⟩ prog_7_method_6_code 4 (Option.some Jvm.ClassFile.FieldType.int) ∈ vwB := vwB_t 400 rfl rfl
theorem vm_305 : Cond.methodLink "WindingRasterLaw" 38 ⟨"WindingRasterModel", "line", "(II)I"⟩ ∈ vwB := vwB_t 401 rfl rfl
theorem vm_306 : Cond.instanceMethod ⟨"WindingRasterModel", "line", "(II)I"⟩ ∈ vwB := vwB_t 402 rfl rfl
theorem vm_307 : Cond.selects "WindingRasterModel" ⟨"WindingRasterModel", "line", "(II)I"⟩ ⟨"WindingRasterModel", "line", "(II)I"⟩ ∈ vwB := vwB_t 403 rfl rfl
theorem vm_308 : Cond.code ⟨"WindingRasterModel", "line", "(II)I"⟩ prog_7_method_8_code 3 (Option.some Jvm.ClassFile.FieldType.int) ∈ vwB := vwB_t 404 rfl rfl
theorem vm_309 : Cond.methodLink "WindingRasterLaw" 42 ⟨"WindingRasterModel", "clear", "()I"⟩ ∈ vwB := vwB_t 405 rfl rfl
theorem vm_310 : Cond.instanceMethod ⟨"WindingRasterModel", "clear", "()I"⟩ ∈ vwB := vwB_t 406 rfl rfl
theorem vm_311 : Cond.selects "WindingRasterModel" ⟨"WindingRasterModel", "clear", "()I"⟩ ⟨"WindingRasterModel", "clear", "()I"⟩ ∈ vwB := vwB_t 407 rfl rfl
theorem vm_312 : Cond.code ⟨"WindingRasterModel", "clear", "()I"⟩ prog_7_method_9_code 2 (Option.some Jvm.ClassFile.FieldType.int) ∈ vwB := vwB_t 408 rfl rfl
theorem vm_313 : Cond.methodLink "WindingRasterLaw" 46 ⟨"WindingRasterModel", "winding", "(II)I"⟩ ∈ vwB := vwB_t 409 rfl rfl
theorem vm_314 : Cond.instanceMethod ⟨"WindingRasterModel", "winding", "(II)I"⟩ ∈ vwB := vwB_t 410 rfl rfl
theorem vm_315 : Cond.selects "WindingRasterModel" ⟨"WindingRasterModel", "winding", "(II)I"⟩ ⟨"WindingRasterModel", "winding", "(II)I"⟩ ∈ vwB := vwB_t 411 rfl rfl
theorem vm_316 : Cond.code ⟨"WindingRasterModel", "winding", "(II)I"⟩ prog_7_method_17_code 3 (Option.some Jvm.ClassFile.FieldType.int) ∈ vwB := vwB_t 412 rfl rfl
theorem vm_317 : Cond.methodLink "WindingRasterModel" 75 ⟨"WindingRasterModel", "isPixel", "(II)Z"⟩ ∈ vwB := vwB_t 413 rfl rfl
theorem vm_318 : Cond.instanceMethod ⟨"WindingRasterModel", "isPixel", "(II)Z"⟩ ∈ vwB := vwB_t 415 rfl rfl
theorem vm_319 : Cond.code ⟨"WindingRasterModel", "isPixel", "(II)Z"⟩ prog_7_method_15_code 3 (Option.some Jvm.ClassFile.FieldType.boolean) ∈ vwB := vwB_t 416 rfl rfl
theorem vm_320 : Cond.methodLink "WindingRasterModel" 79 ⟨"WindingRasterModel", "meet", "(I)V"⟩ ∈ vwB := vwB_t 417 rfl rfl
theorem vm_321 : Cond.instanceMethod ⟨"WindingRasterModel", "meet", "(I)V"⟩ ∈ vwB := vwB_t 419 rfl rfl
theorem vm_322 : Cond.code ⟨"WindingRasterModel", "meet", "(I)V"⟩ prog_7_method_12_code 7 (Option.none : Option Jvm.ClassFile.FieldType) ∈ vwB := vwB_t 420 rfl rfl
theorem vm_323 : Cond.methodLink "WindingRasterModel" 61 ⟨"WindingRasterModel", "centre", "(I)J"⟩ ∈ vwB := vwB_t 421 rfl rfl
theorem vm_324 : Cond.static ⟨"WindingRasterModel", "centre", "(I)J"⟩ ∈ vwB := vwB_t 422 rfl rfl
theorem vm_325 : Cond.code ⟨"WindingRasterModel", "centre", "(I)J"⟩ prog_7_method_11_code 1 (Option.some Jvm.ClassFile.FieldType.long) ∈ vwB := vwB_t 423 rfl rfl
theorem vm_326 : Cond.constantLong "WindingRasterModel" 57 (65536 : Int64) ∈ vwB := vwB_t 424 rfl rfl
theorem vm_327 : Cond.constantLong "WindingRasterModel" 59 (32768 : Int64) ∈ vwB := vwB_t 425 rfl rfl
theorem vm_328 : Cond.methodLink "WindingRasterModel" 68 ⟨"WindingRasterModel", "next", "(I)I"⟩ ∈ vwB := vwB_t 426 rfl rfl
theorem vm_329 : Cond.instanceMethod ⟨"WindingRasterModel", "next", "(I)I"⟩ ∈ vwB := vwB_t 428 rfl rfl
theorem vm_330 : Cond.code ⟨"WindingRasterModel", "next", "(I)I"⟩ prog_7_method_10_code 2 (Option.some Jvm.ClassFile.FieldType.int) ∈ vwB := vwB_t 429 rfl rfl
theorem vm_331 : Cond.methodLink "WindingRasterModel" 83 ⟨"WindingRasterModel", "windings", "(II)I"⟩ ∈ vwB := vwB_t 430 rfl rfl
theorem vm_332 : Cond.instanceMethod ⟨"WindingRasterModel", "windings", "(II)I"⟩ ∈ vwB := vwB_t 432 rfl rfl
theorem vm_333 : Cond.code ⟨"WindingRasterModel", "windings", "(II)I"⟩ prog_7_method_14_code 6 (Option.some Jvm.ClassFile.FieldType.int) ∈ vwB := vwB_t 433 rfl rfl
theorem vm_334 : Cond.methodLink "WindingRasterModel" 71 ⟨"WindingRasterModel", "isLeft", "(IJJ)Z"⟩ ∈ vwB := vwB_t 434 rfl rfl
theorem vm_335 : Cond.instanceMethod ⟨"WindingRasterModel", "isLeft", "(IJJ)Z"⟩ ∈ vwB := vwB_t 436 rfl rfl
theorem vm_336 : Cond.code ⟨"WindingRasterModel", "isLeft", "(IJJ)Z"⟩ prog_7_method_13_code 11 (Option.some Jvm.ClassFile.FieldType.boolean) ∈ vwB := vwB_t 437 rfl rfl
theorem vm_337 : Cond.methodLink "WindingRasterLaw" 50 ⟨"WindingRasterModel", "fill", "(II)I"⟩ ∈ vwB := vwB_t 438 rfl rfl
theorem vm_338 : Cond.instanceMethod ⟨"WindingRasterModel", "fill", "(II)I"⟩ ∈ vwB := vwB_t 439 rfl rfl
theorem vm_339 : Cond.selects "WindingRasterModel" ⟨"WindingRasterModel", "fill", "(II)I"⟩ ⟨"WindingRasterModel", "fill", "(II)I"⟩ ∈ vwB := vwB_t 440 rfl rfl
theorem vm_340 : Cond.code ⟨"WindingRasterModel", "fill", "(II)I"⟩ prog_7_method_23_code 6 (Option.some Jvm.ClassFile.FieldType.int) ∈ vwB := vwB_t 441 rfl rfl
theorem vm_341 : Cond.methodLink "WindingRasterModel" 87 ⟨"WindingRasterModel", "at", "(II)I"⟩ ∈ vwB := vwB_t 442 rfl rfl
theorem vm_342 : Cond.static ⟨"WindingRasterModel", "at", "(II)I"⟩ ∈ vwB := vwB_t 443 rfl rfl
theorem vm_343 : Cond.code ⟨"WindingRasterModel", "at", "(II)I"⟩ prog_7_method_16_code 2 (Option.some Jvm.ClassFile.FieldType.int) ∈ vwB := vwB_t 444 rfl rfl
theorem vm_344 : Cond.methodLink "WindingRasterModel" 90 ⟨"WindingRasterModel", "isOpen", "(II)Z"⟩ ∈ vwB := vwB_t 445 rfl rfl
theorem vm_345 : Cond.instanceMethod ⟨"WindingRasterModel", "isOpen", "(II)Z"⟩ ∈ vwB := vwB_t 447 rfl rfl
theorem vm_346 : Cond.code ⟨"WindingRasterModel", "isOpen", "(II)Z"⟩ prog_7_method_19_code 3 (Option.some Jvm.ClassFile.FieldType.boolean) ∈ vwB := vwB_t 448 rfl rfl
theorem vm_347 : Cond.methodLink "WindingRasterModel" 99 ⟨"WindingRasterModel", "isInside", "(II)Z"⟩ ∈ vwB := vwB_t 449 rfl rfl
theorem vm_348 : Cond.static ⟨"WindingRasterModel", "isInside", "(II)Z"⟩ ∈ vwB := vwB_t 450 rfl rfl
theorem vm_349 : Cond.code ⟨"WindingRasterModel", "isInside", "(II)Z"⟩ prog_7_method_18_code 2 (Option.some Jvm.ClassFile.FieldType.boolean) ∈ vwB := vwB_t 451 rfl rfl
theorem vm_350 : Cond.methodLink "WindingRasterLaw" 55 ⟨"WindingRasterModel", "clip", "(I)I"⟩ ∈ vwB := vwB_t 452 rfl rfl
theorem vm_351 : Cond.instanceMethod ⟨"WindingRasterModel", "clip", "(I)I"⟩ ∈ vwB := vwB_t 453 rfl rfl
theorem vm_352 : Cond.selects "WindingRasterModel" ⟨"WindingRasterModel", "clip", "(I)I"⟩ ⟨"WindingRasterModel", "clip", "(I)I"⟩ ∈ vwB := vwB_t 454 rfl rfl
theorem vm_353 : Cond.code ⟨"WindingRasterModel", "clip", "(I)I"⟩ prog_7_method_24_code 4 (Option.some Jvm.ClassFile.FieldType.int) ∈ vwB := vwB_t 455 rfl rfl
theorem vm_354 : Cond.methodLink "WindingRasterModel" 102 ⟨"WindingRasterModel", "setOpen", "(IIZ)V"⟩ ∈ vwB := vwB_t 456 rfl rfl
theorem vm_355 : Cond.instanceMethod ⟨"WindingRasterModel", "setOpen", "(IIZ)V"⟩ ∈ vwB := vwB_t 458 rfl rfl
theorem vm_356 : Cond.code ⟨"WindingRasterModel", "setOpen", "(IIZ)V"⟩ prog_7_method_20_code 5 (Option.none : Option Jvm.ClassFile.FieldType) ∈ vwB := vwB_t 459 rfl rfl
theorem vm_357 : Cond.methodLink "WindingRasterModel" 106 ⟨"WindingRasterModel", "runsTo", "(I)I"⟩ ∈ vwB := vwB_t 460 rfl rfl
theorem vm_358 : Cond.instanceMethod ⟨"WindingRasterModel", "runsTo", "(I)I"⟩ ∈ vwB := vwB_t 462 rfl rfl
theorem vm_359 : Cond.code ⟨"WindingRasterModel", "runsTo", "(I)I"⟩ prog_7_method_22_code 4 (Option.some Jvm.ClassFile.FieldType.int) ∈ vwB := vwB_t 463 rfl rfl
theorem vm_360 : Cond.methodLink "WindingRasterModel" 93 ⟨"WindingRasterModel", "runsOf", "(I)I"⟩ ∈ vwB := vwB_t 464 rfl rfl
theorem vm_361 : Cond.instanceMethod ⟨"WindingRasterModel", "runsOf", "(I)I"⟩ ∈ vwB := vwB_t 466 rfl rfl
theorem vm_362 : Cond.code ⟨"WindingRasterModel", "runsOf", "(I)I"⟩ prog_7_method_21_code 5 (Option.some Jvm.ClassFile.FieldType.int) ∈ vwB := vwB_t 467 rfl rfl
theorem vm_363 : Cond.methodLink "WindingRasterModel" 109 ⟨"WindingRasterModel", "pixels", "()I"⟩ ∈ vwB := vwB_t 468 rfl rfl
theorem vm_364 : Cond.instanceMethod ⟨"WindingRasterModel", "pixels", "()I"⟩ ∈ vwB := vwB_t 469 rfl rfl
theorem vm_365 : Cond.selects "WindingRasterModel" ⟨"WindingRasterModel", "pixels", "()I"⟩ ⟨"WindingRasterModel", "pixels", "()I"⟩ ∈ vwB := vwB_t 470 rfl rfl
theorem vm_366 : Cond.code ⟨"WindingRasterModel", "pixels", "()I"⟩ prog_7_method_29_code 4 (Option.some Jvm.ClassFile.FieldType.int) ∈ vwB := vwB_t 471 rfl rfl
theorem vm_367 : Cond.methodLink "WindingRasterLaw" 59 ⟨"WindingRasterModel", "save", "()I"⟩ ∈ vwB := vwB_t 472 rfl rfl
theorem vm_368 : Cond.instanceMethod ⟨"WindingRasterModel", "save", "()I"⟩ ∈ vwB := vwB_t 473 rfl rfl
theorem vm_369 : Cond.selects "WindingRasterModel" ⟨"WindingRasterModel", "save", "()I"⟩ ⟨"WindingRasterModel", "save", "()I"⟩ ∈ vwB := vwB_t 474 rfl rfl
theorem vm_370 : Cond.code ⟨"WindingRasterModel", "save", "()I"⟩ prog_7_method_25_code 2 (Option.some Jvm.ClassFile.FieldType.int) ∈ vwB := vwB_t 475 rfl rfl
theorem vm_371 : Cond.methodLink "WindingRasterLaw" 63 ⟨"WindingRasterModel", "restore", "()I"⟩ ∈ vwB := vwB_t 476 rfl rfl
theorem vm_372 : Cond.instanceMethod ⟨"WindingRasterModel", "restore", "()I"⟩ ∈ vwB := vwB_t 477 rfl rfl
theorem vm_373 : Cond.selects "WindingRasterModel" ⟨"WindingRasterModel", "restore", "()I"⟩ ⟨"WindingRasterModel", "restore", "()I"⟩ ∈ vwB := vwB_t 478 rfl rfl
theorem vm_374 : Cond.code ⟨"WindingRasterModel", "restore", "()I"⟩ prog_7_method_26_code 1 (Option.some Jvm.ClassFile.FieldType.int) ∈ vwB := vwB_t 479 rfl rfl
theorem vm_375 : Cond.methodLink "WindingRasterLaw" 67 ⟨"WindingRasterModel", "gray", "(II)I"⟩ ∈ vwB := vwB_t 480 rfl rfl
theorem vm_376 : Cond.instanceMethod ⟨"WindingRasterModel", "gray", "(II)I"⟩ ∈ vwB := vwB_t 481 rfl rfl
theorem vm_377 : Cond.selects "WindingRasterModel" ⟨"WindingRasterModel", "gray", "(II)I"⟩ ⟨"WindingRasterModel", "gray", "(II)I"⟩ ∈ vwB := vwB_t 482 rfl rfl
theorem vm_378 : Cond.code ⟨"WindingRasterModel", "gray", "(II)I"⟩ prog_7_method_27_code 3 (Option.some Jvm.ClassFile.FieldType.int) ∈ vwB := vwB_t 483 rfl rfl
theorem vm_379 : Cond.methodLink "WindingRasterLaw" 71 ⟨"WindingRasterModel", "open", "(II)I"⟩ ∈ vwB := vwB_t 484 rfl rfl
theorem vm_380 : Cond.instanceMethod ⟨"WindingRasterModel", "open", "(II)I"⟩ ∈ vwB := vwB_t 485 rfl rfl
theorem vm_381 : Cond.selects "WindingRasterModel" ⟨"WindingRasterModel", "open", "(II)I"⟩ ⟨"WindingRasterModel", "open", "(II)I"⟩ ∈ vwB := vwB_t 486 rfl rfl
theorem vm_382 : Cond.code ⟨"WindingRasterModel", "open", "(II)I"⟩ prog_7_method_28_code 3 (Option.some Jvm.ClassFile.FieldType.int) ∈ vwB := vwB_t 487 rfl rfl
theorem vm_383 : Cond.methodLink "WindingRasterLaw" 75 ⟨"WindingRasterModel", "pixels", "()I"⟩ ∈ vwB := vwB_t 488 rfl rfl
theorem vm_384 : Cond.methodLink "WindingRasterLaw" 79 ⟨"WindingRasterModel", "runs", "()I"⟩ ∈ vwB := vwB_t 489 rfl rfl
theorem vm_385 : Cond.instanceMethod ⟨"WindingRasterModel", "runs", "()I"⟩ ∈ vwB := vwB_t 490 rfl rfl
theorem vm_386 : Cond.selects "WindingRasterModel" ⟨"WindingRasterModel", "runs", "()I"⟩ ⟨"WindingRasterModel", "runs", "()I"⟩ ∈ vwB := vwB_t 491 rfl rfl
theorem vm_387 : Cond.code ⟨"WindingRasterModel", "runs", "()I"⟩ prog_7_method_30_code 1 (Option.some Jvm.ClassFile.FieldType.int) ∈ vwB := vwB_t 492 rfl rfl
theorem vm_388 : Cond.methodLink "WindingRasterLaw" 83 ⟨"WindingRasterModel", "count", "(II)I"⟩ ∈ vwB := vwB_t 493 rfl rfl
theorem vm_389 : Cond.instanceMethod ⟨"WindingRasterModel", "count", "(II)I"⟩ ∈ vwB := vwB_t 494 rfl rfl
theorem vm_390 : Cond.selects "WindingRasterModel" ⟨"WindingRasterModel", "count", "(II)I"⟩ ⟨"WindingRasterModel", "count", "(II)I"⟩ ∈ vwB := vwB_t 495 rfl rfl
theorem vm_391 : Cond.code ⟨"WindingRasterModel", "count", "(II)I"⟩ prog_7_method_31_code 5 (Option.some Jvm.ClassFile.FieldType.int) ∈ vwB := vwB_t 496 rfl rfl
theorem vm_392 : Cond.methodLink "WindingRasterLaw" 87 ⟨"WindingRasterModel", "flood", "(I)I"⟩ ∈ vwB := vwB_t 497 rfl rfl
theorem vm_393 : Cond.instanceMethod ⟨"WindingRasterModel", "flood", "(I)I"⟩ ∈ vwB := vwB_t 498 rfl rfl
theorem vm_394 : Cond.selects "WindingRasterModel" ⟨"WindingRasterModel", "flood", "(I)I"⟩ ⟨"WindingRasterModel", "flood", "(I)I"⟩ ∈ vwB := vwB_t 499 rfl rfl
theorem vm_395 : Cond.code ⟨"WindingRasterModel", "flood", "(I)I"⟩ prog_7_method_32_code 5 (Option.some Jvm.ClassFile.FieldType.int) ∈ vwB := vwB_t 500 rfl rfl
theorem vm_396 : Cond.selects "WindingRaster$Outline" ⟨"WindingRaster$Outline", "isFull", "()Z"⟩ ⟨"WindingRaster$Outline", "isFull", "()Z"⟩ ∈ vwB := vwB_p 0 rfl rfl
theorem vm_397 : Cond.selects "WindingRaster$Outline" ⟨"WindingRaster$Outline", "begin", "(II)V"⟩ ⟨"WindingRaster$Outline", "begin", "(II)V"⟩ ∈ vwB := vwB_p 1 rfl rfl
theorem vm_398 : Cond.selects "WindingRaster$Outline" ⟨"WindingRaster$Outline", "addPoint", "(II)V"⟩ ⟨"WindingRaster$Outline", "addPoint", "(II)V"⟩ ∈ vwB := vwB_p 2 rfl rfl
theorem vm_399 : Cond.selects "WindingRaster$Outline" ⟨"WindingRaster$Outline", "hasLine", "()Z"⟩ ⟨"WindingRaster$Outline", "hasLine", "()Z"⟩ ∈ vwB := vwB_p 3 rfl rfl
theorem vm_400 : Cond.selects "WindingRaster$Outline" ⟨"WindingRaster$Outline", "goOn", "(II)V"⟩ ⟨"WindingRaster$Outline", "goOn", "(II)V"⟩ ∈ vwB := vwB_p 4 rfl rfl
theorem vm_401 : Cond.selects "WindingRaster$Outline" ⟨"WindingRaster$Outline", "forget", "()V"⟩ ⟨"WindingRaster$Outline", "forget", "()V"⟩ ∈ vwB := vwB_p 5 rfl rfl
theorem vm_402 : Cond.selects "WindingRaster" ⟨"WindingRaster", "hasPixel", "(II)Z"⟩ ⟨"WindingRaster", "hasPixel", "(II)Z"⟩ ∈ vwB := vwB_p 6 rfl rfl
theorem vm_403 : Cond.selects "WindingRaster$Outline" ⟨"WindingRaster$Outline", "windingAt", "(II)I"⟩ ⟨"WindingRaster$Outline", "windingAt", "(II)I"⟩ ∈ vwB := vwB_p 7 rfl rfl
theorem vm_404 : Cond.selects "WindingRaster$Outline" ⟨"WindingRaster$Outline", "stepAt", "(II)I"⟩ ⟨"WindingRaster$Outline", "stepAt", "(II)I"⟩ ∈ vwB := vwB_p 8 rfl rfl
theorem vm_405 : Cond.selects "WindingRaster$Outline" ⟨"WindingRaster$Outline", "hasEdge", "(I)Z"⟩ ⟨"WindingRaster$Outline", "hasEdge", "(I)Z"⟩ ∈ vwB := vwB_p 9 rfl rfl
theorem vm_406 : Cond.selects "WindingRaster$Outline" ⟨"WindingRaster$Outline", "firstColumn", "(II)I"⟩ ⟨"WindingRaster$Outline", "firstColumn", "(II)I"⟩ ∈ vwB := vwB_p 10 rfl rfl
theorem vm_407 : Cond.selects "WindingRaster" ⟨"WindingRaster", "cutClip", "(I)V"⟩ ⟨"WindingRaster", "cutClip", "(I)V"⟩ ∈ vwB := vwB_p 11 rfl rfl
theorem vm_408 : Cond.selects "WindingRaster$ClipPile" ⟨"WindingRaster$ClipPile", "start", "()I"⟩ ⟨"WindingRaster$ClipPile", "start", "()I"⟩ ∈ vwB := vwB_p 12 rfl rfl
theorem vm_409 : Cond.selects "WindingRaster$ClipPile" ⟨"WindingRaster$ClipPile", "runAt", "(I)I"⟩ ⟨"WindingRaster$ClipPile", "runAt", "(I)I"⟩ ∈ vwB := vwB_p 13 rfl rfl
theorem vm_410 : Cond.selects "WindingRaster$Outline" ⟨"WindingRaster$Outline", "windRow", "(I[I)Z"⟩ ⟨"WindingRaster$Outline", "windRow", "(I[I)Z"⟩ ∈ vwB := vwB_p 14 rfl rfl
theorem vm_411 : Cond.selects "WindingRaster" ⟨"WindingRaster", "cutRun", "(II)V"⟩ ⟨"WindingRaster", "cutRun", "(II)V"⟩ ∈ vwB := vwB_p 15 rfl rfl
theorem vm_412 : Cond.selects "WindingRaster$RunList" ⟨"WindingRaster$RunList", "add", "(I)V"⟩ ⟨"WindingRaster$RunList", "add", "(I)V"⟩ ∈ vwB := vwB_p 16 rfl rfl
theorem vm_413 : Cond.selects "WindingRaster" ⟨"WindingRaster", "paint", "([IIII)I"⟩ ⟨"WindingRaster", "paint", "([IIII)I"⟩ ∈ vwB := vwB_p 17 rfl rfl
theorem vm_414 : Cond.selects "WindingRaster" ⟨"WindingRaster", "paintRun", "(II)V"⟩ ⟨"WindingRaster", "paintRun", "(II)V"⟩ ∈ vwB := vwB_p 18 rfl rfl
theorem vm_415 : Cond.selects "WindingRaster$ClipPile" ⟨"WindingRaster$ClipPile", "replace", "(LWindingRaster$RunList;)Z"⟩ ⟨"WindingRaster$ClipPile", "replace", "(LWindingRaster$RunList;)Z"⟩ ∈ vwB := vwB_p 19 rfl rfl
theorem vm_416 : Cond.selects "WindingRaster$ClipPile" ⟨"WindingRaster$ClipPile", "copyRuns", "([IIII)Z"⟩ ⟨"WindingRaster$ClipPile", "copyRuns", "([IIII)Z"⟩ ∈ vwB := vwB_p 20 rfl rfl
theorem vm_417 : Cond.selects "WindingRaster$ClipPile" ⟨"WindingRaster$ClipPile", "pixelCount", "()I"⟩ ⟨"WindingRaster$ClipPile", "pixelCount", "()I"⟩ ∈ vwB := vwB_p 21 rfl rfl
theorem vm_418 : Cond.selects "WindingRaster$ClipPile" ⟨"WindingRaster$ClipPile", "push", "()Z"⟩ ⟨"WindingRaster$ClipPile", "push", "()Z"⟩ ∈ vwB := vwB_p 22 rfl rfl
theorem vm_419 : Cond.selects "WindingRaster$ClipPile" ⟨"WindingRaster$ClipPile", "pop", "()Z"⟩ ⟨"WindingRaster$ClipPile", "pop", "()Z"⟩ ∈ vwB := vwB_p 23 rfl rfl
theorem vm_420 : Cond.selects "WindingRaster$ClipPile" ⟨"WindingRaster$ClipPile", "has", "(II)Z"⟩ ⟨"WindingRaster$ClipPile", "has", "(II)Z"⟩ ∈ vwB := vwB_p 24 rfl rfl
theorem vm_421 : Cond.selects "WindingRasterModel" ⟨"WindingRasterModel", "put", "(III)I"⟩ ⟨"WindingRasterModel", "put", "(III)I"⟩ ∈ vwB := vwB_p 25 rfl rfl
theorem vm_422 : Cond.selects "WindingRasterModel" ⟨"WindingRasterModel", "isPixel", "(II)Z"⟩ ⟨"WindingRasterModel", "isPixel", "(II)Z"⟩ ∈ vwB := vwB_p 26 rfl rfl
theorem vm_423 : Cond.selects "WindingRasterModel" ⟨"WindingRasterModel", "meet", "(I)V"⟩ ⟨"WindingRasterModel", "meet", "(I)V"⟩ ∈ vwB := vwB_p 27 rfl rfl
theorem vm_424 : Cond.selects "WindingRasterModel" ⟨"WindingRasterModel", "next", "(I)I"⟩ ⟨"WindingRasterModel", "next", "(I)I"⟩ ∈ vwB := vwB_p 28 rfl rfl
theorem vm_425 : Cond.selects "WindingRasterModel" ⟨"WindingRasterModel", "windings", "(II)I"⟩ ⟨"WindingRasterModel", "windings", "(II)I"⟩ ∈ vwB := vwB_p 29 rfl rfl
theorem vm_426 : Cond.selects "WindingRasterModel" ⟨"WindingRasterModel", "isLeft", "(IJJ)Z"⟩ ⟨"WindingRasterModel", "isLeft", "(IJJ)Z"⟩ ∈ vwB := vwB_p 30 rfl rfl
theorem vm_427 : Cond.selects "WindingRasterModel" ⟨"WindingRasterModel", "isOpen", "(II)Z"⟩ ⟨"WindingRasterModel", "isOpen", "(II)Z"⟩ ∈ vwB := vwB_p 31 rfl rfl
theorem vm_428 : Cond.selects "WindingRasterModel" ⟨"WindingRasterModel", "setOpen", "(IIZ)V"⟩ ⟨"WindingRasterModel", "setOpen", "(IIZ)V"⟩ ∈ vwB := vwB_p 32 rfl rfl
theorem vm_429 : Cond.selects "WindingRasterModel" ⟨"WindingRasterModel", "runsTo", "(I)I"⟩ ⟨"WindingRasterModel", "runsTo", "(I)I"⟩ ∈ vwB := vwB_p 33 rfl rfl
theorem vm_430 : Cond.selects "WindingRasterModel" ⟨"WindingRasterModel", "runsOf", "(I)I"⟩ ⟨"WindingRasterModel", "runsOf", "(I)I"⟩ ∈ vwB := vwB_p 34 rfl rfl
theorem vn_0 : Cond.methodLinkNest "WindingRaster" 37 ⟨"WindingRaster$Outline", "<init>", "()V"⟩ "WindingRaster" ∈ vwNw := List.mem_of_getElem? (i := 0) rfl
theorem vn_1 : Cond.fieldLinkNest "WindingRaster" 74 "WindingRaster$Outline" "size" "I" "WindingRaster" ∈ vwNw := List.mem_of_getElem? (i := 1) rfl
theorem vn_2 : Cond.methodLinkNest "WindingRaster" 44 ⟨"WindingRaster$ClipPile", "<init>", "(II)V"⟩ "WindingRaster" ∈ vwNw := List.mem_of_getElem? (i := 2) rfl
theorem vn_3 : Cond.methodLinkNest "WindingRaster$ClipPile" 18 ⟨"WindingRaster$Run", "of", "(III)I"⟩ "WindingRaster" ∈ vwNw := List.mem_of_getElem? (i := 3) rfl
theorem vn_4 : Cond.fieldLinkNest "WindingRaster" 133 "WindingRaster$ClipPile" "items" "[I" "WindingRaster" ∈ vwNw := List.mem_of_getElem? (i := 4) rfl
theorem vn_5 : Cond.fieldLinkNest "WindingRaster" 121 "WindingRaster$ClipPile" "saved" "I" "WindingRaster" ∈ vwNw := List.mem_of_getElem? (i := 5) rfl
theorem vn_6 : Cond.fieldLinkNest "WindingRaster" 130 "WindingRaster$ClipPile" "end" "I" "WindingRaster" ∈ vwNw := List.mem_of_getElem? (i := 6) rfl
theorem vn_7 : Cond.methodLinkNest "WindingRaster" 56 ⟨"WindingRaster$RunList", "<init>", "(I)V"⟩ "WindingRaster" ∈ vwNw := List.mem_of_getElem? (i := 7) rfl
theorem vn_8 : Cond.fieldLinkNest "WindingRaster$ClipPile" 45 "WindingRaster$RunList" "items" "[I" "WindingRaster" ∈ vwNw := List.mem_of_getElem? (i := 8) rfl
theorem vn_9 : Cond.fieldLinkNest "WindingRaster" 102 "WindingRaster$RunList" "items" "[I" "WindingRaster" ∈ vwNw := List.mem_of_getElem? (i := 9) rfl
theorem vn_10 : Cond.fieldLinkNest "WindingRaster$ClipPile" 48 "WindingRaster$RunList" "size" "I" "WindingRaster" ∈ vwNw := List.mem_of_getElem? (i := 10) rfl
theorem vn_11 : Cond.fieldLinkNest "WindingRaster" 105 "WindingRaster$RunList" "size" "I" "WindingRaster" ∈ vwNw := List.mem_of_getElem? (i := 11) rfl
theorem vn_12 : Cond.methodLinkNest "WindingRaster" 67 ⟨"WindingRaster$Outline", "isFull", "()Z"⟩ "WindingRaster" ∈ vwNw := List.mem_of_getElem? (i := 12) rfl
theorem vn_13 : Cond.methodLinkNest "WindingRaster" 71 ⟨"WindingRaster$Outline", "begin", "(II)V"⟩ "WindingRaster" ∈ vwNw := List.mem_of_getElem? (i := 13) rfl
theorem vn_14 : Cond.methodLinkNest "WindingRaster" 77 ⟨"WindingRaster$Outline", "hasLine", "()Z"⟩ "WindingRaster" ∈ vwNw := List.mem_of_getElem? (i := 14) rfl
theorem vn_15 : Cond.methodLinkNest "WindingRaster" 80 ⟨"WindingRaster$Outline", "goOn", "(II)V"⟩ "WindingRaster" ∈ vwNw := List.mem_of_getElem? (i := 15) rfl
theorem vn_16 : Cond.methodLinkNest "WindingRaster" 83 ⟨"WindingRaster$Outline", "forget", "()V"⟩ "WindingRaster" ∈ vwNw := List.mem_of_getElem? (i := 16) rfl
theorem vn_17 : Cond.methodLinkNest "WindingRaster" 90 ⟨"WindingRaster$Outline", "windingAt", "(II)I"⟩ "WindingRaster" ∈ vwNw := List.mem_of_getElem? (i := 17) rfl
theorem vn_18 : Cond.methodLinkNest "WindingRaster" 134 ⟨"WindingRaster$ClipPile", "start", "()I"⟩ "WindingRaster" ∈ vwNw := List.mem_of_getElem? (i := 18) rfl
theorem vn_19 : Cond.methodLinkNest "WindingRaster" 139 ⟨"WindingRaster$ClipPile", "runAt", "(I)I"⟩ "WindingRaster" ∈ vwNw := List.mem_of_getElem? (i := 19) rfl
theorem vn_20 : Cond.methodLinkNest "WindingRaster" 143 ⟨"WindingRaster$Run", "rowOf", "(I)I"⟩ "WindingRaster" ∈ vwNw := List.mem_of_getElem? (i := 20) rfl
theorem vn_21 : Cond.methodLinkNest "WindingRaster" 148 ⟨"WindingRaster$Outline", "windRow", "(I[I)Z"⟩ "WindingRaster" ∈ vwNw := List.mem_of_getElem? (i := 21) rfl
theorem vn_22 : Cond.methodLinkNest "WindingRaster" 155 ⟨"WindingRaster$Run", "endOf", "(I)I"⟩ "WindingRaster" ∈ vwNw := List.mem_of_getElem? (i := 22) rfl
theorem vn_23 : Cond.methodLinkNest "WindingRaster" 158 ⟨"WindingRaster$Run", "fromOf", "(I)I"⟩ "WindingRaster" ∈ vwNw := List.mem_of_getElem? (i := 23) rfl
theorem vn_24 : Cond.methodLinkNest "WindingRaster" 164 ⟨"WindingRaster$Run", "of", "(III)I"⟩ "WindingRaster" ∈ vwNw := List.mem_of_getElem? (i := 24) rfl
theorem vn_25 : Cond.methodLinkNest "WindingRaster" 168 ⟨"WindingRaster$RunList", "add", "(I)V"⟩ "WindingRaster" ∈ vwNw := List.mem_of_getElem? (i := 25) rfl
theorem vn_26 : Cond.methodLinkNest "WindingRaster" 174 ⟨"WindingRaster$Run", "lengthOf", "(I)I"⟩ "WindingRaster" ∈ vwNw := List.mem_of_getElem? (i := 26) rfl
theorem vn_27 : Cond.methodLinkNest "WindingRaster" 110 ⟨"WindingRaster$ClipPile", "replace", "(LWindingRaster$RunList;)Z"⟩ "WindingRaster" ∈ vwNw := List.mem_of_getElem? (i := 27) rfl
theorem vn_28 : Cond.methodLinkNest "WindingRaster" 114 ⟨"WindingRaster$ClipPile", "pixelCount", "()I"⟩ "WindingRaster" ∈ vwNw := List.mem_of_getElem? (i := 28) rfl
theorem vn_29 : Cond.methodLinkNest "WindingRaster$ClipPile" 70 ⟨"WindingRaster$Run", "lengthOf", "(I)I"⟩ "WindingRaster" ∈ vwNw := List.mem_of_getElem? (i := 29) rfl
theorem vn_30 : Cond.methodLinkNest "WindingRaster" 118 ⟨"WindingRaster$ClipPile", "push", "()Z"⟩ "WindingRaster" ∈ vwNw := List.mem_of_getElem? (i := 30) rfl
theorem vn_31 : Cond.methodLinkNest "WindingRaster" 124 ⟨"WindingRaster$ClipPile", "pop", "()Z"⟩ "WindingRaster" ∈ vwNw := List.mem_of_getElem? (i := 31) rfl
theorem vn_32 : Cond.methodLinkNest "WindingRaster" 127 ⟨"WindingRaster$ClipPile", "has", "(II)Z"⟩ "WindingRaster" ∈ vwNw := List.mem_of_getElem? (i := 32) rfl
theorem vn_33 : Cond.methodLinkNest "WindingRaster$ClipPile" 61 ⟨"WindingRaster$Run", "rowOf", "(I)I"⟩ "WindingRaster" ∈ vwNw := List.mem_of_getElem? (i := 33) rfl
theorem vn_34 : Cond.methodLinkNest "WindingRaster$ClipPile" 64 ⟨"WindingRaster$Run", "fromOf", "(I)I"⟩ "WindingRaster" ∈ vwNw := List.mem_of_getElem? (i := 34) rfl
theorem vn_35 : Cond.methodLinkNest "WindingRaster$ClipPile" 67 ⟨"WindingRaster$Run", "endOf", "(I)I"⟩ "WindingRaster" ∈ vwNw := List.mem_of_getElem? (i := 35) rfl
theorem in0_W : ∀ w ∈ wsW, w ∈ vwB := by
  show ∀ w ∈ ([Cond.laysFinal "WindingRaster" "WindingRaster" "columns" "I", Cond.laysFinal "WindingRaster" "WindingRaster" "rows" "I", Cond.laysFinal "WindingRaster" "WindingRaster" "grays" "[I", Cond.laysFinal "WindingRaster" "WindingRaster" "outline" "LWindingRaster$Outline;", Cond.laysFinal "WindingRaster" "WindingRaster" "clips" "LWindingRaster$ClipPile;", Cond.laysFinal "WindingRaster" "WindingRaster" "windings" "[I", Cond.laysFinal "WindingRaster" "WindingRaster" "pieces" "LWindingRaster$RunList;"] : List Cond), w ∈ vwB
  exact List.forall_mem_cons.mpr ⟨vm_76, List.forall_mem_cons.mpr ⟨vm_77, List.forall_mem_cons.mpr ⟨vm_78, List.forall_mem_cons.mpr ⟨vm_79, List.forall_mem_cons.mpr ⟨vm_80, List.forall_mem_cons.mpr ⟨vm_81, List.forall_mem_cons.mpr ⟨vm_82, fun _ h => absurd h List.not_mem_nil⟩⟩⟩⟩⟩⟩⟩
theorem in0_O : ∀ w ∈ wsO, w ∈ vwB := by
  show ∀ w ∈ ([Cond.laysFinal "WindingRaster$Outline" "WindingRaster$Outline" "xs" "[I", Cond.laysFinal "WindingRaster$Outline" "WindingRaster$Outline" "ys" "[I", Cond.laysFinal "WindingRaster$Outline" "WindingRaster$Outline" "next" "[I", Cond.lays "WindingRaster$Outline" "WindingRaster$Outline" "size" "I", Cond.lays "WindingRaster$Outline" "WindingRaster$Outline" "lineStart" "I"] : List Cond), w ∈ vwB
  exact List.forall_mem_cons.mpr ⟨vm_37, List.forall_mem_cons.mpr ⟨vm_38, List.forall_mem_cons.mpr ⟨vm_39, List.forall_mem_cons.mpr ⟨vm_40, List.forall_mem_cons.mpr ⟨vm_41, fun _ h => absurd h List.not_mem_nil⟩⟩⟩⟩⟩
theorem in0_C : ∀ w ∈ wsC, w ∈ vwB := by
  show ∀ w ∈ ([Cond.laysFinal "WindingRaster$ClipPile" "WindingRaster$ClipPile" "items" "[I", Cond.laysFinal "WindingRaster$ClipPile" "WindingRaster$ClipPile" "starts" "[I", Cond.lays "WindingRaster$ClipPile" "WindingRaster$ClipPile" "saved" "I", Cond.lays "WindingRaster$ClipPile" "WindingRaster$ClipPile" "end" "I"] : List Cond), w ∈ vwB
  exact List.forall_mem_cons.mpr ⟨vm_55, List.forall_mem_cons.mpr ⟨vm_56, List.forall_mem_cons.mpr ⟨vm_57, List.forall_mem_cons.mpr ⟨vm_58, fun _ h => absurd h List.not_mem_nil⟩⟩⟩⟩
theorem in0_L : ∀ w ∈ wsL, w ∈ vwB := by
  show ∀ w ∈ ([Cond.laysFinal "WindingRaster$RunList" "WindingRaster$RunList" "items" "[I", Cond.lays "WindingRaster$RunList" "WindingRaster$RunList" "size" "I"] : List Cond), w ∈ vwB
  exact List.forall_mem_cons.mpr ⟨vm_67, List.forall_mem_cons.mpr ⟨vm_68, fun _ h => absurd h List.not_mem_nil⟩⟩
theorem in0_M : ∀ w ∈ wsM, w ∈ vwB := by
  show ∀ w ∈ ([Cond.laysFinal "WindingRasterModel" "WindingRasterModel" "columns" "I", Cond.laysFinal "WindingRasterModel" "WindingRasterModel" "rows" "I", Cond.laysFinal "WindingRasterModel" "WindingRasterModel" "grays" "[B", Cond.laysFinal "WindingRasterModel" "WindingRasterModel" "masks" "[S", Cond.lays "WindingRasterModel" "WindingRasterModel" "saved" "I", Cond.laysFinal "WindingRasterModel" "WindingRasterModel" "xs" "[I", Cond.laysFinal "WindingRasterModel" "WindingRasterModel" "ys" "[I", Cond.laysFinal "WindingRasterModel" "WindingRasterModel" "firsts" "[I", Cond.lays "WindingRasterModel" "WindingRasterModel" "points" "I", Cond.laysFinal "WindingRasterModel" "WindingRasterModel" "met" "[I", Cond.lays "WindingRasterModel" "WindingRasterModel" "meets" "I"] : List Cond), w ∈ vwB
  exact List.forall_mem_cons.mpr ⟨vm_272, List.forall_mem_cons.mpr ⟨vm_273, List.forall_mem_cons.mpr ⟨vm_274, List.forall_mem_cons.mpr ⟨vm_275, List.forall_mem_cons.mpr ⟨vm_276, List.forall_mem_cons.mpr ⟨vm_277, List.forall_mem_cons.mpr ⟨vm_278, List.forall_mem_cons.mpr ⟨vm_279, List.forall_mem_cons.mpr ⟨vm_280, List.forall_mem_cons.mpr ⟨vm_281, List.forall_mem_cons.mpr ⟨vm_282, fun _ h => absurd h List.not_mem_nil⟩⟩⟩⟩⟩⟩⟩⟩⟩⟩⟩
theorem vx_max : Cond.code Lib.Math.max.name Lib.Math.max.code 2 (some .int) ∈ vwB := vwB_t 23 (by decide +kernel) rfl
theorem vx_min : Cond.code Lib.Math.min.name Lib.Math.min.code 2 (some .int) ∈ vwB := vwB_t 20 (by decide +kernel) rfl
theorem vx_obj : Cond.code objectInit ⟨#[0xb1]⟩ 1 none ∈ vwB := vwB_t 17 (by decide +kernel) rfl
def wW_init : List Cond := .code yW_init bW_init 3 (Option.none : Option Jvm.ClassFile.FieldType) :: vwB
def wJM_min : List Cond := .code yJM_min bJM_min 2 (Option.some Jvm.ClassFile.FieldType.int) :: vwB
def wJM_max : List Cond := .code yJM_max bJM_max 2 (Option.some Jvm.ClassFile.FieldType.int) :: vwB
def wJA_fill : List Cond := .code yJA_fill bJA_fill 4 (Option.none : Option Jvm.ClassFile.FieldType) :: vwB
def wO_init : List Cond := .code yO_init bO_init 1 (Option.none : Option Jvm.ClassFile.FieldType) :: vwB
def wC_init : List Cond := .code yC_init bC_init 4 (Option.none : Option Jvm.ClassFile.FieldType) :: vwB
def wR_of : List Cond := .code yR_of bR_of 3 (Option.some Jvm.ClassFile.FieldType.int) :: vwB
def wL_init : List Cond := .code yL_init bL_init 2 (Option.none : Option Jvm.ClassFile.FieldType) :: vwB
def wW_columns : List Cond := .code yW_columns bW_columns 1 (Option.some Jvm.ClassFile.FieldType.int) :: vwB
def wW_rows : List Cond := .code yW_rows bW_rows 1 (Option.some Jvm.ClassFile.FieldType.int) :: vwB
def wW_move : List Cond := .code yW_move bW_move 3 (Option.some Jvm.ClassFile.FieldType.int) :: vwB
def wW_isPlace : List Cond := .code yW_isPlace bW_isPlace 1 (Option.some Jvm.ClassFile.FieldType.boolean) :: vwB
def wO_isFull : List Cond := .code yO_isFull bO_isFull 1 (Option.some Jvm.ClassFile.FieldType.boolean) :: vwB
def wO_begin : List Cond := .code yO_begin bO_begin 3 (Option.none : Option Jvm.ClassFile.FieldType) :: vwB
def wO_addPoint : List Cond := .code yO_addPoint bO_addPoint 3 (Option.none : Option Jvm.ClassFile.FieldType) :: vwB
def wW_line : List Cond := .code yW_line bW_line 3 (Option.some Jvm.ClassFile.FieldType.int) :: vwB
def wO_hasLine : List Cond := .code yO_hasLine bO_hasLine 1 (Option.some Jvm.ClassFile.FieldType.boolean) :: vwB
def wO_goOn : List Cond := .code yO_goOn bO_goOn 3 (Option.none : Option Jvm.ClassFile.FieldType) :: vwB
def wW_clear : List Cond := .code yW_clear bW_clear 2 (Option.some Jvm.ClassFile.FieldType.int) :: vwB
def wO_forget : List Cond := .code yO_forget bO_forget 1 (Option.none : Option Jvm.ClassFile.FieldType) :: vwB
def wW_winding : List Cond := .code yW_winding bW_winding 3 (Option.some Jvm.ClassFile.FieldType.int) :: vwB
def wW_hasPixel : List Cond := .code yW_hasPixel bW_hasPixel 3 (Option.some Jvm.ClassFile.FieldType.boolean) :: vwB
def wO_windingAt : List Cond := .code yO_windingAt bO_windingAt 7 (Option.some Jvm.ClassFile.FieldType.int) :: vwB
def wO_centreOf : List Cond := .code yO_centreOf bO_centreOf 1 (Option.some Jvm.ClassFile.FieldType.int) :: vwB
def wO_stepAt : List Cond := .code yO_stepAt bO_stepAt 5 (Option.some Jvm.ClassFile.FieldType.int) :: vwB
def wO_hasEdge : List Cond := .code yO_hasEdge bO_hasEdge 2 (Option.some Jvm.ClassFile.FieldType.boolean) :: vwB
def wO_firstColumn : List Cond := .code yO_firstColumn bO_firstColumn 13 (Option.some Jvm.ClassFile.FieldType.int) :: vwB
def wJM_floorDiv : List Cond := .code yJM_floorDiv bJM_floorDiv 6 (Option.some Jvm.ClassFile.FieldType.long) :: vwB
def wW_fill : List Cond := .code yW_fill bW_fill 3 (Option.some Jvm.ClassFile.FieldType.int) :: vwB
def wW_isRule : List Cond := .code yW_isRule bW_isRule 1 (Option.some Jvm.ClassFile.FieldType.boolean) :: vwB
def wW_isGray : List Cond := .code yW_isGray bW_isGray 1 (Option.some Jvm.ClassFile.FieldType.boolean) :: vwB
def wW_cutClip : List Cond := .code yW_cutClip bW_cutClip 6 (Option.none : Option Jvm.ClassFile.FieldType) :: vwB
def wC_start : List Cond := .code yC_start bC_start 1 (Option.some Jvm.ClassFile.FieldType.int) :: vwB
def wC_runAt : List Cond := .code yC_runAt bC_runAt 2 (Option.some Jvm.ClassFile.FieldType.int) :: vwB
def wR_rowOf : List Cond := .code yR_rowOf bR_rowOf 1 (Option.some Jvm.ClassFile.FieldType.int) :: vwB
def wO_windRow : List Cond := .code yO_windRow bO_windRow 8 (Option.some Jvm.ClassFile.FieldType.boolean) :: vwB
def wW_cutRun : List Cond := .code yW_cutRun bW_cutRun 8 (Option.none : Option Jvm.ClassFile.FieldType) :: vwB
def wR_endOf : List Cond := .code yR_endOf bR_endOf 1 (Option.some Jvm.ClassFile.FieldType.int) :: vwB
def wR_fromOf : List Cond := .code yR_fromOf bR_fromOf 1 (Option.some Jvm.ClassFile.FieldType.int) :: vwB
def wW_isInside : List Cond := .code yW_isInside bW_isInside 2 (Option.some Jvm.ClassFile.FieldType.boolean) :: vwB
def wL_add : List Cond := .code yL_add bL_add 2 (Option.none : Option Jvm.ClassFile.FieldType) :: vwB
def wW_paint : List Cond := .code yW_paint bW_paint 7 (Option.some Jvm.ClassFile.FieldType.int) :: vwB
def wW_paintRun : List Cond := .code yW_paintRun bW_paintRun 6 (Option.none : Option Jvm.ClassFile.FieldType) :: vwB
def wR_lengthOf : List Cond := .code yR_lengthOf bR_lengthOf 1 (Option.some Jvm.ClassFile.FieldType.int) :: vwB
def wW_clip : List Cond := .code yW_clip bW_clip 2 (Option.some Jvm.ClassFile.FieldType.int) :: vwB
def wC_replace : List Cond := .code yC_replace bC_replace 2 (Option.some Jvm.ClassFile.FieldType.boolean) :: vwB
def wC_copyRuns : List Cond := .code yC_copyRuns bC_copyRuns 5 (Option.some Jvm.ClassFile.FieldType.boolean) :: vwB
def wC_pixelCount : List Cond := .code yC_pixelCount bC_pixelCount 3 (Option.some Jvm.ClassFile.FieldType.int) :: vwB
def wW_save : List Cond := .code yW_save bW_save 1 (Option.some Jvm.ClassFile.FieldType.int) :: vwB
def wC_push : List Cond := .code yC_push bC_push 2 (Option.some Jvm.ClassFile.FieldType.boolean) :: vwB
def wW_restore : List Cond := .code yW_restore bW_restore 1 (Option.some Jvm.ClassFile.FieldType.int) :: vwB
def wC_pop : List Cond := .code yC_pop bC_pop 1 (Option.some Jvm.ClassFile.FieldType.boolean) :: vwB
def wW_gray : List Cond := .code yW_gray bW_gray 3 (Option.some Jvm.ClassFile.FieldType.int) :: vwB
def wW_open : List Cond := .code yW_open bW_open 3 (Option.some Jvm.ClassFile.FieldType.int) :: vwB
def wC_has : List Cond := .code yC_has bC_has 5 (Option.some Jvm.ClassFile.FieldType.boolean) :: vwB
def wW_pixels : List Cond := .code yW_pixels bW_pixels 1 (Option.some Jvm.ClassFile.FieldType.int) :: vwB
def wW_runs : List Cond := .code yW_runs bW_runs 1 (Option.some Jvm.ClassFile.FieldType.int) :: vwB
def wW_count : List Cond := .code yW_count bW_count 5 (Option.some Jvm.ClassFile.FieldType.int) :: vwB
def wW_flood : List Cond := .code yW_flood bW_flood 2 (Option.some Jvm.ClassFile.FieldType.int) :: vwB
def wLW_cell : List Cond := .code yLW_cell bLW_cell 2 (Option.some Jvm.ClassFile.FieldType.int) :: vwB
def wM_init : List Cond := .code yM_init bM_init 4 (Option.none : Option Jvm.ClassFile.FieldType) :: vwB
def wM_side : List Cond := .code yM_side bM_side 1 (Option.some Jvm.ClassFile.FieldType.int) :: vwB
def wM_columns : List Cond := .code yM_columns bM_columns 1 (Option.some Jvm.ClassFile.FieldType.int) :: vwB
def wM_rows : List Cond := .code yM_rows bM_rows 1 (Option.some Jvm.ClassFile.FieldType.int) :: vwB
def wM_move : List Cond := .code yM_move bM_move 3 (Option.some Jvm.ClassFile.FieldType.int) :: vwB
def wM_isPlace : List Cond := .code yM_isPlace bM_isPlace 1 (Option.some Jvm.ClassFile.FieldType.boolean) :: vwB
def wM_put : List Cond := .code yM_put bM_put 4 (Option.some Jvm.ClassFile.FieldType.int) :: vwB
def wM_line : List Cond := .code yM_line bM_line 3 (Option.some Jvm.ClassFile.FieldType.int) :: vwB
def wM_clear : List Cond := .code yM_clear bM_clear 2 (Option.some Jvm.ClassFile.FieldType.int) :: vwB
def wM_winding : List Cond := .code yM_winding bM_winding 3 (Option.some Jvm.ClassFile.FieldType.int) :: vwB
def wM_isPixel : List Cond := .code yM_isPixel bM_isPixel 3 (Option.some Jvm.ClassFile.FieldType.boolean) :: vwB
def wM_meet : List Cond := .code yM_meet bM_meet 7 (Option.none : Option Jvm.ClassFile.FieldType) :: vwB
def wM_centre : List Cond := .code yM_centre bM_centre 1 (Option.some Jvm.ClassFile.FieldType.long) :: vwB
def wM_next : List Cond := .code yM_next bM_next 2 (Option.some Jvm.ClassFile.FieldType.int) :: vwB
def wM_windings : List Cond := .code yM_windings bM_windings 6 (Option.some Jvm.ClassFile.FieldType.int) :: vwB
def wM_isLeft : List Cond := .code yM_isLeft bM_isLeft 11 (Option.some Jvm.ClassFile.FieldType.boolean) :: vwB
def wM_fill : List Cond := .code yM_fill bM_fill 6 (Option.some Jvm.ClassFile.FieldType.int) :: vwB
def wM_at : List Cond := .code yM_at bM_at 2 (Option.some Jvm.ClassFile.FieldType.int) :: vwB
def wM_isOpen : List Cond := .code yM_isOpen bM_isOpen 3 (Option.some Jvm.ClassFile.FieldType.boolean) :: vwB
def wM_isInside : List Cond := .code yM_isInside bM_isInside 2 (Option.some Jvm.ClassFile.FieldType.boolean) :: vwB
def wM_clip : List Cond := .code yM_clip bM_clip 4 (Option.some Jvm.ClassFile.FieldType.int) :: vwB
def wM_setOpen : List Cond := .code yM_setOpen bM_setOpen 5 (Option.none : Option Jvm.ClassFile.FieldType) :: vwB
def wM_runsTo : List Cond := .code yM_runsTo bM_runsTo 4 (Option.some Jvm.ClassFile.FieldType.int) :: vwB
def wM_runsOf : List Cond := .code yM_runsOf bM_runsOf 5 (Option.some Jvm.ClassFile.FieldType.int) :: vwB
def wM_pixels : List Cond := .code yM_pixels bM_pixels 4 (Option.some Jvm.ClassFile.FieldType.int) :: vwB
def wM_save : List Cond := .code yM_save bM_save 2 (Option.some Jvm.ClassFile.FieldType.int) :: vwB
def wM_restore : List Cond := .code yM_restore bM_restore 1 (Option.some Jvm.ClassFile.FieldType.int) :: vwB
def wM_gray : List Cond := .code yM_gray bM_gray 3 (Option.some Jvm.ClassFile.FieldType.int) :: vwB
def wM_open : List Cond := .code yM_open bM_open 3 (Option.some Jvm.ClassFile.FieldType.int) :: vwB
def wM_runs : List Cond := .code yM_runs bM_runs 1 (Option.some Jvm.ClassFile.FieldType.int) :: vwB
def wM_count : List Cond := .code yM_count bM_count 5 (Option.some Jvm.ClassFile.FieldType.int) :: vwB
def wM_flood : List Cond := .code yM_flood bM_flood 5 (Option.some Jvm.ClassFile.FieldType.int) :: vwB
