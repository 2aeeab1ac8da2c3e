/-! INT LEVEL: every int on the machine's stack is iI z (z : Int), every long lI z; int arrays hold iA F (F : Nat → Int). Rows over the kit's rows, so that conditions come as facts of Int. -/
def iI (z : Int) : Int32 := Int32.ofInt z
def lI (z : Int) : Int64 := Int64.ofInt z
def iA (F : Nat → Int) : Nat → Int32 := fun j => iI (F j)
def uZ (F : Nat → Int) (k : Nat) (z : Int) : Nat → Int := fun j => if j = k then z else F j
abbrev i32 (z : Int) : Prop := -2147483648 ≤ z ∧ z < 2147483648
abbrev i64 (z : Int) : Prop := -9223372036854775808 ≤ z ∧ z < 9223372036854775808
theorem iI_of (x : Int32) : x = iI x.toInt := (Int32.ofInt_toInt x).symm
theorem iI_rng (x : Int32) : i32 x.toInt := ⟨by have := x.le_toInt; omega, by have := x.toInt_lt; omega⟩
theorem iI_add (a b : Int) : iI a + iI b = iI (a + b) := (Int32.ofInt_add a b).symm
theorem iI_sub (a b : Int) : iI a - iI b = iI (a - b) := (Int32.ofInt_sub a b).symm
theorem iI_mul (a b : Int) : iI a * iI b = iI (a * b) := (Int32.ofInt_mul a b).symm
theorem iI_neg (a : Int) : -iI a = iI (-a) := (Int32.ofInt_neg a).symm
theorem lI_add (a b : Int) : lI a + lI b = lI (a + b) := (Int64.ofInt_add a b).symm
theorem lI_sub (a b : Int) : lI a - lI b = lI (a - b) := (Int64.ofInt_sub a b).symm
theorem lI_mul (a b : Int) : lI a * lI b = lI (a * b) := (Int64.ofInt_mul a b).symm
theorem lI_neg (a : Int) : -lI a = lI (-a) := (Int64.ofInt_neg a).symm
theorem iI_toInt {a : Int} (h : i32 a) : (iI a).toInt = a := Int32.toInt_ofInt_of_le (by have := h.1; omega) (by have := h.2; omega)
theorem lI_toInt {a : Int} (h : i64 a) : (lI a).toInt = a := Int64.toInt_ofInt_of_le (by have := h.1; omega) (by have := h.2; omega)
theorem iI_le {a b : Int} (ha : i32 a) (hb : i32 b) : iI a ≤ iI b ↔ a ≤ b := by rw [Int32.le_iff_toInt_le, iI_toInt ha, iI_toInt hb]
theorem iI_lt {a b : Int} (ha : i32 a) (hb : i32 b) : iI a < iI b ↔ a < b := by rw [Int32.lt_iff_toInt_lt, iI_toInt ha, iI_toInt hb]
theorem iI_eq {a b : Int} (ha : i32 a) (hb : i32 b) : iI a = iI b ↔ a = b := by rw [← Int32.toInt_inj, iI_toInt ha, iI_toInt hb]
theorem lI_le {a b : Int} (ha : i64 a) (hb : i64 b) : lI a ≤ lI b ↔ a ≤ b := by rw [Int64.le_iff_toInt_le, lI_toInt ha, lI_toInt hb]
theorem lI_lt {a b : Int} (ha : i64 a) (hb : i64 b) : lI a < lI b ↔ a < b := by rw [Int64.lt_iff_toInt_lt, lI_toInt ha, lI_toInt hb]
theorem lI_eq {a b : Int} (ha : i64 a) (hb : i64 b) : lI a = lI b ↔ a = b := by rw [← Int64.toInt_inj, lI_toInt ha, lI_toInt hb]
theorem iI_inc (a n : Int) {w : Int} (h : a + n = w) : iI a + Int32.ofInt n = iI w := by rw [← h]; exact iI_add a n
theorem iI_zero : iI 0 = 0 := by decide +kernel
theorem i32_0 : i32 0 := by decide
theorem iI_nat (n : Nat) : Int32.ofNat n = iI (n : Int) := by
  apply Int32.toBitVec.inj
  show BitVec.ofNat 32 n = BitVec.ofInt 32 (n : Int)
  simp
theorem iI_clamp {z : Int} {k : Nat} (hz : z = (k : Int)) (hk : k < 2147483648) : (iI z).toNatClampNeg = k := by
  subst hz
  unfold Int32.toNatClampNeg
  rw [iI_toInt (by omega)]
  exact Int.toNat_natCast k
theorem iI_in {z : Int} {k n : Nat} (hz : z = (k : Int)) (hk : k < n) (hn : n < 2147483648) : vp_in (iI z) n := by
  rw [vp_in_iff, iI_toInt (by omega)]
  omega
theorem iI_i2l {a : Int} (h : i32 a) : (iI a).toInt64 = lI a := by
  apply Int64.toInt_inj.mp
  rw [Int32.toInt_toInt64, iI_toInt h, lI_toInt (by omega)]
theorem lI_l2i (a : Int) : (lI a).toInt32 = iI a := Int64.toInt32_ofInt
theorem iA_upd (F : Nat → Int) (k : Nat) (z : Int) : upd (iA F) k (iI z) = iA (uZ F k z) := by
  funext j
  simp only [upd, iA, uZ]
  split <;> rfl
theorem iA_cpy (F G : Nat → Int) (a b n : Nat) : va_cpy (iA F) (iA G) a b n = iA (va_cpy F G a b n) := by
  funext j
  simp only [va_cpy, iA]
  split <;> rfl
theorem iI_max {a b : Int} (ha : i32 a) (hb : i32 b) : (if iI a < iI b then iI b else iI a) = iI (max a b) := by
  by_cases h : a < b
  · rw [if_pos ((iI_lt ha hb).mpr h), show max a b = b by omega]
  · rw [if_neg (fun q => h ((iI_lt ha hb).mp q)), show max a b = a by omega]
theorem iI_min {a b : Int} (ha : i32 a) (hb : i32 b) : (if iI b < iI a then iI b else iI a) = iI (min a b) := by
  by_cases h : b < a
  · rw [if_pos ((iI_lt hb ha).mpr h), show min a b = b by omega]
  · rw [if_neg (fun q => h ((iI_lt hb ha).mp q)), show min a b = a by omega]
theorem iI_shl9 (a : Int) : iI a <<< (iI 9 &&& 31) = iI (a * 512) := by
  apply Int32.toBitVec.inj
  apply BitVec.eq_of_toNat_eq
  rw [pk_shl _ _ 9 (by decide +kernel)]
  show (BitVec.ofInt 32 a).toNat * 2 ^ 9 % 2 ^ 32 = (BitVec.ofInt 32 (a * 512)).toNat
  rw [BitVec.toNat_ofInt, BitVec.toNat_ofInt]
  omega
theorem iI_shl16 (a : Int) : iI a <<< (iI 16 &&& 31) = iI (a * 65536) := by
  apply Int32.toBitVec.inj
  apply BitVec.eq_of_toNat_eq
  rw [pk_shl _ _ 16 (by decide +kernel)]
  show (BitVec.ofInt 32 a).toNat * 2 ^ 16 % 2 ^ 32 = (BitVec.ofInt 32 (a * 65536)).toNat
  rw [BitVec.toNat_ofInt, BitVec.toNat_ofInt]
  omega
theorem iI_shr9 {a : Int} (h : i32 a) : iI a >>> (iI 9 &&& 31) = iI (a / 512) := by
  apply Int32.toInt_inj.mp
  rw [pk_shr _ _ 9 (by decide +kernel), iI_toInt h, iI_toInt (by omega), Int.shiftRight_eq_div_pow]
  rfl
theorem iI_shr18 {a : Int} (h : i32 a) : iI a >>> (iI 18 &&& 31) = iI (a / 262144) := by
  apply Int32.toInt_inj.mp
  rw [pk_shr _ _ 18 (by decide +kernel), iI_toInt h, iI_toInt (by omega), Int.shiftRight_eq_div_pow]
  rfl
theorem iI_and1 (a : Int) : iI a &&& iI 1 = iI (a % 2) := by
  rw [pk_and (iI a) 1 (by decide +kernel)]
  show Int32.ofNat ((BitVec.ofInt 32 a).toNat % 2 ^ 1) = iI (a % 2)
  rw [iI_nat, BitVec.toNat_ofInt]
  congr 1
  omega
theorem iI_and15 (a : Int) : iI a &&& iI 15 = iI (a % 16) := by
  rw [pk_and (iI a) 4 (by decide +kernel)]
  show Int32.ofNat ((BitVec.ofInt 32 a).toNat % 2 ^ 4) = iI (a % 16)
  rw [iI_nat, BitVec.toNat_ofInt]
  congr 1
  omega
theorem iI_and511 (a : Int) : iI a &&& iI 511 = iI (a % 512) := by
  rw [pk_and (iI a) 9 (by decide +kernel)]
  show Int32.ofNat ((BitVec.ofInt 32 a).toNat % 2 ^ 9) = iI (a % 512)
  rw [iI_nat, BitVec.toNat_ofInt]
  congr 1
  omega
theorem iI_or9 {a b : Int} (ha : 0 ≤ a) (hb : 0 ≤ b ∧ b < 512) (h : a * 512 + b < 2147483648) : iI (a * 512) ||| iI b = iI (a * 512 + b) := by
  apply Int32.toBitVec.inj
  apply BitVec.eq_of_toNat_eq
  show (BitVec.ofInt 32 (a * 512) ||| BitVec.ofInt 32 b).toNat = (BitVec.ofInt 32 (a * 512 + b)).toNat
  rw [BitVec.toNat_or, BitVec.toNat_ofInt, BitVec.toNat_ofInt, BitVec.toNat_ofInt]
  obtain ⟨x, rfl⟩ := Int.eq_ofNat_of_zero_le ha
  obtain ⟨y, rfl⟩ := Int.eq_ofNat_of_zero_le hb.1
  have e1 : (((x : Int) * 512) % ((2 ^ 32 : Nat) : Int)).toNat = x <<< 9 := by rw [Nat.shiftLeft_eq]; omega
  have e2 : ((y : Int) % ((2 ^ 32 : Nat) : Int)).toNat = y := by omega
  have e3 : (((x : Int) * 512 + y) % ((2 ^ 32 : Nat) : Int)).toNat = x <<< 9 + y := by rw [Nat.shiftLeft_eq]; omega
  rw [e1, e2, e3, Nat.shiftLeft_add_eq_or_of_lt (by omega)]
theorem lI_shr16 {a : Int} (h : i64 a) : lI a >>> ((iI 16).toInt64 &&& 63) = lI (a / 65536) := by
  apply Int64.toInt_inj.mp
  rw [lI_toInt (by omega)]
  have e : ((iI 16).toInt64 &&& 63) = lI 16 := by decide +kernel
  rw [e]
  show ((lI a).toBitVec.sshiftRight' ((lI 16).toBitVec.smod 64)).toInt = a / 65536
  rw [show (lI 16).toBitVec.smod 64 = 16#64 by decide +kernel, BitVec.sshiftRight_eq', BitVec.toInt_sshiftRight]
  show (lI a).toInt >>> (16#64).toNat = a / 65536
  rw [lI_toInt h, show (16#64).toNat = 16 by decide, Int.shiftRight_eq_div_pow]
  rfl
theorem iI_div2 {n : Nat} (h : n < 2147483648) : iI (n : Int) / iI 2 = iI ((n / 2 : Nat) : Int) := by
  rw [← iI_nat, ← iI_nat, show iI 2 = Int32.ofNat 2 from (iI_nat 2).symm]
  exact pk_div h (by decide) (by decide)
/-! the JDK's floorDiv: the sign of an exclusive or; quotients -/
theorem lI_ne0 {y : Int} (h : i64 y) (hy : ¬ y = 0) : ¬ lI y = 0 := by
  intro q
  have e : (0 : Int64) = lI 0 := by decide +kernel
  rw [e, lI_eq h (by omega)] at q
  exact hy q
theorem lI_tdiv {x y : Int} (h1 : -4611686018427387904 ≤ x ∧ x ≤ 4611686018427387904) (h2 : i64 y) : lI x / lI y = lI (x.tdiv y) := by
  apply Int64.toInt_inj.mp
  have hne : lI x ≠ Int64.minValue := by
    intro q
    have := congrArg Int64.toInt q
    rw [lI_toInt (by omega)] at this
    have e : Int64.minValue.toInt = -9223372036854775808 := by decide +kernel
    omega
  rw [Int64.toInt_div_of_ne_left _ _ hne, lI_toInt (by omega), lI_toInt h2, lI_toInt]
  have hb : (x.tdiv y).natAbs ≤ x.natAbs := by rw [Int.natAbs_tdiv]; exact Nat.div_le_self _ _
  omega
theorem lI_xor {x y : Int} (h1 : i64 x) (h2 : i64 y) : ∃ z : Int, lI x ^^^ lI y = lI z ∧ i64 z ∧ (z < 0 ↔ ¬ (x < 0 ↔ y < 0)) := by
  refine ⟨(lI x ^^^ lI y).toInt, (Int64.ofInt_toInt _).symm, ⟨by have := (lI x ^^^ lI y).le_toInt; omega, by have := (lI x ^^^ lI y).toInt_lt; omega⟩, ?_⟩
  have hs : ∀ w : Int64, w.toInt < 0 ↔ w.toBitVec.msb = true := fun w => by
    show w.toBitVec.toInt < 0 ↔ _
    rw [BitVec.msb_eq_toInt, decide_eq_true_iff]
  have hx : x < 0 ↔ (lI x).toBitVec.msb = true := by rw [← hs, lI_toInt h1]
  have hy : y < 0 ↔ (lI y).toBitVec.msb = true := by rw [← hs, lI_toInt h2]
  rw [hs, hx, hy]
  have e : (lI x ^^^ lI y).toBitVec.msb = ((lI x).toBitVec.msb ^^ (lI y).toBitVec.msb) := by
    rw [Int64.toBitVec_xor, BitVec.msb_xor]
  rw [e]
  cases (lI x).toBitVec.msb <;> cases (lI y).toBitVec.msb <;> simp
theorem fd_td {x y : Int} (hy : ¬ y = 0) : (x.tdiv y * y = x → x.fdiv y = x.tdiv y) ∧ ((x < 0 ↔ y < 0) → x.fdiv y = x.tdiv y) ∧ (¬ (x < 0 ↔ y < 0) → ¬ x.tdiv y * y = x → x.fdiv y = x.tdiv y - 1) := by
  have h := Int.fdiv_eq_tdiv (a := x) (b := y)
  have s1 : 0 < y → y.sign = 1 := fun q => Int.sign_eq_one_of_pos q
  have s2 : y < 0 → y.sign = -1 := fun q => Int.sign_eq_neg_one_of_neg q
  refine ⟨fun e => ?_, fun e => ?_, fun e e2 => ?_⟩
  · have hd : y ∣ x := ⟨x.tdiv y, by rw [Int.mul_comm]; exact e.symm⟩
    rw [h, if_pos hd]; omega
  · rw [h]
    by_cases hd : y ∣ x
    · rw [if_pos hd]; omega
    · rw [if_neg hd]
      have h0 : ¬ x = 0 := fun q => hd (by rw [q]; exact Int.dvd_zero y)
      split <;> split <;> omega
  · have hd : ¬ y ∣ x := fun q => e2 (Int.tdiv_mul_cancel q)
    have h0 : ¬ x = 0 := fun q => hd (by rw [q]; exact Int.dvd_zero y)
    rw [h, if_neg hd]
    split <;> split <;> omega
section II
variable {p : Program} {l : Launch} {e : Env} {R : Room} {s : State} {m : MethodId} {args : Array Value} {below : List Frame} {meth : Method} {c : Code} {H : Heap} {locs : List Loc} {cells slots : Nat} {Q : State → Prop}
variable {cc : ByteArray} {pc : Nat} {ls : Array Slot} {rest : List Value} {D : va_G} {cl : List vw_C} {A : Nat → Prop} {a : Nat} {tys : List (ClassId × FieldType)} {ws : va_W} {H0 : Heap}
theorem ii_top {x y : Int} (h : x = y) (k : W p l e R s m args below meth c H locs cells slots Q (F0 m pc ls (.int (iI y) :: rest))) : W p l e R s m args below meth c H locs cells slots Q (F0 m pc ls (.int (iI x) :: rest)) := by rw [h]; exact k
theorem ll_top {x y : Int} (h : x = y) (k : W p l e R s m args below meth c H locs cells slots Q (F0 m pc ls (.long (lI y) :: rest))) : W p l e R s m args below meth c H locs cells slots Q (F0 m pc ls (.long (lI x) :: rest)) := by rw [h]; exact k
theorem ii_iconst (hx : p.tables.exec = Jvm.exec) (hb : c.code = cc) {n : Int} (hdg : decode cc pc = .ok (.iconst n, 1)) (k : W p l e R s m args below meth c H locs cells slots Q (F0 m (pc + 1) ls (.int (iI n) :: rest))) : W p l e R s m args below meth c H locs cells slots Q (F0 m pc ls rest) := lv_iconst hx hb hdg rfl k
theorem ii_bipush (hx : p.tables.exec = Jvm.exec) (hb : c.code = cc) {n : Int} (hdg : decode cc pc = .ok (.bipush n, 2)) (hv : (Int8.ofInt n).toInt32 = iI n) (k : W p l e R s m args below meth c H locs cells slots Q (F0 m (pc + 2) ls (.int (iI n) :: rest))) : W p l e R s m args below meth c H locs cells slots Q (F0 m pc ls rest) := lv_bipush hx hb hdg hv k
theorem ii_sipush (hx : p.tables.exec = Jvm.exec) (hb : c.code = cc) {n : Int} (hdg : decode cc pc = .ok (.sipush n, 3)) (hv : (Int16.ofInt n).toInt32 = iI n) (k : W p l e R s m args below meth c H locs cells slots Q (F0 m (pc + 3) ls (.int (iI n) :: rest))) : W p l e R s m args below meth c H locs cells slots Q (F0 m pc ls rest) := lv_sipush hx hb hdg hv k
theorem ii_ldc (hx : p.tables.exec = Jvm.exec) (hb : c.code = cc) {own : String} {index : Nat} {v : Int32} {n : Int} (hown : s.vm.findClass own = some m.cls) (hconst : (Jvm.Cond.constant own index v).before args s = true) (hdg : decode cc pc = .ok (.ldc index, 2)) (hv : v = iI n) (k : W p l e R s m args below meth c H locs cells slots Q (F0 m (pc + 2) ls (.int (iI n) :: rest))) : W p l e R s m args below meth c H locs cells slots Q (F0 m pc ls rest) := lv_ldc hx hb hown hconst hdg (by rw [hv]; exact k)
theorem ii_ldc2 (hx : p.tables.exec = Jvm.exec) (hb : c.code = cc) {own : String} {index : Nat} {v : Int64} {n : Int} (hown : s.vm.findClass own = some m.cls) (hconst : (Jvm.Cond.constantLong own index v).before args s = true) (hdg : decode cc pc = .ok (.ldc2_w index, 3)) (hv : v = lI n) (k : W p l e R s m args below meth c H locs cells slots Q (F0 m (pc + 3) ls (.long (lI n) :: rest))) : W p l e R s m args below meth c H locs cells slots Q (F0 m pc ls rest) := lv_ldc2 hx hb hown hconst hdg (by rw [hv]; exact k)
theorem ii_lconst (hx : p.tables.exec = Jvm.exec) (hb : c.code = cc) {n : Fin 2} {z : Int} (hdg : decode cc pc = .ok (.lconst n, 1)) (hv : Int64.ofNat (n : Nat) = lI z) (k : W p l e R s m args below meth c H locs cells slots Q (F0 m (pc + 1) ls (.long (lI z) :: rest))) : W p l e R s m args below meth c H locs cells slots Q (F0 m pc ls rest) := lv_lconst hx hb hdg hv k
theorem ii_iadd (hx : p.tables.exec = Jvm.exec) (hb : c.code = cc) {x y : Int} (hdg : decode cc pc = .ok (.iadd, 1)) (k : W p l e R s m args below meth c H locs cells slots Q (F0 m (pc + 1) ls (.int (iI (x + y)) :: rest))) : W p l e R s m args below meth c H locs cells slots Q (F0 m pc ls (.int (iI y) :: .int (iI x) :: rest)) := lv_iadd hx hb hdg (by rw [iI_add]; exact k)
theorem ii_isub (hx : p.tables.exec = Jvm.exec) (hb : c.code = cc) {x y : Int} (hdg : decode cc pc = .ok (.isub, 1)) (k : W p l e R s m args below meth c H locs cells slots Q (F0 m (pc + 1) ls (.int (iI (x - y)) :: rest))) : W p l e R s m args below meth c H locs cells slots Q (F0 m pc ls (.int (iI y) :: .int (iI x) :: rest)) := lv_isub hx hb hdg (by rw [iI_sub]; exact k)
theorem ii_imul (hx : p.tables.exec = Jvm.exec) (hb : c.code = cc) {x y : Int} (hdg : decode cc pc = .ok (.imul, 1)) (k : W p l e R s m args below meth c H locs cells slots Q (F0 m (pc + 1) ls (.int (iI (x * y)) :: rest))) : W p l e R s m args below meth c H locs cells slots Q (F0 m pc ls (.int (iI y) :: .int (iI x) :: rest)) := lv_imul hx hb hdg (by rw [iI_mul]; exact k)
theorem ii_ineg (hx : p.tables.exec = Jvm.exec) (hb : c.code = cc) {x : Int} (hdg : decode cc pc = .ok (.ineg, 1)) (k : W p l e R s m args below meth c H locs cells slots Q (F0 m (pc + 1) ls (.int (iI (-x)) :: rest))) : W p l e R s m args below meth c H locs cells slots Q (F0 m pc ls (.int (iI x) :: rest)) := lv_ineg hx hb hdg (by rw [iI_neg]; exact k)
theorem ii_ishl {z : Int} (hx : p.tables.exec = Jvm.exec) (hb : c.code = cc) {x y : Int} (hdg : decode cc pc = .ok (.ishl, 1)) (hz : iI x <<< (iI y &&& 31) = iI z) (k : W p l e R s m args below meth c H locs cells slots Q (F0 m (pc + 1) ls (.int (iI z) :: rest))) : W p l e R s m args below meth c H locs cells slots Q (F0 m pc ls (.int (iI y) :: .int (iI x) :: rest)) := lv_ishl hx hb hdg (by rw [hz]; exact k)
theorem ii_ishr {z : Int} (hx : p.tables.exec = Jvm.exec) (hb : c.code = cc) {x y : Int} (hdg : decode cc pc = .ok (.ishr, 1)) (hz : iI x >>> (iI y &&& 31) = iI z) (k : W p l e R s m args below meth c H locs cells slots Q (F0 m (pc + 1) ls (.int (iI z) :: rest))) : W p l e R s m args below meth c H locs cells slots Q (F0 m pc ls (.int (iI y) :: .int (iI x) :: rest)) := lv_ishr hx hb hdg (by rw [hz]; exact k)
theorem ii_iand {z : Int} (hx : p.tables.exec = Jvm.exec) (hb : c.code = cc) {x y : Int} (hdg : decode cc pc = .ok (.iand, 1)) (hz : iI x &&& iI y = iI z) (k : W p l e R s m args below meth c H locs cells slots Q (F0 m (pc + 1) ls (.int (iI z) :: rest))) : W p l e R s m args below meth c H locs cells slots Q (F0 m pc ls (.int (iI y) :: .int (iI x) :: rest)) := lv_iand hx hb hdg (by rw [hz]; exact k)
theorem ii_ior {z : Int} (hx : p.tables.exec = Jvm.exec) (hb : c.code = cc) {x y : Int} (hdg : decode cc pc = .ok (.ior, 1)) (hz : iI x ||| iI y = iI z) (k : W p l e R s m args below meth c H locs cells slots Q (F0 m (pc + 1) ls (.int (iI z) :: rest))) : W p l e R s m args below meth c H locs cells slots Q (F0 m pc ls (.int (iI y) :: .int (iI x) :: rest)) := lv_ior hx hb hdg (by rw [hz]; exact k)
theorem ii_idiv {z : Int} (hx : p.tables.exec = Jvm.exec) (hb : c.code = cc) {x y : Int} (hdg : decode cc pc = .ok (.idiv, 1)) (hy : ¬ iI y = 0) (hz : iI x / iI y = iI z) (k : W p l e R s m args below meth c H locs cells slots Q (F0 m (pc + 1) ls (.int (iI z) :: rest))) : W p l e R s m args below meth c H locs cells slots Q (F0 m pc ls (.int (iI y) :: .int (iI x) :: rest)) := lv_idiv hx hb hdg hy (by rw [hz]; exact k)
theorem ii_i2l (hx : p.tables.exec = Jvm.exec) (hb : c.code = cc) {x : Int} (hdg : decode cc pc = .ok (.i2l, 1)) (h : i32 x) (k : W p l e R s m args below meth c H locs cells slots Q (F0 m (pc + 1) ls (.long (lI x) :: rest))) : W p l e R s m args below meth c H locs cells slots Q (F0 m pc ls (.int (iI x) :: rest)) := lv_i2l hx hb hdg (iI_i2l h) k
theorem ii_l2i (hx : p.tables.exec = Jvm.exec) (hb : c.code = cc) {x : Int} (hdg : decode cc pc = .ok (.l2i, 1)) (k : W p l e R s m args below meth c H locs cells slots Q (F0 m (pc + 1) ls (.int (iI x) :: rest))) : W p l e R s m args below meth c H locs cells slots Q (F0 m pc ls (.long (lI x) :: rest)) := lv_l2i hx hb hdg (lI_l2i x) k
theorem ii_ladd (hx : p.tables.exec = Jvm.exec) (hb : c.code = cc) {x y : Int} (hdg : decode cc pc = .ok (.ladd, 1)) (k : W p l e R s m args below meth c H locs cells slots Q (F0 m (pc + 1) ls (.long (lI (x + y)) :: rest))) : W p l e R s m args below meth c H locs cells slots Q (F0 m pc ls (.long (lI y) :: .long (lI x) :: rest)) := lv_ladd hx hb hdg (by rw [lI_add]; exact k)
theorem ii_lsub (hx : p.tables.exec = Jvm.exec) (hb : c.code = cc) {x y : Int} (hdg : decode cc pc = .ok (.lsub, 1)) (k : W p l e R s m args below meth c H locs cells slots Q (F0 m (pc + 1) ls (.long (lI (x - y)) :: rest))) : W p l e R s m args below meth c H locs cells slots Q (F0 m pc ls (.long (lI y) :: .long (lI x) :: rest)) := lv_lsub hx hb hdg (by rw [lI_sub]; exact k)
theorem ii_lmul (hx : p.tables.exec = Jvm.exec) (hb : c.code = cc) {x y : Int} (hdg : decode cc pc = .ok (.lmul, 1)) (k : W p l e R s m args below meth c H locs cells slots Q (F0 m (pc + 1) ls (.long (lI (x * y)) :: rest))) : W p l e R s m args below meth c H locs cells slots Q (F0 m pc ls (.long (lI y) :: .long (lI x) :: rest)) := lv_lmul hx hb hdg (by rw [lI_mul]; exact k)
theorem ii_lneg (hx : p.tables.exec = Jvm.exec) (hb : c.code = cc) {x : Int} (hdg : decode cc pc = .ok (.lneg, 1)) (k : W p l e R s m args below meth c H locs cells slots Q (F0 m (pc + 1) ls (.long (lI (-x)) :: rest))) : W p l e R s m args below meth c H locs cells slots Q (F0 m pc ls (.long (lI x) :: rest)) := lv_lneg hx hb hdg (by rw [lI_neg]; exact k)
theorem ii_ldiv {z : Int} (hx : p.tables.exec = Jvm.exec) (hb : c.code = cc) {x y : Int} (hdg : decode cc pc = .ok (.ldiv, 1)) (hy : ¬ lI y = 0) (hz : lI x / lI y = lI z) (k : W p l e R s m args below meth c H locs cells slots Q (F0 m (pc + 1) ls (.long (lI z) :: rest))) : W p l e R s m args below meth c H locs cells slots Q (F0 m pc ls (.long (lI y) :: .long (lI x) :: rest)) := lv_ldiv hx hb hdg hy (by rw [hz]; exact k)
theorem ii_lshr {z : Int} (hx : p.tables.exec = Jvm.exec) (hb : c.code = cc) {x y : Int} (hdg : decode cc pc = .ok (.lshr, 1)) (hz : lI x >>> ((iI y).toInt64 &&& 63) = lI z) (k : W p l e R s m args below meth c H locs cells slots Q (F0 m (pc + 1) ls (.long (lI z) :: rest))) : W p l e R s m args below meth c H locs cells slots Q (F0 m pc ls (.int (iI y) :: .long (lI x) :: rest)) := lv_lshr hx hb hdg hz k
theorem ii_lcmp (hx : p.tables.exec = Jvm.exec) (hb : c.code = cc) {x y : Int} (hdg : decode cc pc = .ok (.lcmp, 1)) (h1 : i64 x) (h2 : i64 y) (k : ∀ z : Int, (z = 1 ∧ y < x) ∨ (z = 0 ∧ x = y) ∨ (z = -1 ∧ x < y) → W p l e R s m args below meth c H locs cells slots Q (F0 m (pc + 1) ls (.int (iI z) :: rest))) : W p l e R s m args below meth c H locs cells slots Q (F0 m pc ls (.long (lI y) :: .long (lI x) :: rest)) := by
  refine W.lcmp hx hb hdg ?_
  unfold lg_cmp
  by_cases g1 : y < x
  · rw [if_pos ((lI_lt h2 h1).mpr g1)]
    exact k 1 (Or.inl ⟨rfl, g1⟩)
  · rw [if_neg (fun q => g1 ((lI_lt h2 h1).mp q))]
    by_cases g2 : x = y
    · rw [if_pos ((lI_eq h1 h2).mpr g2)]
      exact k 0 (Or.inr (Or.inl ⟨rfl, g2⟩))
    · rw [if_neg (fun q => g2 ((lI_eq h1 h2).mp q))]
      exact k (-1) (Or.inr (Or.inr ⟨rfl, by omega⟩))
theorem ii_if_eq (hx : p.tables.exec = Jvm.exec) (hb : c.code = cc) {x : Int} {off : Int} {tgt : Nat} (hdg : decode cc pc = .ok (.ifCond .eq off, 3)) (ht : (pc : Int) + off = (tgt : Int)) (h1 : i32 x) (kt : x = 0 → W p l e R s m args below meth c H locs cells slots Q (F0 m tgt ls rest)) (kf : ¬ x = 0 → W p l e R s m args below meth c H locs cells slots Q (F0 m (pc + 3) ls rest)) : W p l e R s m args below meth c H locs cells slots Q (F0 m pc ls (.int (iI x) :: rest)) :=
  lv_if_eq hx hb hdg ht (fun q => kt (by rw [← iI_zero] at q; exact (iI_eq h1 i32_0).mp q)) (fun q => kf (fun w => q (by rw [w]; exact iI_zero)))
theorem ii_icmp_eq (hx : p.tables.exec = Jvm.exec) (hb : c.code = cc) {x y : Int} {off : Int} {tgt : Nat} (hdg : decode cc pc = .ok (.if_icmp .eq off, 3)) (ht : (pc : Int) + off = (tgt : Int)) (h1 : i32 x) (h2 : i32 y) (kt : x = y → W p l e R s m args below meth c H locs cells slots Q (F0 m tgt ls rest)) (kf : ¬ x = y → W p l e R s m args below meth c H locs cells slots Q (F0 m (pc + 3) ls rest)) : W p l e R s m args below meth c H locs cells slots Q (F0 m pc ls (.int (iI y) :: .int (iI x) :: rest)) :=
  lv_icmp_eq hx hb hdg ht (fun q => kt (by exact (iI_eq h1 h2).mp q)) (fun q => kf (fun w => q (by rw [w])))
theorem ii_if_ne (hx : p.tables.exec = Jvm.exec) (hb : c.code = cc) {x : Int} {off : Int} {tgt : Nat} (hdg : decode cc pc = .ok (.ifCond .ne off, 3)) (ht : (pc : Int) + off = (tgt : Int)) (h1 : i32 x) (kt : ¬ x = 0 → W p l e R s m args below meth c H locs cells slots Q (F0 m tgt ls rest)) (kf : x = 0 → W p l e R s m args below meth c H locs cells slots Q (F0 m (pc + 3) ls rest)) : W p l e R s m args below meth c H locs cells slots Q (F0 m pc ls (.int (iI x) :: rest)) :=
  lv_if_ne hx hb hdg ht (fun q => kt (fun w => q (by rw [w]; exact iI_zero))) (fun q => kf (by rw [← iI_zero] at q; exact (iI_eq h1 i32_0).mp q))
theorem ii_icmp_ne (hx : p.tables.exec = Jvm.exec) (hb : c.code = cc) {x y : Int} {off : Int} {tgt : Nat} (hdg : decode cc pc = .ok (.if_icmp .ne off, 3)) (ht : (pc : Int) + off = (tgt : Int)) (h1 : i32 x) (h2 : i32 y) (kt : ¬ x = y → W p l e R s m args below meth c H locs cells slots Q (F0 m tgt ls rest)) (kf : x = y → W p l e R s m args below meth c H locs cells slots Q (F0 m (pc + 3) ls rest)) : W p l e R s m args below meth c H locs cells slots Q (F0 m pc ls (.int (iI y) :: .int (iI x) :: rest)) :=
  lv_icmp_ne hx hb hdg ht (fun q => kt (fun w => q (by rw [w]))) (fun q => kf (by exact (iI_eq h1 h2).mp q))
theorem ii_if_lt (hx : p.tables.exec = Jvm.exec) (hb : c.code = cc) {x : Int} {off : Int} {tgt : Nat} (hdg : decode cc pc = .ok (.ifCond .lt off, 3)) (ht : (pc : Int) + off = (tgt : Int)) (h1 : i32 x) (kt : x < 0 → W p l e R s m args below meth c H locs cells slots Q (F0 m tgt ls rest)) (kf : 0 ≤ x → W p l e R s m args below meth c H locs cells slots Q (F0 m (pc + 3) ls rest)) : W p l e R s m args below meth c H locs cells slots Q (F0 m pc ls (.int (iI x) :: rest)) :=
  lv_if_lt hx hb hdg ht (fun q => kt (by rw [← iI_zero] at q; exact (iI_lt h1 i32_0).mp q)) (fun q => kf (Int.not_lt.mp (fun w => q (by rw [← iI_zero]; exact (iI_lt h1 i32_0).mpr w))))
theorem ii_icmp_lt (hx : p.tables.exec = Jvm.exec) (hb : c.code = cc) {x y : Int} {off : Int} {tgt : Nat} (hdg : decode cc pc = .ok (.if_icmp .lt off, 3)) (ht : (pc : Int) + off = (tgt : Int)) (h1 : i32 x) (h2 : i32 y) (kt : x < y → W p l e R s m args below meth c H locs cells slots Q (F0 m tgt ls rest)) (kf : y ≤ x → W p l e R s m args below meth c H locs cells slots Q (F0 m (pc + 3) ls rest)) : W p l e R s m args below meth c H locs cells slots Q (F0 m pc ls (.int (iI y) :: .int (iI x) :: rest)) :=
  lv_icmp_lt hx hb hdg ht (fun q => kt (by exact (iI_lt h1 h2).mp q)) (fun q => kf (Int.not_lt.mp (fun w => q (by exact (iI_lt h1 h2).mpr w))))
theorem ii_if_ge (hx : p.tables.exec = Jvm.exec) (hb : c.code = cc) {x : Int} {off : Int} {tgt : Nat} (hdg : decode cc pc = .ok (.ifCond .ge off, 3)) (ht : (pc : Int) + off = (tgt : Int)) (h1 : i32 x) (kt : 0 ≤ x → W p l e R s m args below meth c H locs cells slots Q (F0 m tgt ls rest)) (kf : x < 0 → W p l e R s m args below meth c H locs cells slots Q (F0 m (pc + 3) ls rest)) : W p l e R s m args below meth c H locs cells slots Q (F0 m pc ls (.int (iI x) :: rest)) :=
  lv_if_ge hx hb hdg ht (fun q => kt (by rw [← iI_zero] at q; exact (iI_le i32_0 h1).mp q)) (fun q => kf (Int.not_le.mp (fun w => q (by rw [← iI_zero]; exact (iI_le i32_0 h1).mpr w))))
theorem ii_icmp_ge (hx : p.tables.exec = Jvm.exec) (hb : c.code = cc) {x y : Int} {off : Int} {tgt : Nat} (hdg : decode cc pc = .ok (.if_icmp .ge off, 3)) (ht : (pc : Int) + off = (tgt : Int)) (h1 : i32 x) (h2 : i32 y) (kt : y ≤ x → W p l e R s m args below meth c H locs cells slots Q (F0 m tgt ls rest)) (kf : x < y → W p l e R s m args below meth c H locs cells slots Q (F0 m (pc + 3) ls rest)) : W p l e R s m args below meth c H locs cells slots Q (F0 m pc ls (.int (iI y) :: .int (iI x) :: rest)) :=
  lv_icmp_ge hx hb hdg ht (fun q => kt (by exact (iI_le h2 h1).mp q)) (fun q => kf (Int.not_le.mp (fun w => q (by exact (iI_le h2 h1).mpr w))))
theorem ii_if_gt (hx : p.tables.exec = Jvm.exec) (hb : c.code = cc) {x : Int} {off : Int} {tgt : Nat} (hdg : decode cc pc = .ok (.ifCond .gt off, 3)) (ht : (pc : Int) + off = (tgt : Int)) (h1 : i32 x) (kt : 0 < x → W p l e R s m args below meth c H locs cells slots Q (F0 m tgt ls rest)) (kf : x ≤ 0 → W p l e R s m args below meth c H locs cells slots Q (F0 m (pc + 3) ls rest)) : W p l e R s m args below meth c H locs cells slots Q (F0 m pc ls (.int (iI x) :: rest)) :=
  lv_if_gt hx hb hdg ht (fun q => kt (by rw [← iI_zero] at q; exact (iI_lt i32_0 h1).mp q)) (fun q => kf (Int.not_lt.mp (fun w => q (by rw [← iI_zero]; exact (iI_lt i32_0 h1).mpr w))))
theorem ii_icmp_gt (hx : p.tables.exec = Jvm.exec) (hb : c.code = cc) {x y : Int} {off : Int} {tgt : Nat} (hdg : decode cc pc = .ok (.if_icmp .gt off, 3)) (ht : (pc : Int) + off = (tgt : Int)) (h1 : i32 x) (h2 : i32 y) (kt : y < x → W p l e R s m args below meth c H locs cells slots Q (F0 m tgt ls rest)) (kf : x ≤ y → W p l e R s m args below meth c H locs cells slots Q (F0 m (pc + 3) ls rest)) : W p l e R s m args below meth c H locs cells slots Q (F0 m pc ls (.int (iI y) :: .int (iI x) :: rest)) :=
  lv_icmp_gt hx hb hdg ht (fun q => kt (by exact (iI_lt h2 h1).mp q)) (fun q => kf (Int.not_lt.mp (fun w => q (by exact (iI_lt h2 h1).mpr w))))
theorem ii_if_le (hx : p.tables.exec = Jvm.exec) (hb : c.code = cc) {x : Int} {off : Int} {tgt : Nat} (hdg : decode cc pc = .ok (.ifCond .le off, 3)) (ht : (pc : Int) + off = (tgt : Int)) (h1 : i32 x) (kt : x ≤ 0 → W p l e R s m args below meth c H locs cells slots Q (F0 m tgt ls rest)) (kf : 0 < x → W p l e R s m args below meth c H locs cells slots Q (F0 m (pc + 3) ls rest)) : W p l e R s m args below meth c H locs cells slots Q (F0 m pc ls (.int (iI x) :: rest)) :=
  lv_if_le hx hb hdg ht (fun q => kt (by rw [← iI_zero] at q; exact (iI_le h1 i32_0).mp q)) (fun q => kf (Int.not_le.mp (fun w => q (by rw [← iI_zero]; exact (iI_le h1 i32_0).mpr w))))
theorem ii_icmp_le (hx : p.tables.exec = Jvm.exec) (hb : c.code = cc) {x y : Int} {off : Int} {tgt : Nat} (hdg : decode cc pc = .ok (.if_icmp .le off, 3)) (ht : (pc : Int) + off = (tgt : Int)) (h1 : i32 x) (h2 : i32 y) (kt : x ≤ y → W p l e R s m args below meth c H locs cells slots Q (F0 m tgt ls rest)) (kf : y < x → W p l e R s m args below meth c H locs cells slots Q (F0 m (pc + 3) ls rest)) : W p l e R s m args below meth c H locs cells slots Q (F0 m pc ls (.int (iI y) :: .int (iI x) :: rest)) :=
  lv_icmp_le hx hb hdg ht (fun q => kt (by exact (iI_le h1 h2).mp q)) (fun q => kf (Int.not_le.mp (fun w => q (by exact (iI_le h1 h2).mpr w))))
theorem ii_iald (hx : p.tables.exec = Jvm.exec) (hb : c.code = cc) (hK : va_K D cl tys s) (hP : va_P D cl ws H) (q0 t0 : Nat) {cA : ClassId} {n : Nat} {F : Nat → Int} (ha : ws[q0]? = some (a, .inl (cA, n, .inl (iA F)))) (ht : tys[t0]? = some (cA, .int)) {z : Int} (k : Nat) (hz : z = (k : Int)) (hk : k < n) (hn : n < 2147483648) (hdg : decode cc pc = .ok (.iaload, 1))
    (kk : W p l e R s m args below meth c H locs cells slots Q (F0 m (pc + 1) ls (.int (iI (F k)) :: rest))) : W p l e R s m args below meth c H locs cells slots Q (F0 m pc ls (.int (iI z) :: .ref a :: rest)) := by
  refine va_iald hx hb hK hP q0 t0 ha ht (iI_in hz hk hn) hdg ?_
  rw [iI_clamp hz (by omega)]
  exact kk
theorem ii_iast (hx : p.tables.exec = Jvm.exec) (hb : c.code = cc) (hK : va_K D cl tys s) (hP : va_P D cl ws H) (hD : va_D A ws) (hS : va_S A H0 H locs) (q0 t0 : Nat) {cA : ClassId} {n : Nat} {F : Nat → Int} (ha : ws[q0]? = some (a, .inl (cA, n, .inl (iA F)))) (ht : tys[t0]? = some (cA, .int)) {z x : Int} (k : Nat) (hz : z = (k : Int)) (hk : k < n) (hn : n < 2147483648) (hdg : decode cc pc = .ok (.iastore, 1))
    (kk : ∀ (H1 : Heap) (locs1 : List Loc), va_P D cl (ws.set q0 (a, .inl (cA, n, .inl (iA (uZ F k x))))) H1 → va_D A (ws.set q0 (a, .inl (cA, n, .inl (iA (uZ F k x))))) → va_S A H0 H1 locs1 → W p l e R s m args below meth c H1 locs1 cells slots Q (F0 m (pc + 1) ls rest)) : W p l e R s m args below meth c H locs cells slots Q (F0 m pc ls (.int (iI x) :: .int (iI z) :: .ref a :: rest)) := by
  refine va_iast hx hb hK hP hD hS q0 t0 ha ht (iI_in hz hk hn) hdg (fun H1 locs1 hP hD hS => ?_)
  rw [iI_clamp hz (by omega), iA_upd] at hP hD
  exact kk H1 locs1 hP hD hS
theorem ii_alen (hx : p.tables.exec = Jvm.exec) (hb : c.code = cc) (hK : va_K D cl tys s) (hP : va_P D cl ws H) (q0 t0 : Nat) {cA : ClassId} {y : vp_A} (ha : ws[q0]? = some (a, .inl (cA, y))) {ty : FieldType} (ht : tys[t0]? = some (cA, ty)) (hdg : decode cc pc = .ok (.arraylength, 1))
    (kk : W p l e R s m args below meth c H locs cells slots Q (F0 m (pc + 1) ls (.int (iI (y.1 : Int)) :: rest))) : W p l e R s m args below meth c H locs cells slots Q (F0 m pc ls (.ref a :: rest)) :=
  va_alen hx hb hK hP q0 t0 ha ht (iI_nat y.1) hdg kk
theorem ii_newa (hx : p.tables.exec = Jvm.exec) (hb : c.code = cc) (harr : (Cond.arrayClass .int).before args s = true) (hK : va_K D cl tys s) (hP : va_P D cl ws H) (hD : va_D A ws) (hS : va_S A H0 H locs) (hA : ∀ q, H0.size ≤ q → A q) (t0 : Nat) {cA : ClassId} (ht : tys[t0]? = some (cA, .int))
    {z : Int} (n : Nat) (hz : z = (n : Int)) (hn : n ≤ 134217728) (hcells : cells + 1 ≤ R.cells) (hslots : slots + n ≤ R.slots) (hdg : decode cc pc = .ok (.newarray .int, 2))
    (kk : ∀ (q : Nat) (H1 : Heap), va_P D cl (ws ++ [(q, .inl (cA, n, .inl (iA (fun _ => 0))))]) H1 → va_D A (ws ++ [(q, .inl (cA, n, .inl (iA (fun _ => 0))))]) → va_S A H0 H1 locs →
      W p l e R s m args below meth c H1 locs (cells + 1) (slots + n) Q (F0 m (pc + 2) ls (.ref q :: rest))) : W p l e R s m args below meth c H locs cells slots Q (F0 m pc ls (.int (iI z) :: rest)) := by
  refine va_newa (atype := .int) (ty := .int) (N' := n) (a0 := (n, .inl (iA (fun _ => 0)))) hx hb harr rfl hK hP hD hS hA (fun cA => rfl) ?_ (iI_clamp hz (by omega)) ?_ hcells hslots hdg (fun q cB H1 hK1 hP1 hD1 hS1 => ?_)
  · intro q
    rw [← iI_zero, iI_lt (by omega) (by omega)] at q
    omega
  · show n * 4 ≤ 536870912
    omega
  · have e : cB = cA := by
      have h1 := va_nm_int (hK1.2 tys.length (cB, .int) (by rw [List.getElem?_append_right (Nat.le_refl _), Nat.sub_self]; rfl)).2
      have h2 := va_nm_int (hK.2 t0 (cA, .int) ht).2
      exact Option.some.inj (h1.symm.trans h2)
    subst e
    exact kk q H1 hP1 hD1 hS1
theorem ii_mmax (hx : p.tables.exec = Jvm.exec) (hb : c.code = cc) (hml : c.maxLocals = ls.size) {own : String} {index : Nat} (hown : s.vm.findClass own = some m.cls) (hlink : (Cond.methodLink own index Lib.Math.max.name).before args s = true) (hstat : (Cond.static Lib.Math.max.name).before args s = true) (hini : (Cond.initialized "java/lang/Math").before args s = true) (hcode : (Cond.code Lib.Math.max.name Lib.Math.max.code 2 (some .int)).before args s = true)
    (hframes : 1 ≤ R.frames) (hlocals : (rest.map fun v => v.category).sum + 13 ≤ R.locals) (hc : cells ≤ R.cells) (hs : slots ≤ R.slots) {x y : Int} (h1 : i32 x) (h2 : i32 y) (hdg : decode cc pc = .ok (.invokestatic index, 3))
    (kk : W p l e R s m args below meth c H locs cells slots Q (F0 m (pc + 3) ls (.int (iI (max x y)) :: rest))) : W p l e R s m args below meth c H locs cells slots Q (F0 m pc ls (.int (iI y) :: .int (iI x) :: rest)) :=
  va_mmax hx hb hml hown hlink hstat hini hcode hframes hlocals hc hs hdg (by rw [iI_max h1 h2]; exact kk)
theorem ii_mmin (hx : p.tables.exec = Jvm.exec) (hb : c.code = cc) (hml : c.maxLocals = ls.size) {own : String} {index : Nat} (hown : s.vm.findClass own = some m.cls) (hlink : (Cond.methodLink own index Lib.Math.min.name).before args s = true) (hstat : (Cond.static Lib.Math.min.name).before args s = true) (hini : (Cond.initialized "java/lang/Math").before args s = true) (hcode : (Cond.code Lib.Math.min.name Lib.Math.min.code 2 (some .int)).before args s = true)
    (hframes : 1 ≤ R.frames) (hlocals : (rest.map fun v => v.category).sum + 13 ≤ R.locals) (hc : cells ≤ R.cells) (hs : slots ≤ R.slots) {x y : Int} (h1 : i32 x) (h2 : i32 y) (hdg : decode cc pc = .ok (.invokestatic index, 3))
    (kk : W p l e R s m args below meth c H locs cells slots Q (F0 m (pc + 3) ls (.int (iI (min x y)) :: rest))) : W p l e R s m args below meth c H locs cells slots Q (F0 m pc ls (.int (iI y) :: .int (iI x) :: rest)) :=
  va_mmin hx hb hml hown hlink hstat hini hcode hframes hlocals hc hs hdg (by rw [iI_min h1 h2]; exact kk)
theorem ii_copy (hx : p.tables.exec = Jvm.exec) (hb : c.code = cc) (hml : c.maxLocals = ls.size) {own : String} {index : Nat} (hown : s.vm.findClass own = some m.cls) (hlink : (Cond.methodLink own index arraycopyName).before args s = true) (hnat : (Cond.native arraycopyName).before args s = true) (hstat : (Cond.static arraycopyName).before args s = true) (hini : (Cond.initialized "java/lang/System").before args s = true)
    (hK : va_K D cl tys s) (hP : va_P D cl ws H) (hD : va_D A ws) (hS : va_S A H0 H locs) (q0 q1 t0 : Nat) {a0 : Nat} {cA : ClassId} {n0 n1 : Nat} {F G : Nat → Int} (ha0 : ws[q0]? = some (a0, .inl (cA, n0, .inl (iA F)))) (ha1 : ws[q1]? = some (a, .inl (cA, n1, .inl (iA G)))) (ht : tys[t0]? = some (cA, .int))
    {zs zd zn : Int} (sp dp n : Nat) (h1 : zs = (sp : Int)) (h2 : zd = (dp : Int)) (h3 : zn = (n : Int)) (h4 : sp + n ≤ n0) (h5 : dp + n ≤ n1) (g0 : n0 < 2147483648) (g1 : n1 < 2147483648)
    (hframes : 1 ≤ R.frames) (hlocals : (rest.map fun v => v.category).sum + (nativeFrameWords "java/lang/System" "arraycopy" 5 + 11) ≤ R.locals) (hdg : decode cc pc = .ok (.invokestatic index, 3))
    (kk : ∀ (H1 : Heap) (locs1 : List Loc), va_P D cl (ws.set q1 (a, .inl (cA, n1, .inl (iA (va_cpy F G sp dp n))))) H1 → va_D A (ws.set q1 (a, .inl (cA, n1, .inl (iA (va_cpy F G sp dp n))))) → va_S A H0 H1 locs1 → W p l e R s m args below meth c H1 locs1 cells slots Q (F0 m (pc + 3) ls rest)) : W p l e R s m args below meth c H locs cells slots Q (F0 m pc ls (.int (iI zn) :: .int (iI zd) :: .ref a :: .int (iI zs) :: .ref a0 :: rest)) := by
  have nn : ∀ {z : Int} {k : Nat}, z = (k : Int) → k < 2147483648 → ¬ iI z < 0 := by
    intro z k h1 h2 q
    rw [← iI_zero, iI_lt (by omega) (by omega)] at q
    omega
  have e1 := iI_clamp h1 (by omega)
  have e2 := iI_clamp h2 (by omega)
  have e3 := iI_clamp h3 (by omega)
  refine va_copyi hx hb hml hown hlink hnat hstat hini hK hP hD hS q0 q1 t0 t0 ha0 ha1 ht ht rfl (nn h1 (by omega)) (nn h2 (by omega)) (nn h3 (by omega)) (by rw [e1, e3]; exact h4) (by rw [e2, e3]; exact h5) (fun _ _ => rfl) hframes hlocals hdg (fun H1 locs1 hP hD hS => ?_)
  rw [e1, e2, e3, iA_cpy] at hP hD
  exact kk H1 locs1 hP hD hS
theorem ii_lxor (hx : p.tables.exec = Jvm.exec) (hb : c.code = cc) {x y : Int} (hdg : decode cc pc = .ok (.lxor, 1)) (h1 : i64 x) (h2 : i64 y) (k : ∀ z : Int, i64 z → (z < 0 ↔ ¬ (x < 0 ↔ y < 0)) → W p l e R s m args below meth c H locs cells slots Q (F0 m (pc + 1) ls (.long (lI z) :: rest))) : W p l e R s m args below meth c H locs cells slots Q (F0 m pc ls (.long (lI y) :: .long (lI x) :: rest)) := by
  obtain ⟨z, e1, e2, e3⟩ := lI_xor h1 h2
  exact lv_lxor hx hb hdg (by rw [e1]; exact k z e2 e3)
end II
/-! CONTRACTS: pR (a method that only reads its world) and pW (one that writes), their ends, and the rows of calls over them -/
def isNest : Cond → Bool
  | .fieldLinkNest _ _ _ _ _ _ => true
  | .methodLinkNest _ _ _ _ => true
  | _ => false
def NW (nw : List Cond) (U : State) : Prop := ∀ w ∈ nw, va_Nw w U
theorem NW.warm {nw : List Cond} (hn : nw.all isNest = true) {s U : State} (hW : s.WarmedH U.vm) (h : NW nw s) : NW nw U := by
  intro w hw
  have h1 := h w hw
  have h2 := List.all_eq_true.mp hn w hw
  cases w <;> first | exact (Bool.false_ne_true h2).elim | exact va_Nw.warmF hW h1 | exact va_Nw.warmM hW h1
theorem NW.same {nw : List Cond} (hn : nw.all isNest = true) {u U : State} (hv : u.vm = U.vm) (h : NW nw u) : NW nw U := by
  intro w hw
  have h1 := h w hw
  have h2 := List.all_eq_true.mp hn w hw
  cases w <;> first | exact (Bool.false_ne_true h2).elim | exact va_Nw.same rfl hv h1
def KW (D : va_G) (cl : List vw_C) (tys : List (ClassId × FieldType)) (nw : List Cond) (U : State) : Prop := va_K D cl tys U ∧ nw.all isNest = true ∧ NW nw U
theorem KW.warm {D : va_G} {cl : List vw_C} {tys : List (ClassId × FieldType)} {nw : List Cond} {s U : State} (hW : s.WarmedH U.vm) (h : KW D cl tys nw s) : KW D cl tys nw U := ⟨va_K.moved hW.alike h.1, h.2.1, h.2.2.warm h.2.1 hW⟩
theorem KW.call {D : va_G} {cl : List vw_C} {tys : List (ClassId × FieldType)} {nw : List Cond} {U : State} (g : JFrame) (mk : MethodId) (a : Array Value) (h : KW D cl tys nw U) : KW D cl tys nw (U.calling g mk a) := ⟨va_K.moved (u := U) (U := U.calling g mk a) (Vm.Alike.refl U.vm) h.1, h.2.1, NW.same (u := U) (U := U.calling g mk a) h.2.1 rfl h.2.2⟩
def pR (av : List Value) (D : va_G) (cl : List vw_C) (tys : List (ClassId × FieldType)) (nw : List Cond) (ws : va_W) : Array Value → State → Prop := va_Pc av (fun U => va_P D cl ws U.heap ∧ KW D cl tys nw U)
def pW (av : List Value) (D : va_G) (cl : List vw_C) (tys : List (ClassId × FieldType)) (nw : List Cond) (ws : va_W) (sz : Nat) : Array Value → State → Prop := va_Pc av (fun U => U.heap.size = sz ∧ va_P D cl ws U.heap ∧ KW D cl tys nw U ∧ va_D (fun _ => True) ws)
def qI (post : Int → Prop) : Array Value → State → Outcome → State → Prop := vp_Si (fun r => ∃ z : Int, r = iI z ∧ post z)
def qL (post : Int → Prop) : Array Value → State → Outcome → State → Prop := vp_Sl (fun r => ∃ z : Int, r = lI z ∧ post z)
def qW {S : Type} (post : Int → S → Prop) (D : va_G) (cl : List vw_C) (wc : va_W) (sz : Nat) (w1 : S → va_W) : Array Value → State → Outcome → State → Prop := va_Qi (fun (r : Int32) (u : S) => ∃ z : Int, r = iI z ∧ post z u) (fun (u : S) (t : State) => va_P D cl (w1 u) t.heap ∧ va_D (va_A wc sz) (w1 u)) (va_A wc sz)
def qV {S : Type} (post : S → Prop) (D : va_G) (cl : List vw_C) (wc : va_W) (sz : Nat) (w1 : S → va_W) : Array Value → State → Outcome → State → Prop := va_Qv post (fun (u : S) (t : State) => va_P D cl (w1 u) t.heap ∧ va_D (va_A wc sz) (w1 u)) (va_A wc sz)
theorem nar_b {z : Int} (h : z = 0 ∨ z = 1) : narrow .boolean (.int (iI z)) = .int (iI z) := by rcases h with rfl | rfl <;> decide +kernel
section CC
variable {p : Program} {l : Launch} {e : Env} {R : Room} {s : State} {m : MethodId} {args : Array Value} {below : List Frame} {meth : Method} {c : Code} {H : Heap} {locs : List Loc} {cells slots : Nat} {Q : State → Prop}
variable {cc : ByteArray} {pc : Nat} {ls : Array Slot} {rest st0 : List Value} {D : va_G} {cl : List vw_C} {A : Nat → Prop} {a : Array Value} {tys : List (ClassId × FieldType)} {ws wc wr : va_W} {H0 : Heap} {nw : List Cond} {av : List Value} {mc ms sz : Nat} {b : Nat} {C : String}
theorem pR.pre (hP : va_P D cl wc H) (hK : KW D cl tys nw s) : PreS s H (pR av D cl tys nw wc) av := ⟨fun _ _ g mk q => ⟨q.1, q.2.1, q.2.2.call g mk _⟩, fun U hU hW => ⟨rfl, by rw [hU]; exact hP, hK.warm hW⟩⟩
theorem pR.preV (hr : ∃ cell : Cell, H[b]? = some cell ∧ cell.vm.isStatics = false ∧ s.vm.findClass C = some cell.cls) (hP : va_P D cl wc H) (hK : KW D cl tys nw s) : PreV s H C b (pR (.ref b :: av) D cl tys nw wc) av := ⟨fun _ _ g mk q => ⟨q.1, q.2.1, q.2.2.call g mk _⟩, hr, fun U hU hW => ⟨rfl, by rw [hU]; exact hP, hK.warm hW⟩⟩
theorem pW.pre (hP : va_P D cl wc H) (hD : va_D A wc) (hK : KW D cl tys nw s) : PreS s H (pW av D cl tys nw wc H.size) av := ⟨fun _ _ g mk q => ⟨q.1, q.2.1, q.2.2.1, q.2.2.2.1.call g mk _, q.2.2.2.2⟩, fun U hU hW => ⟨rfl, by rw [hU], by rw [hU]; exact hP, hK.warm hW, hD.weaken (fun _ _ _ _ => trivial)⟩⟩
theorem pW.preV (hr : ∃ cell : Cell, H[b]? = some cell ∧ cell.vm.isStatics = false ∧ s.vm.findClass C = some cell.cls) (hP : va_P D cl wc H) (hD : va_D A wc) (hK : KW D cl tys nw s) : PreV s H C b (pW (.ref b :: av) D cl tys nw wc H.size) av := ⟨fun _ _ g mk q => ⟨q.1, q.2.1, q.2.2.1, q.2.2.2.1.call g mk _, q.2.2.2.2⟩, hr, fun U hU hW => ⟨rfl, by rw [hU], by rw [hU]; exact hP, hK.warm hW, hD.weaken (fun _ _ _ _ => trivial)⟩⟩
/-- the ends of a method that reads -/
theorem rd_iret {post : Int → Prop} {z : Int} (hx : p.tables.exec = Jvm.exec) (hb : c.code = cc) (hr : meth.sig.returnType = some .int) (hlocks : meth.locks = false) (hz : post z) (hdg : decode cc pc = .ok (.ireturn, 1)) : W p l e R s m args below meth c s.heap [] cells slots (MQ below (qI post) args s cells slots (fun _ => False)) (F0 m pc ls [.int (iI z)]) :=
  W.iret (v := iI z) hx hb hr (fun t ht _ => ⟨iI z, rfl, ⟨z, rfl, hz⟩, ht⟩) (fun _ h => absurd h List.not_mem_nil) hdg hlocks
theorem rd_zret {post : Int → Prop} {z : Int} (hx : p.tables.exec = Jvm.exec) (hb : c.code = cc) (hr : meth.sig.returnType = some .boolean) (hlocks : meth.locks = false) (hn : narrow .boolean (.int (iI z)) = .int (iI z)) (hz : post z) (hdg : decode cc pc = .ok (.ireturn, 1)) : W p l e R s m args below meth c s.heap [] cells slots (MQ below (qI post) args s cells slots (fun _ => False)) (F0 m pc ls [.int (iI z)]) :=
  W.zret (v := iI z) hx hb hr hn (fun t ht _ => ⟨iI z, rfl, ⟨z, rfl, hz⟩, ht⟩) (fun _ h => absurd h List.not_mem_nil) hdg hlocks
theorem rd_lret {post : Int → Prop} {z : Int} (hx : p.tables.exec = Jvm.exec) (hb : c.code = cc) (hr : meth.sig.returnType = some .long) (hlocks : meth.locks = false) (hz : post z) (hdg : decode cc pc = .ok (.lreturn, 1)) : W p l e R s m args below meth c s.heap [] cells slots (MQ below (qL post) args s cells slots (fun _ => False)) (F0 m pc ls [.long (lI z)]) :=
  W.lret (v := lI z) hx hb hr (fun t ht _ => ⟨lI z, rfl, ⟨z, rfl, hz⟩, ht⟩) (fun _ h => absurd h List.not_mem_nil) hdg hlocks
/-- the ends of a method that writes -/
theorem wr_iret {S : Type} {post : Int → S → Prop} {w1 : S → va_W} {z : Int} (u : S) (hx : p.tables.exec = Jvm.exec) (hb : c.code = cc) (hr : meth.sig.returnType = some .int) (hlocks : meth.locks = false) (hAe : va_A wc s.heap.size = A) (hP : va_P D cl (w1 u) H) (hD : va_D A (w1 u)) (hS : va_S A s.heap H locs) (hz : post z u) (hdg : decode cc pc = .ok (.ireturn, 1)) : W p l e R s m args below meth c H locs cells slots (MQ below (qW post D cl wc s.heap.size w1) args s cells slots (va_A wc s.heap.size)) (F0 m pc ls [.int (iI z)]) := by
  subst hAe
  exact W.iret (v := iI z) hx hb hr (fun t ht _ => ⟨⟨iI z, u, rfl, ⟨z, rfl, hz⟩, by rw [ht]; exact hP, hD⟩, hS.F ht⟩) hS.2.2 hdg hlocks
theorem wr_zret {S : Type} {post : Int → S → Prop} {w1 : S → va_W} {z : Int} (u : S) (hx : p.tables.exec = Jvm.exec) (hb : c.code = cc) (hr : meth.sig.returnType = some .boolean) (hlocks : meth.locks = false) (hn : narrow .boolean (.int (iI z)) = .int (iI z)) (hAe : va_A wc s.heap.size = A) (hP : va_P D cl (w1 u) H) (hD : va_D A (w1 u)) (hS : va_S A s.heap H locs) (hz : post z u) (hdg : decode cc pc = .ok (.ireturn, 1)) : W p l e R s m args below meth c H locs cells slots (MQ below (qW post D cl wc s.heap.size w1) args s cells slots (va_A wc s.heap.size)) (F0 m pc ls [.int (iI z)]) := by
  subst hAe
  exact W.zret (v := iI z) hx hb hr hn (fun t ht _ => ⟨⟨iI z, u, rfl, ⟨z, rfl, hz⟩, by rw [ht]; exact hP, hD⟩, hS.F ht⟩) hS.2.2 hdg hlocks
theorem wr_vret {S : Type} {post : S → Prop} {w1 : S → va_W} (u : S) (hx : p.tables.exec = Jvm.exec) (hb : c.code = cc) (hr : meth.sig.returnType = none) (hlocks : meth.locks = false) (hAe : va_A wc s.heap.size = A) (hP : va_P D cl (w1 u) H) (hD : va_D A (w1 u)) (hS : va_S A s.heap H locs) (hz : post u) (hdg : decode cc pc = .ok (.return_, 1)) : W p l e R s m args below meth c H locs cells slots (MQ below (qV post D cl wc s.heap.size w1) args s cells slots (va_A wc s.heap.size)) (F0 m pc ls []) := by
  subst hAe
  exact W.vret hx hb hr (fun t ht _ => ⟨⟨u, rfl, hz, by rw [ht]; exact hP, hD⟩, hS.F ht⟩) hS.2.2 hdg hlocks
/-- calls of methods that read -/
theorem cs_i {post : Int → Prop} (hr : va_Run p l e R s m args below meth c H locs cells slots 0 0 (F0 m pc ls st0) rest (qI post a) (fun _ => False))
    (kk : ∀ z : Int, post z → W p l e R s m args below meth c H locs cells slots Q (F0 m (pc + 3) ls (.int (iI z) :: rest))) : W p l e R s m args below meth c H locs cells slots Q (F0 m pc ls st0) := by
  intro T hT X
  obtain ⟨v, st₀, t, T', L, h0, X', hL, e1, e2, ⟨r, hv, ⟨z, hz, hp⟩, hh⟩, st⟩ := hr T hT X
  cases hv
  subst hz
  obtain ⟨t2, a1, b1⟩ := kk z hp T' (by rw [e1, hh, h0]) (Stand.forget X' (fun q h => (hL q h).elim))
  exact ⟨t2, st t2 a1, b1⟩
theorem cs_l {post : Int → Prop} (hr : va_Run p l e R s m args below meth c H locs cells slots 0 0 (F0 m pc ls st0) rest (qL post a) (fun _ => False))
    (kk : ∀ z : Int, post z → W p l e R s m args below meth c H locs cells slots Q (F0 m (pc + 3) ls (.long (lI z) :: rest))) : W p l e R s m args below meth c H locs cells slots Q (F0 m pc ls st0) := by
  intro T hT X
  obtain ⟨v, st₀, t, T', L, h0, X', hL, e1, e2, ⟨r, hv, ⟨z, hz, hp⟩, hh⟩, st⟩ := hr T hT X
  cases hv
  subst hz
  obtain ⟨t2, a1, b1⟩ := kk z hp T' (by rw [e1, hh, h0]) (Stand.forget X' (fun q h => (hL q h).elim))
  exact ⟨t2, st t2 a1, b1⟩
/-- calls of methods that write: the callee's cells wc stand at isC, the rest wr at isR -/
theorem cw_i {S : Type} {post : Int → S → Prop} {w1 : S → va_W} (hP : va_P D cl ws H) (hD : va_D A ws) (hS : va_S A H0 H locs) (hA : ∀ q, H0.size ≤ q → A q) (isC isR : List Nat) (hC : isC.map (fun i => ws[i]?) = wc.map some) (hR : isR.map (fun i => ws[i]?) = wr.map some) (hn : va_nd isR = true) (hdis : ∀ i ∈ isR, i ∉ isC)
    (hr : va_Run p l e R s m args below meth c H locs cells slots mc ms (F0 m pc ls st0) rest (qW post D cl wc H.size w1 a) (va_A wc H.size))
    (kk : ∀ (z : Int) (u : S) (H1 : Heap) (locs1 : List Loc), post z u → va_P D cl (wr ++ w1 u) H1 → va_D A (wr ++ w1 u) → va_S A H0 H1 locs1 → W p l e R s m args below meth c H1 locs1 (cells + mc) (slots + ms) Q (F0 m (pc + 3) ls (.int (iI z) :: rest))) : W p l e R s m args below meth c H locs cells slots Q (F0 m pc ls st0) := by
  have hF := va_free (wc := wc) hD hS hA isC hC
  refine va_calli hr hS (fun q _ h => hF q h) hF (fun r u t H1 locs1 ht hvm hw hB hz1 hk1 hS1 => ?_)
  obtain ⟨z, rfl, hz⟩ := hw
  obtain ⟨hP1, hD1⟩ := hB
  rw [ht] at hP1
  obtain ⟨hP2, hD2⟩ := va_join (wr := wr) (w1 := w1 u) hP hD isC isR hC hR hn hdis hk1 hF hP1 hD1
  exact kk z u H1 locs1 hz hP2 hD2 hS1
theorem cw_v {S : Type} {post : S → Prop} {w1 : S → va_W} (hP : va_P D cl ws H) (hD : va_D A ws) (hS : va_S A H0 H locs) (hA : ∀ q, H0.size ≤ q → A q) (isC isR : List Nat) (hC : isC.map (fun i => ws[i]?) = wc.map some) (hR : isR.map (fun i => ws[i]?) = wr.map some) (hn : va_nd isR = true) (hdis : ∀ i ∈ isR, i ∉ isC)
    (hr : va_Run p l e R s m args below meth c H locs cells slots mc ms (F0 m pc ls st0) rest (qV post D cl wc H.size w1 a) (va_A wc H.size))
    (kk : ∀ (u : S) (H1 : Heap) (locs1 : List Loc), post u → va_P D cl (wr ++ w1 u) H1 → va_D A (wr ++ w1 u) → va_S A H0 H1 locs1 → W p l e R s m args below meth c H1 locs1 (cells + mc) (slots + ms) Q (F0 m (pc + 3) ls rest)) : W p l e R s m args below meth c H locs cells slots Q (F0 m pc ls st0) := by
  have hF := va_free (wc := wc) hD hS hA isC hC
  refine va_callv hr hS (fun q _ h => hF q h) hF (fun u t H1 locs1 ht hvm hw hB hz1 hk1 hS1 => ?_)
  obtain ⟨hP1, hD1⟩ := hB
  rw [ht] at hP1
  obtain ⟨hP2, hD2⟩ := va_join (wr := wr) (w1 := w1 u) hP hD isC isR hC hR hn hdis hk1 hF hP1 hD1
  exact kk u H1 locs1 hw hP2 hD2 hS1
end CC
/-- Met.ofW for a method of the JDK that isn't overridden -/
theorem ofWJ {l : Launch} {y : MethodName} {ws ws' : List Cond} {rm : Room} {Pc : Array Value → State → Prop} {Qc : Array Value → State → Outcome → State → Prop} {mc ms : Nat} {free : Addr → Prop} {cc : ByteArray} {maxL : Nat} {ret : Option FieldType}
    (hy : plainFor y = true) (hw : ws = Cond.code y cc maxL ret :: ws')
    (body : ∀ p e s m args below meth c s₁, BodyLoose p l y (headSpec ws rm) cc maxL ret e s m args below meth c s₁ → c.maxLocals = maxL → Pc args s →
      W p l e (headSpec ws rm).room s m args below meth c s.heap [] 0 0 (MQ below Qc args s mc ms free) (entryFrame m args maxL)) : Met l y ws rm Pc Qc mc ms free := by
  refine MetFree.of_bodySF (code := cc) (maxLocals := maxL) (ret := ret) hy ?_ ?_
  · intro args s m h hn
    obtain ⟨meth, c, h1, h2, h3, h4, h5, h6, -, -⟩ := Cond.code_spec hn (atoms_spec (ws := ws) h _ (by rw [hw]; exact List.mem_cons_self))
    exact ⟨meth, c, h1, h2, h3, h4, h5, h6⟩
  · intro p e s m args below meth c s₁ B hml hP _
    have hh0 : s₁.heap = s.heap := by rw [B.state]; rfl
    obtain ⟨t, a1, o, b1, b2, b3⟩ := body p e s m args below meth c s₁ B hml hP s₁ hh0 (Stand.of_body B)
    exact ⟨t, o, a1, b1, b2, ⟨b3.1, b3.2⟩⟩
