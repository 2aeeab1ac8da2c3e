/-! BYTES, SHORTS, BITS -/
theorem iI_8 {z : Int} (h : -128 ≤ z ∧ z < 128) : (iI z).toInt8.toInt32 = iI z := by
  apply Int32.toInt_inj.mp
  rw [Int8.toInt_toInt32, Int32.toInt_toInt8, iI_toInt (by omega)]
  show z.bmod 256 = z
  rw [Int.bmod_eq_of_le (by omega) (by omega)]
theorem iI_8b {z : Int} (h : 0 ≤ z ∧ z ≤ 255) : (iI z).toInt8.toInt32 = iI (if z < 128 then z else z - 256) := by
  apply Int32.toInt_inj.mp
  rw [Int8.toInt_toInt32, Int32.toInt_toInt8, iI_toInt (by omega), iI_toInt (by split <;> omega)]
  show z.bmod 256 = _
  split
  · rw [Int.bmod_eq_of_le (by omega) (by omega)]
  · rw [Int.bmod_def]
    omega
theorem iI_16 {z : Int} (h : -32768 ≤ z ∧ z < 32768) : (iI z).toInt16.toInt32 = iI z := by
  apply Int32.toInt_inj.mp
  rw [Int16.toInt_toInt32, Int32.toInt_toInt16, iI_toInt (by omega)]
  show z.bmod 65536 = z
  rw [Int.bmod_eq_of_le (by omega) (by omega)]
theorem sh_amt : ∀ j, j < 31 → ((iI ((j : Nat) : Int) &&& 31).toBitVec.smod 32).toNat = j := by decide +kernel
theorem iI_shrV {m j : Nat} (hm : m < 2147483648) (hj : j < 31) : iI (m : Int) >>> (iI (j : Int) &&& 31) = iI ((m / 2 ^ j : Nat) : Int) := by
  apply Int32.toInt_inj.mp
  have h1 : m / 2 ^ j ≤ m := Nat.div_le_self _ _
  have h2 : ∀ q : Nat, q ≤ m → i32 (q : Int) := fun q hq => by omega
  rw [pk_shr _ _ j (sh_amt j hj), iI_toInt (h2 m (Nat.le_refl _)), iI_toInt (h2 _ h1), Int.shiftRight_eq_div_pow]
  exact (Int.natCast_ediv m (2 ^ j)).symm
theorem p2_lt {j : Nat} (hj : j < 14) : 2 ^ j ≤ 8192 := Nat.pow_le_pow_right (by decide) (show j ≤ 13 by omega)
theorem iI_shl1 {j : Nat} (hj : j < 14) : iI 1 <<< (iI (j : Int) &&& 31) = iI ((2 ^ j : Nat) : Int) := by
  have hp := p2_lt hj
  apply Int32.toBitVec.inj
  apply BitVec.eq_of_toNat_eq
  rw [pk_shl _ _ j (sh_amt j (by omega))]
  show (BitVec.ofInt 32 1).toNat * 2 ^ j % 2 ^ 32 = (BitVec.ofInt 32 ((2 ^ j : Nat) : Int)).toNat
  rw [BitVec.toNat_ofInt, BitVec.toNat_ofInt, show ((1 : Int) % ((2 ^ 32 : Nat) : Int)).toNat = 1 by decide, Nat.one_mul]
  generalize 2 ^ j = q at hp ⊢
  omega
theorem iI_bit (m : Nat) (i : Nat) (hi : i < 32) : (iI (m : Int)).toBitVec.getLsbD i = m.testBit i := by
  show (BitVec.ofInt 32 (m : Int)).getLsbD i = m.testBit i
  rw [BitVec.ofInt_natCast, BitVec.getLsbD_ofNat]
  simp [hi]
theorem iI_bv (x : Int32) (h : x.toBitVec.toNat < 2147483648) : x = iI ((x.toBitVec.toNat : Nat) : Int) := by
  apply Int32.toBitVec.inj
  show x.toBitVec = BitVec.ofInt 32 ((x.toBitVec.toNat : Nat) : Int)
  rw [BitVec.ofInt_natCast, BitVec.ofNat_toNat, BitVec.setWidth_eq]
theorem p2_bit (j i : Nat) : (2 ^ j).testBit i = decide (j = i) := Nat.testBit_two_pow
/-- a number whose bits from 14 on are none is small -/
theorem small14 {q : Nat} (h : ∀ i, 14 ≤ i → q.testBit i = false) : q < 16384 := by
  have := Nat.lt_pow_two_of_testBit (n := 14) q (fun i hi => h i hi)
  omega
theorem big14 {m i : Nat} (hm : m < 16384) (hi : 14 ≤ i) : m.testBit i = false := by
  apply Nat.testBit_lt_two_pow
  exact Nat.lt_of_lt_of_le hm (Nat.pow_le_pow_right (n := 2) (by decide) hi)
theorem m1_bit : ∀ i, i < 32 → (iI (-1)).toBitVec.getLsbD i = true := by decide +kernel
theorem iI_clr {m j : Nat} (hm : m < 16384) (hj : j < 14) : ∃ q : Nat, iI (m : Int) &&& (iI ((2 ^ j : Nat) : Int) ^^^ iI (-1)) = iI (q : Int) ∧ q < 16384 ∧ ∀ i, q.testBit i = (m.testBit i && !decide (i = j)) := by
  have hb : ∀ i, (iI (m : Int) &&& (iI ((2 ^ j : Nat) : Int) ^^^ iI (-1))).toBitVec.toNat.testBit i = (m.testBit i && !decide (i = j)) := by
    intro i
    rw [← BitVec.getLsbD]
    by_cases hi : i < 32
    · rw [Int32.toBitVec_and, Int32.toBitVec_xor, BitVec.getLsbD_and, BitVec.getLsbD_xor, iI_bit m i hi, iI_bit (2 ^ j) i hi, m1_bit i hi, p2_bit]
      by_cases e : i = j
      · simp [e]
      · simp [e, Ne.symm e]
    · rw [BitVec.getLsbD_of_ge _ _ (by omega), big14 hm (by omega), Bool.false_and]
  have hs : (iI (m : Int) &&& (iI ((2 ^ j : Nat) : Int) ^^^ iI (-1))).toBitVec.toNat < 16384 := small14 (fun i hi => by rw [hb i, big14 hm hi, Bool.false_and])
  exact ⟨_, iI_bv _ (by omega), hs, hb⟩
theorem iI_set {m j : Nat} (hm : m < 16384) (hj : j < 14) : ∃ q : Nat, iI (m : Int) ||| iI ((2 ^ j : Nat) : Int) = iI (q : Int) ∧ q < 16384 ∧ ∀ i, q.testBit i = (m.testBit i || decide (i = j)) := by
  have hb : ∀ i, (iI (m : Int) ||| iI ((2 ^ j : Nat) : Int)).toBitVec.toNat.testBit i = (m.testBit i || decide (i = j)) := by
    intro i
    rw [← BitVec.getLsbD]
    by_cases hi : i < 32
    · rw [Int32.toBitVec_or, BitVec.getLsbD_or, iI_bit m i hi, iI_bit (2 ^ j) i hi, p2_bit]
      by_cases e : i = j
      · simp [e]
      · simp [e, Ne.symm e]
    · rw [BitVec.getLsbD_of_ge _ _ (by omega), big14 hm (by omega), Bool.false_or]
      exact (decide_eq_false (by omega)).symm
  have hs : (iI (m : Int) ||| iI ((2 ^ j : Nat) : Int)).toBitVec.toNat < 16384 := small14 (fun i hi => by rw [hb i, big14 hm hi, Bool.false_or]; exact decide_eq_false (by omega))
  exact ⟨_, iI_bv _ (by omega), hs, hb⟩
theorem bit_dm (m j : Nat) : m.testBit j = true ↔ m / 2 ^ j % 2 = 1 := by
  rw [Nat.testBit_eq_decide_div_mod_eq, decide_eq_true_iff]
theorem iI_rem2 {x : Int} (h : i32 x) : ∃ z : Int, iI x - iI x / iI 2 * iI 2 = iI z ∧ (-1 ≤ z ∧ z ≤ 1) ∧ (z = 0 ↔ x % 2 = 0) := by
  have ht : (0 ≤ x ∧ x.tdiv 2 = x / 2) ∨ (x < 0 ∧ x.tdiv 2 = -((-x) / 2)) := by
    by_cases q : x < 0
    · refine Or.inr ⟨q, ?_⟩
      rw [← Int.tdiv_eq_ediv_of_nonneg (by omega : 0 ≤ -x), Int.neg_tdiv, Int.neg_neg]
    · exact Or.inl ⟨by omega, Int.tdiv_eq_ediv_of_nonneg (by omega)⟩
  have e : iI x / iI 2 = iI (x.tdiv 2) := by
    apply Int32.toInt_inj.mp
    have hne : iI x ≠ Int32.minValue ∨ iI 2 ≠ -1 := Or.inr (by decide +kernel)
    rw [Int32.toInt_div_of_ne_right _ _ (by decide +kernel), iI_toInt h, iI_toInt (by omega), iI_toInt]
    omega
  rw [e, iI_mul, iI_sub]
  exact ⟨_, rfl, by omega, by omega⟩
section IB
variable {p : Program} {l : Launch} {e : Env} {R : Room} {s : State} {m : MethodId} {args : Array Value} {below : List Frame} {meth : Method} {c : Code} {H : Heap} {locs : List Loc} {cells slots : Nat} {Q : State → Prop}
variable {cc : ByteArray} {pc : Nat} {ls : Array Slot} {rest : List Value} {D : va_G} {cl : List vw_C} {A : Nat → Prop} {a : Nat} {tys : List (ClassId × FieldType)} {ws : va_W} {H0 : Heap}
theorem ii_ixor {z : Int32} (hx : p.tables.exec = Jvm.exec) (hb : c.code = cc) {x y : Int32} (hdg : decode cc pc = .ok (.ixor, 1)) (hz : x ^^^ y = z) (k : W p l e R s m args below meth c H locs cells slots Q (F0 m (pc + 1) ls (.int z :: rest))) : W p l e R s m args below meth c H locs cells slots Q (F0 m pc ls (.int y :: .int x :: rest)) := lv_ixor hx hb hdg (by rw [hz]; exact k)
theorem ii_iandX {z : Int} (hx : p.tables.exec = Jvm.exec) (hb : c.code = cc) {x y : Int32} (hdg : decode cc pc = .ok (.iand, 1)) (hz : x &&& y = iI z) (k : W p l e R s m args below meth c H locs cells slots Q (F0 m (pc + 1) ls (.int (iI z) :: rest))) : W p l e R s m args below meth c H locs cells slots Q (F0 m pc ls (.int y :: .int x :: rest)) := lv_iand hx hb hdg (by rw [hz]; exact k)
theorem ii_irem2 (hx : p.tables.exec = Jvm.exec) (hb : c.code = cc) {x : Int} (hdg : decode cc pc = .ok (.irem, 1)) (h : i32 x) (k : ∀ z : Int, -1 ≤ z ∧ z ≤ 1 → (z = 0 ↔ x % 2 = 0) → W p l e R s m args below meth c H locs cells slots Q (F0 m (pc + 1) ls (.int (iI z) :: rest))) : W p l e R s m args below meth c H locs cells slots Q (F0 m pc ls (.int (iI 2) :: .int (iI x) :: rest)) := by
  obtain ⟨z, e1, e2, e3⟩ := iI_rem2 h
  exact lv_irem hx hb hdg (by decide +kernel) (by rw [e1]; exact k z e2 e3)
theorem ii_i2b (hx : p.tables.exec = Jvm.exec) (hb : c.code = cc) {x z : Int} (hdg : decode cc pc = .ok (.i2b, 1)) (h : (iI x).toInt8.toInt32 = iI z) (k : W p l e R s m args below meth c H locs cells slots Q (F0 m (pc + 1) ls (.int (iI z) :: rest))) : W p l e R s m args below meth c H locs cells slots Q (F0 m pc ls (.int (iI x) :: rest)) := lv_i2b hx hb hdg h k
theorem ii_i2s (hx : p.tables.exec = Jvm.exec) (hb : c.code = cc) {x z : Int} (hdg : decode cc pc = .ok (.i2s, 1)) (h : (iI x).toInt16.toInt32 = iI z) (k : W p l e R s m args below meth c H locs cells slots Q (F0 m (pc + 1) ls (.int (iI z) :: rest))) : W p l e R s m args below meth c H locs cells slots Q (F0 m pc ls (.int (iI x) :: rest)) := lv_i2s hx hb hdg h k
theorem ii_bald (hx : p.tables.exec = Jvm.exec) (hb : c.code = cc) (hK : va_K D cl tys s) (hP : va_P D cl ws H) (q0 t0 : Nat) {cA : ClassId} {n : Nat} {F : Nat → Int} (ha : ws[q0]? = some (a, .inl (cA, n, .inl (iA F)))) (ht : tys[t0]? = some (cA, .byte)) {z : Int} (k : Nat) (hz : z = (k : Int)) (hk : k < n) (hn : n < 2147483648) (hdg : decode cc pc = .ok (.baload, 1))
    (kk : W p l e R s m args below meth c H locs cells slots Q (F0 m (pc + 1) ls (.int (iI (F k)) :: rest))) : W p l e R s m args below meth c H locs cells slots Q (F0 m pc ls (.int (iI z) :: .ref a :: rest)) := by
  refine va_bald hx hb hK hP q0 t0 ha ht (iI_in hz hk hn) hdg ?_
  rw [iI_clamp hz (by omega)]
  exact kk
theorem ii_sald (hx : p.tables.exec = Jvm.exec) (hb : c.code = cc) (hK : va_K D cl tys s) (hP : va_P D cl ws H) (q0 t0 : Nat) {cA : ClassId} {n : Nat} {F : Nat → Int} (ha : ws[q0]? = some (a, .inl (cA, n, .inl (iA F)))) (ht : tys[t0]? = some (cA, .short)) {z : Int} (k : Nat) (hz : z = (k : Int)) (hk : k < n) (hn : n < 2147483648) (hdg : decode cc pc = .ok (.saload, 1))
    (kk : W p l e R s m args below meth c H locs cells slots Q (F0 m (pc + 1) ls (.int (iI (F k)) :: rest))) : W p l e R s m args below meth c H locs cells slots Q (F0 m pc ls (.int (iI z) :: .ref a :: rest)) := by
  refine va_sald hx hb hK hP q0 t0 ha ht (iI_in hz hk hn) hdg ?_
  rw [iI_clamp hz (by omega)]
  exact kk
theorem ii_bast (hx : p.tables.exec = Jvm.exec) (hb : c.code = cc) (hK : va_K D cl tys s) (hP : va_P D cl ws H) (hD : va_D A ws) (hS : va_S A H0 H locs) (q0 t0 : Nat) {cA : ClassId} {n : Nat} {F : Nat → Int} (ha : ws[q0]? = some (a, .inl (cA, n, .inl (iA F)))) (ht : tys[t0]? = some (cA, .byte)) {z x : Int} (k : Nat) (hz : z = (k : Int)) (hk : k < n) (hn : n < 2147483648) (hv : -128 ≤ x ∧ x < 128) (hdg : decode cc pc = .ok (.bastore, 1))
    (kk : ∀ (H1 : Heap) (locs1 : List Loc), va_P D cl (ws.set q0 (a, .inl (cA, n, .inl (iA (uZ F k x))))) H1 → va_D A (ws.set q0 (a, .inl (cA, n, .inl (iA (uZ F k x))))) → va_S A H0 H1 locs1 → W p l e R s m args below meth c H1 locs1 cells slots Q (F0 m (pc + 1) ls rest)) : W p l e R s m args below meth c H locs cells slots Q (F0 m pc ls (.int (iI x) :: .int (iI z) :: .ref a :: rest)) := by
  refine va_bast hx hb hK hP hD hS q0 t0 ha ht (iI_in hz hk hn) hdg (fun H1 locs1 hP hD hS => ?_)
  rw [iI_clamp hz (by omega), vp_nar_byte, iI_8 hv, iA_upd] at hP hD
  exact kk H1 locs1 hP hD hS
theorem ii_sast (hx : p.tables.exec = Jvm.exec) (hb : c.code = cc) (hK : va_K D cl tys s) (hP : va_P D cl ws H) (hD : va_D A ws) (hS : va_S A H0 H locs) (q0 t0 : Nat) {cA : ClassId} {n : Nat} {F : Nat → Int} (ha : ws[q0]? = some (a, .inl (cA, n, .inl (iA F)))) (ht : tys[t0]? = some (cA, .short)) {z x : Int} (k : Nat) (hz : z = (k : Int)) (hk : k < n) (hn : n < 2147483648) (hv : -32768 ≤ x ∧ x < 32768) (hdg : decode cc pc = .ok (.sastore, 1))
    (kk : ∀ (H1 : Heap) (locs1 : List Loc), va_P D cl (ws.set q0 (a, .inl (cA, n, .inl (iA (uZ F k x))))) H1 → va_D A (ws.set q0 (a, .inl (cA, n, .inl (iA (uZ F k x))))) → va_S A H0 H1 locs1 → W p l e R s m args below meth c H1 locs1 cells slots Q (F0 m (pc + 1) ls rest)) : W p l e R s m args below meth c H locs cells slots Q (F0 m pc ls (.int (iI x) :: .int (iI z) :: .ref a :: rest)) := by
  refine va_sast hx hb hK hP hD hS q0 t0 ha ht (iI_in hz hk hn) hdg (fun H1 locs1 hP hD hS => ?_)
  rw [iI_clamp hz (by omega), vp_nar_short, iI_16 hv, iA_upd] at hP hD
  exact kk H1 locs1 hP hD hS
theorem ii_newb (hx : p.tables.exec = Jvm.exec) (hb : c.code = cc) (harr : (Cond.arrayClass .byte).before args s = true) (hK : va_K D cl tys s) (hP : va_P D cl ws H) (hD : va_D A ws) (hS : va_S A H0 H locs) (hA : ∀ q, H0.size ≤ q → A q) (t0 : Nat) {cA : ClassId} (ht : tys[t0]? = some (cA, .byte))
    {z : Int} (n : Nat) (hz : z = (n : Int)) (hn : n ≤ 134217728) (hcells : cells + 1 ≤ R.cells) (hslots : slots + n ≤ R.slots) (hdg : decode cc pc = .ok (.newarray .byte, 2))
    (kk : ∀ (q : Nat) (H1 : Heap), va_P D cl (ws ++ [(q, .inl (cA, n, .inl (iA (fun _ => 0))))]) H1 → va_D A (ws ++ [(q, .inl (cA, n, .inl (iA (fun _ => 0))))]) → va_S A H0 H1 locs →
      W p l e R s m args below meth c H1 locs (cells + 1) (slots + n) Q (F0 m (pc + 2) ls (.ref q :: rest))) : W p l e R s m args below meth c H locs cells slots Q (F0 m pc ls (.int (iI z) :: rest)) := by
  refine va_newa (atype := .byte) (ty := .byte) (N' := n) (a0 := (n, .inl (iA (fun _ => 0)))) hx hb harr rfl hK hP hD hS hA (fun cA => rfl) ?_ (iI_clamp hz (by omega)) ?_ hcells hslots hdg (fun q cB H1 hK1 hP1 hD1 hS1 => ?_)
  · intro q
    rw [← iI_zero, iI_lt (by omega) (by omega)] at q
    omega
  · show n * 1 ≤ 536870912
    omega
  · have e : cB = cA := by
      have h1 := va_nm_byte (hK1.2 tys.length (cB, .byte) (by rw [List.getElem?_append_right (Nat.le_refl _), Nat.sub_self]; rfl)).2
      have h2 := va_nm_byte (hK.2 t0 (cA, .byte) ht).2
      exact Option.some.inj (h1.symm.trans h2)
    subst e
    exact kk q H1 hP1 hD1 hS1
theorem ii_news (hx : p.tables.exec = Jvm.exec) (hb : c.code = cc) (harr : (Cond.arrayClass .short).before args s = true) (hK : va_K D cl tys s) (hP : va_P D cl ws H) (hD : va_D A ws) (hS : va_S A H0 H locs) (hA : ∀ q, H0.size ≤ q → A q) (t0 : Nat) {cA : ClassId} (ht : tys[t0]? = some (cA, .short))
    {z : Int} (n : Nat) (hz : z = (n : Int)) (hn : n ≤ 134217728) (hcells : cells + 1 ≤ R.cells) (hslots : slots + n ≤ R.slots) (hdg : decode cc pc = .ok (.newarray .short, 2))
    (kk : ∀ (q : Nat) (H1 : Heap), va_P D cl (ws ++ [(q, .inl (cA, n, .inl (iA (fun _ => 0))))]) H1 → va_D A (ws ++ [(q, .inl (cA, n, .inl (iA (fun _ => 0))))]) → va_S A H0 H1 locs →
      W p l e R s m args below meth c H1 locs (cells + 1) (slots + n) Q (F0 m (pc + 2) ls (.ref q :: rest))) : W p l e R s m args below meth c H locs cells slots Q (F0 m pc ls (.int (iI z) :: rest)) := by
  refine va_newa (atype := .short) (ty := .short) (N' := n) (a0 := (n, .inl (iA (fun _ => 0)))) hx hb harr rfl hK hP hD hS hA (fun cA => rfl) ?_ (iI_clamp hz (by omega)) ?_ hcells hslots hdg (fun q cB H1 hK1 hP1 hD1 hS1 => ?_)
  · intro q
    rw [← iI_zero, iI_lt (by omega) (by omega)] at q
    omega
  · show n * 2 ≤ 536870912
    omega
  · have e : cB = cA := by
      have h1 := va_nm_short (hK1.2 tys.length (cB, .short) (by rw [List.getElem?_append_right (Nat.le_refl _), Nat.sub_self]; rfl)).2
      have h2 := va_nm_short (hK.2 t0 (cA, .short) ht).2
      exact Option.some.inj (h1.symm.trans h2)
    subst e
    exact kk q H1 hP1 hD1 hS1
end IB
