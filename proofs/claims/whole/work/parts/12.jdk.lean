def rm_c_floorDiv : Room := { frames := 0, cells := 0, slots := 0, locals := 0 }
set_option maxHeartbeats 4000000 in
set_option maxRecDepth 100000 in
theorem c_floorDiv (l : Launch) (D : va_G) (cA cB cS : ClassId) (x1 : Int) (x2 : Int) (h1 : -4611686018427387904 ≤ x1 ∧ x1 ≤ 4611686018427387904) (h2 : i64 x2) (h3 : ¬ x2 = 0) : Met l yJM_floorDiv wJM_floorDiv rm_c_floorDiv (pR [.long (lI x1), .long (lI x2)] D vwCl (vwTy cA cB cS) vwNw []) (qL (fun z => z = x1.fdiv x2)) 0 0 (fun _ => False) := by
  refine ofWJ (cc := bJM_floorDiv) (maxL := 6) (ret := (some .long)) (by decide +kernel) rfl ?_
  intro p e s m args below meth c s₁ B hml hv
  obtain ⟨rfl, hP, hKW⟩ := hv
  have hK := hKW.1
  have hN := hKW.2.2
  have hx := B.exec
  have hb := B.bytes
  have hr := B.returns
  have hts := atoms_spec (ws := wJM_floorDiv) B.pre
  have hown : s.vm.findClass "java/lang/Math" = some m.cls := findClass_of_methodNamed B.named
  have hlocks := B.notSynchronized
  have hP : va_P D vwCl [] s.heap := hP
  have hl := lv_entry ([.long (lI x1), .long (lI x2)]) (n := 6) (Nat.le_of_ble_eq_true rfl)
  rw [lg_entry_eq]
  generalize (lg_sl ([.long (lI x1), .long (lI x2)]) ++ List.replicate (6 - (lg_sl ([.long (lI x1), .long (lI x2)])).length) Slot.unset).toArray = ls at hl ⊢
  have hl : lv_has ls 6 [(0, .long (lI x1)), (2, .long (lI x2))] := hl
  generalize hQ : MQ below (qL (fun z => z = x1.fdiv x2)) [.long (lI x1), .long (lI x2)].toArray s 0 0 (fun _ => False) = QQ
  obtain ⟨fa1, fa2, fa3⟩ := fd_td (x := x1) (y := x2) h3
  have hb0 : (x1.tdiv x2).natAbs ≤ x1.natAbs := by rw [Int.natAbs_tdiv]; exact Nat.div_le_self _ _
  have hb1 : (x1.tdiv x2 * x2).natAbs ≤ x1.natAbs := by rw [Int.natAbs_mul, Int.natAbs_tdiv]; exact Nat.div_mul_le_self _ _
  refine lv_lload_n hx hb dJM_floorDiv_0 rfl (lv_at hl 0 rfl) ?_
  refine lv_lload_n hx hb dJM_floorDiv_1 rfl (lv_at hl 1 rfl) ?_
  refine ii_ldiv (z := x1.tdiv x2) hx hb dJM_floorDiv_2 (lI_ne0 (by omega) h3) (lI_tdiv (by omega) (by omega)) ?_
  refine lv_lstore (lv' := [(4, .long (lI (x1.tdiv x2))), (0, .long (lI x1)), (2, .long (lI x2))]) hx hb dJM_floorDiv_3 hl (by decide) rfl (fun ls hl => ?_)
  refine lv_lload_n hx hb dJM_floorDiv_5 rfl (lv_at hl 1 rfl) ?_
  refine lv_lload_n hx hb dJM_floorDiv_6 rfl (lv_at hl 2 rfl) ?_
  refine ii_lxor hx hb dJM_floorDiv_7 (by omega) (by omega) (fun zx_1 hzx_1 gzx_1 => ?_)
  refine ii_lconst (z := 0) hx hb dJM_floorDiv_8 (by decide +kernel) ?_
  refine ii_lcmp hx hb dJM_floorDiv_9 (by omega) (by omega) (fun zc_2 hzc_2 => ?_)
  refine ii_if_ge (tgt := 27) hx hb dJM_floorDiv_10 (by decide) (by omega) (fun c10 => ?_) (fun c10 => ?_)
  · refine lv_lload hx hb dJM_floorDiv_27 (lv_at hl 0 rfl) ?_
    rw [← hQ]
    exact rd_lret hx hb hr hlocks (by first | (rw [fa1 (by omega)]) | (rw [fa2 (by omega)])) dJM_floorDiv_29
  · refine lv_lload hx hb dJM_floorDiv_13 (lv_at hl 0 rfl) ?_
    refine lv_lload_n hx hb dJM_floorDiv_15 rfl (lv_at hl 2 rfl) ?_
    refine ii_lmul hx hb dJM_floorDiv_16 ?_
    refine lv_lload_n hx hb dJM_floorDiv_17 rfl (lv_at hl 1 rfl) ?_
    refine ii_lcmp hx hb dJM_floorDiv_18 (by omega) (by omega) (fun zc_3 hzc_3 => ?_)
    refine ii_if_eq (tgt := 27) hx hb dJM_floorDiv_19 (by decide) (by omega) (fun c19 => ?_) (fun c19 => ?_)
    · refine lv_lload hx hb dJM_floorDiv_27 (lv_at hl 0 rfl) ?_
      rw [← hQ]
      exact rd_lret hx hb hr hlocks (by first | (rw [fa1 (by omega)]) | (rw [fa2 (by omega)])) dJM_floorDiv_29
    · refine lv_lload hx hb dJM_floorDiv_22 (lv_at hl 0 rfl) ?_
      refine ii_lconst (z := 1) hx hb dJM_floorDiv_24 (by decide +kernel) ?_
      refine ii_lsub hx hb dJM_floorDiv_25 ?_
      rw [← hQ]
      exact rd_lret hx hb hr hlocks (by rw [fa3 (by omega) (by omega)]) dJM_floorDiv_26

def rm_c_afill : Room := { frames := 0, cells := 0, slots := 0, locals := 0 }
set_option maxHeartbeats 4000000 in
set_option maxRecDepth 100000 in
theorem c_afill (l : Launch) (D : va_G) (cA cB cS : ClassId) (fa : Nat) (fl : Nat) (fF : Nat → Int) (fv : Int) (h1 : fl < 2147483647) (sz : Nat) : Met l yJA_fill wJA_fill rm_c_afill (pW [.ref fa, .int (iI fv)] D vwCl (vwTy cA cB cS) vwNw [(fa, .inl (cA, fl, .inl (iA fF)))] sz) (qV (S := (Nat → Int)) (fun fG : (Nat → Int) => ∀ k, k < fl → fG k = fv) D vwCl [(fa, .inl (cA, fl, .inl (iA fF)))] sz (fun fG : (Nat → Int) => [(fa, .inl (cA, fl, .inl (iA fG)))])) 0 0 (va_A [(fa, .inl (cA, fl, .inl (iA fF)))] sz) := by
  refine ofWJ (cc := bJA_fill) (maxL := 4) (ret := none) (by decide +kernel) rfl ?_
  intro p e s m args below meth c s₁ B hml hv
  obtain ⟨rfl, hsz, hP, hKW, hD0⟩ := hv
  have hK := hKW.1
  have hN := hKW.2.2
  have hx := B.exec
  have hb := B.bytes
  have hr := B.returns
  have hts := atoms_spec (ws := wJA_fill) B.pre
  have hown : s.vm.findClass "java/util/Arrays" = some m.cls := findClass_of_methodNamed B.named
  have hlocks := B.notSynchronized
  subst hsz
  have hD := hD0.self (sz := s.heap.size)
  obtain ⟨A, hAe⟩ : ∃ A, va_A [(fa, .inl (cA, fl, .inl (iA fF)))] s.heap.size = A := ⟨_, rfl⟩
  rw [hAe] at hD
  have hA : ∀ q : Nat, s.heap.size ≤ q → A q := fun q h => by rw [← hAe]; exact Or.inr h
  have hS : va_S A s.heap s.heap [] := va_S.rf
  have hP : va_P D vwCl [(fa, .inl (cA, fl, .inl (iA fF)))] s.heap := hP
  have hl := lv_entry ([.ref fa, .int (iI fv)]) (n := 4) (Nat.le_of_ble_eq_true rfl)
  rw [lg_entry_eq]
  generalize (lg_sl ([.ref fa, .int (iI fv)]) ++ List.replicate (4 - (lg_sl ([.ref fa, .int (iI fv)])).length) Slot.unset).toArray = ls at hl ⊢
  have hl : lv_has ls 4 [(0, .ref fa), (1, .int (iI fv))] := hl
  generalize hQ : MQ below (qV (S := (Nat → Int)) (fun fG : (Nat → Int) => ∀ k, k < fl → fG k = fv) D vwCl [(fa, .inl (cA, fl, .inl (iA fF)))] s.heap.size (fun fG : (Nat → Int) => [(fa, .inl (cA, fl, .inl (iA fG)))])) [.ref fa, .int (iI fv)].toArray s 0 0 (va_A [(fa, .inl (cA, fl, .inl (iA fF)))] s.heap.size) = QQ
  refine ii_iconst (n := 0) hx hb dJA_fill_0 ?_
  refine lv_istore_n (lv' := [(2, .int (iI 0)), (0, .ref fa), (1, .int (iI fv))]) hx hb dJA_fill_1 rfl hl (by decide) rfl (fun ls hl => ?_)
  refine lv_aload_n hx hb dJA_fill_2 rfl (lv_at hl 1 rfl) ?_
  refine ii_alen hx hb hK hP 0 0 rfl rfl dJA_fill_3 ?_
  refine lv_istore_n (lv' := [(3, .int (iI (fl : Int))), (2, .int (iI 0)), (0, .ref fa), (1, .int (iI fv))]) hx hb dJA_fill_4 rfl hl (by decide) rfl (fun ls hl => ?_)
  have lp5 : ∀ (n_ : Nat) (i : Nat) (fJ : Nat → Int), (i ≤ fl) → (∀ k, k < i → fJ k = fv) → (fl - i) < n_ → ∀ (H : Heap) (locs : List Loc), va_P D vwCl [(fa, .inl (cA, fl, .inl (iA fJ)))] H → va_D A [(fa, .inl (cA, fl, .inl (iA fJ)))] → va_S A s.heap H locs → ∀ ls : Array Slot, lv_has ls 4 [(2, .int (iI (i : Int))), (3, .int (iI (fl : Int))), (0, .ref fa), (1, .int (iI fv))] → W p l e (headSpec wJA_fill rm_c_afill).room s m [.ref fa, .int (iI fv)].toArray below meth c H locs 0 0 QQ (F0 m 5 ls []) := by
    intro n_
    induction n_ with
    | zero =>
      intro i fJ i1 i2 hm_
      exact absurd hm_ (Nat.not_lt_zero _)
    | succ n_ ih_lp5 =>
      intro i fJ i1 i2 hm_lp5 H locs hP hD hS ls hl
      refine lv_iload_n hx hb dJA_fill_5 rfl (lv_at hl 0 rfl) ?_
      refine lv_iload_n hx hb dJA_fill_6 rfl (lv_at hl 1 rfl) ?_
      refine ii_icmp_ge (tgt := 20) hx hb dJA_fill_7 (by decide) (by omega) (by omega) (fun c7 => ?_) (fun c7 => ?_)
      · rw [← hQ]
        exact wr_vret fJ hx hb hr hlocks hAe (hP.sub [0] rfl) (hD.sub [0] (by decide) rfl) hS (fun k hk => i2 k (by omega)) dJA_fill_20
      · refine lv_aload_n hx hb dJA_fill_10 rfl (lv_at hl 2 rfl) ?_
        refine lv_iload_n hx hb dJA_fill_11 rfl (lv_at hl 0 rfl) ?_
        refine lv_iload_n hx hb dJA_fill_12 rfl (lv_at hl 3 rfl) ?_
        refine ii_iast hx hb hK hP hD hS 0 0 rfl rfl i rfl (by omega) (by omega) dJA_fill_13 (fun H locs hP hD hS => ?_)
        have hP : va_P D vwCl [(fa, .inl (cA, fl, .inl (iA (uZ fJ i fv))))] H := hP
        have hD : va_D A [(fa, .inl (cA, fl, .inl (iA (uZ fJ i fv))))] := hD
        refine lv_iinc (v := iI ((i + 1 : Nat) : Int)) (lv' := [(2, .int (iI ((i + 1 : Nat) : Int))), (3, .int (iI (fl : Int))), (0, .ref fa), (1, .int (iI fv))]) hx hb dJA_fill_14 hl (k := 0) rfl (iI_inc _ 1 (by omega)) (by decide) rfl (fun ls hl => ?_)
        refine lv_goto (tgt := 5) hx hb dJA_fill_17 (by decide) ?_
        exact ih_lp5 (i + 1) (uZ fJ i fv) (by omega) (fun k hk => by unfold uZ; split; (next h => rfl); (next h => exact i2 k (by omega))) (by omega) _ _ (hP.sub [0] rfl) (hD.sub [0] (by decide) rfl) hS _ (lv_sub hl [0, 1, 2, 3] rfl)
  exact lp5 (fl - 0 + 1) 0 fF (by omega) (fun k hk => absurd hk (Nat.not_lt_zero _)) (Nat.lt_succ_self _) _ _ (hP.sub [0] rfl) (hD.sub [0] (by decide) rfl) hS _ (lv_sub hl [1, 0, 2, 3] rfl)
