def rm_m_isOpen : Room := { frames := 0, cells := 0, slots := 0, locals := 0 }
set_option maxHeartbeats 4000000 in
set_option maxRecDepth 100000 in
theorem m_isOpen (l : Launch) (D : va_G) (cA cB cS : ClassId) (mo : Nat) (cs : Nat) (rs : Nat) (mg : Nat) (mm : Nat) (mx : Nat) (my : Nat) (mf : Nat) (mt : Nat) (fB : Nat → Int) (fM : Nat → Int) (gX : Nat → Int) (gY : Nat → Int) (gF : Nat → Int) (gT : Nat → Int) (mv : Nat) (mp : Nat) (me : Nat) (pp : Nat) (jj : Nat) (h1 : pp < 65536) (h2 : jj < 14) (hm : ∀ p, p < 65536 → 0 ≤ fM p ∧ fM p < 16384) : Met l yM_isOpen wM_isOpen rm_m_isOpen (pR [.ref mo, .int (iI (pp : Int)), .int (iI (jj : Int))] D vwCl (vwTy cA cB cS) vwNw [(mo, .inr (4, [.int (iI (cs : Int)), .int (iI (rs : Int)), .ref mg, .ref mm, .int (iI (mv : Int)), .ref mx, .ref my, .ref mf, .int (iI (mp : Int)), .ref mt, .int (iI (me : Int))])), (mg, .inl (cB, 65536, .inl (iA fB))), (mm, .inl (cS, 65536, .inl (iA fM))), (mx, .inl (cA, 4096, .inl (iA gX))), (my, .inl (cA, 4096, .inl (iA gY))), (mf, .inl (cA, 4096, .inl (iA gF))), (mt, .inl (cA, 4096, .inl (iA gT)))]) (qI (fun z => (z = 1 ∧ ((fM pp).toNat.testBit jj = true)) ∨ (z = 0 ∧ ¬ ((fM pp).toNat.testBit jj = true)))) 0 0 (fun _ => False) := by
  refine Met.ofW (cc := bM_isOpen) (maxL := 3) (ret := (some .boolean)) (by decide +kernel) rfl ?_
  intro p e s m args below meth c s₁ B hml hv
  obtain ⟨rfl, hP, hKW⟩ := hv
  have hK := hKW.1
  have hN := hKW.2.2
  have hx := B.exec
  have hb := B.bytes
  have hr := B.returns
  have hts := atoms_spec (ws := wM_isOpen) B.pre
  have hown : s.vm.findClass "WindingRasterModel" = some m.cls := findClass_of_methodNamed B.named
  have hlocks := B.notSynchronized
  have hP : va_P D vwCl [(mo, .inr (4, [.int (iI (cs : Int)), .int (iI (rs : Int)), .ref mg, .ref mm, .int (iI (mv : Int)), .ref mx, .ref my, .ref mf, .int (iI (mp : Int)), .ref mt, .int (iI (me : Int))])), (mg, .inl (cB, 65536, .inl (iA fB))), (mm, .inl (cS, 65536, .inl (iA fM))), (mx, .inl (cA, 4096, .inl (iA gX))), (my, .inl (cA, 4096, .inl (iA gY))), (mf, .inl (cA, 4096, .inl (iA gF))), (mt, .inl (cA, 4096, .inl (iA gT)))] s.heap := hP
  have in_4 : ∀ w ∈ wsM, w ∈ wM_isOpen := fun w h => List.mem_cons_of_mem _ (in0_M w h)
  have fl_14 := (hts _ (List.mem_cons_of_mem _ vm_264))
  have hl := lv_entry ([.ref mo, .int (iI (pp : Int)), .int (iI (jj : Int))]) (n := 3) (Nat.le_of_ble_eq_true rfl)
  rw [lg_entry_eq]
  generalize (lg_sl ([.ref mo, .int (iI (pp : Int)), .int (iI (jj : Int))]) ++ List.replicate (3 - (lg_sl ([.ref mo, .int (iI (pp : Int)), .int (iI (jj : Int))])).length) Slot.unset).toArray = ls at hl ⊢
  have hl : lv_has ls 3 [(0, .ref mo), (1, .int (iI (pp : Int))), (2, .int (iI (jj : Int)))] := hl
  generalize hQ : MQ below (qI (fun z => (z = 1 ∧ ((fM pp).toNat.testBit jj = true)) ∨ (z = 0 ∧ ¬ ((fM pp).toNat.testBit jj = true)))) [.ref mo, .int (iI (pp : Int)), .int (iI (jj : Int))].toArray s 0 0 (fun _ => False) = QQ
  have hm0 := hm pp h1
  obtain ⟨mN, hmN⟩ : ∃ mN : Nat, fM pp = (mN : Int) := ⟨(fM pp).toNat, by omega⟩
  have emN : (fM pp).toNat = mN := by omega
  have hdm := bit_dm mN jj
  rw [← emN] at hdm
  have hq0 : ∀ q : Nat, q ≤ mN → q < 16384 := fun q hq => by omega
  have hq1 := hq0 _ (Nat.div_le_self mN (2 ^ jj))
  rw [emN] at hdm
  obtain ⟨qd, hqd⟩ : ∃ qd, mN / 2 ^ jj = qd := ⟨_, rfl⟩
  rw [hqd] at hdm hq1
  refine lv_aload_n hx hb dM_isOpen_0 rfl (lv_at hl 0 rfl) ?_
  refine va_get (ci := 4) (v := .ref mm) (C := "WindingRasterModel") (T := TM) (N := 11) hx hb hts in_4 hown hK hP 0 rfl rfl 3 (by decide) fl_14 (fun _ h9 => h9) rfl dM_isOpen_1 ?_
  refine lv_iload_n hx hb dM_isOpen_4 rfl (lv_at hl 1 rfl) ?_
  refine ii_sald hx hb hK hP 2 2 rfl rfl pp rfl (by omega) (by omega) dM_isOpen_5 ?_
  refine ii_top (y := (mN : Int)) hmN ?_
  refine lv_iload_n hx hb dM_isOpen_6 rfl (lv_at hl 2 rfl) ?_
  refine ii_ishr (z := (qd : Int)) hx hb dM_isOpen_7 (by rw [← hqd]; exact iI_shrV (by omega) (by omega)) ?_
  refine ii_iconst (n := 1) hx hb dM_isOpen_8 ?_
  refine ii_iand (z := (qd : Int) % 2) hx hb dM_isOpen_9 (iI_and1 _) ?_
  refine ii_iconst (n := 1) hx hb dM_isOpen_10 ?_
  refine ii_icmp_ne (tgt := 18) hx hb dM_isOpen_11 (by decide) (by omega) (by omega) (fun c11 => ?_) (fun c11 => ?_)
  · refine ii_iconst (n := 0) hx hb dM_isOpen_18 ?_
    rw [← hQ]
    exact rd_zret hx hb hr hlocks (nar_b (by omega)) (Or.inr ⟨rfl, fun w => by rw [emN] at w; have w2 := hdm.mp w; omega⟩) dM_isOpen_19
  · refine ii_iconst (n := 1) hx hb dM_isOpen_14 ?_
    refine lv_goto (tgt := 19) hx hb dM_isOpen_15 (by decide) ?_
    rw [← hQ]
    exact rd_zret hx hb hr hlocks (nar_b (by omega)) (Or.inl ⟨rfl, by rw [emN]; exact hdm.mpr (by omega)⟩) dM_isOpen_19

def rm_m_setOpen : Room := { frames := 0, cells := 0, slots := 0, locals := 0 }
set_option maxHeartbeats 4000000 in
set_option maxRecDepth 100000 in
theorem m_setOpen (l : Launch) (D : va_G) (cA cB cS : ClassId) (mo : Nat) (cs : Nat) (rs : Nat) (mg : Nat) (mm : Nat) (mx : Nat) (my : Nat) (mf : Nat) (mt : Nat) (fB : Nat → Int) (fM : Nat → Int) (gX : Nat → Int) (gY : Nat → Int) (gF : Nat → Int) (gT : Nat → Int) (mv : Nat) (mp : Nat) (me : Nat) (pp : Nat) (jj : Nat) (ob : Int) (h1 : pp < 65536) (h2 : jj < 14) (hm : ∀ p, p < 65536 → 0 ≤ fM p ∧ fM p < 16384) (h3 : ob = 0 ∨ ob = 1) (sz : Nat) : Met l yM_setOpen wM_setOpen rm_m_setOpen (pW [.ref mo, .int (iI (pp : Int)), .int (iI (jj : Int)), .int (iI ob)] D vwCl (vwTy cA cB cS) vwNw [(mo, .inr (4, [.int (iI (cs : Int)), .int (iI (rs : Int)), .ref mg, .ref mm, .int (iI (mv : Int)), .ref mx, .ref my, .ref mf, .int (iI (mp : Int)), .ref mt, .int (iI (me : Int))])), (mg, .inl (cB, 65536, .inl (iA fB))), (mm, .inl (cS, 65536, .inl (iA fM))), (mx, .inl (cA, 4096, .inl (iA gX))), (my, .inl (cA, 4096, .inl (iA gY))), (mf, .inl (cA, 4096, .inl (iA gF))), (mt, .inl (cA, 4096, .inl (iA gT)))] sz) (qV (S := (Nat → Int)) (fun fM1 : (Nat → Int) => (∀ p, ¬ p = pp → fM1 p = fM p) ∧ (0 ≤ fM1 pp ∧ fM1 pp < 16384) ∧ ∀ i, (fM1 pp).toNat.testBit i = if i = jj then decide (ob = 1) else (fM pp).toNat.testBit i) D vwCl [(mo, .inr (4, [.int (iI (cs : Int)), .int (iI (rs : Int)), .ref mg, .ref mm, .int (iI (mv : Int)), .ref mx, .ref my, .ref mf, .int (iI (mp : Int)), .ref mt, .int (iI (me : Int))])), (mg, .inl (cB, 65536, .inl (iA fB))), (mm, .inl (cS, 65536, .inl (iA fM))), (mx, .inl (cA, 4096, .inl (iA gX))), (my, .inl (cA, 4096, .inl (iA gY))), (mf, .inl (cA, 4096, .inl (iA gF))), (mt, .inl (cA, 4096, .inl (iA gT)))] sz (fun fM1 : (Nat → Int) => [(mo, .inr (4, [.int (iI (cs : Int)), .int (iI (rs : Int)), .ref mg, .ref mm, .int (iI (mv : Int)), .ref mx, .ref my, .ref mf, .int (iI (mp : Int)), .ref mt, .int (iI (me : Int))])), (mg, .inl (cB, 65536, .inl (iA fB))), (mm, .inl (cS, 65536, .inl (iA fM1))), (mx, .inl (cA, 4096, .inl (iA gX))), (my, .inl (cA, 4096, .inl (iA gY))), (mf, .inl (cA, 4096, .inl (iA gF))), (mt, .inl (cA, 4096, .inl (iA gT)))])) 0 0 (va_A [(mo, .inr (4, [.int (iI (cs : Int)), .int (iI (rs : Int)), .ref mg, .ref mm, .int (iI (mv : Int)), .ref mx, .ref my, .ref mf, .int (iI (mp : Int)), .ref mt, .int (iI (me : Int))])), (mg, .inl (cB, 65536, .inl (iA fB))), (mm, .inl (cS, 65536, .inl (iA fM))), (mx, .inl (cA, 4096, .inl (iA gX))), (my, .inl (cA, 4096, .inl (iA gY))), (mf, .inl (cA, 4096, .inl (iA gF))), (mt, .inl (cA, 4096, .inl (iA gT)))] sz) := by
  refine Met.ofW (cc := bM_setOpen) (maxL := 5) (ret := none) (by decide +kernel) rfl ?_
  intro p e s m args below meth c s₁ B hml hv
  obtain ⟨rfl, hsz, hP, hKW, hD0⟩ := hv
  have hK := hKW.1
  have hN := hKW.2.2
  have hx := B.exec
  have hb := B.bytes
  have hr := B.returns
  have hts := atoms_spec (ws := wM_setOpen) B.pre
  have hown : s.vm.findClass "WindingRasterModel" = some m.cls := findClass_of_methodNamed B.named
  have hlocks := B.notSynchronized
  subst hsz
  have hD := hD0.self (sz := s.heap.size)
  obtain ⟨A, hAe⟩ : ∃ A, va_A [(mo, .inr (4, [.int (iI (cs : Int)), .int (iI (rs : Int)), .ref mg, .ref mm, .int (iI (mv : Int)), .ref mx, .ref my, .ref mf, .int (iI (mp : Int)), .ref mt, .int (iI (me : Int))])), (mg, .inl (cB, 65536, .inl (iA fB))), (mm, .inl (cS, 65536, .inl (iA fM))), (mx, .inl (cA, 4096, .inl (iA gX))), (my, .inl (cA, 4096, .inl (iA gY))), (mf, .inl (cA, 4096, .inl (iA gF))), (mt, .inl (cA, 4096, .inl (iA gT)))] s.heap.size = A := ⟨_, rfl⟩
  rw [hAe] at hD
  have hA : ∀ q : Nat, s.heap.size ≤ q → A q := fun q h => by rw [← hAe]; exact Or.inr h
  have hS : va_S A s.heap s.heap [] := va_S.rf
  have hP : va_P D vwCl [(mo, .inr (4, [.int (iI (cs : Int)), .int (iI (rs : Int)), .ref mg, .ref mm, .int (iI (mv : Int)), .ref mx, .ref my, .ref mf, .int (iI (mp : Int)), .ref mt, .int (iI (me : Int))])), (mg, .inl (cB, 65536, .inl (iA fB))), (mm, .inl (cS, 65536, .inl (iA fM))), (mx, .inl (cA, 4096, .inl (iA gX))), (my, .inl (cA, 4096, .inl (iA gY))), (mf, .inl (cA, 4096, .inl (iA gF))), (mt, .inl (cA, 4096, .inl (iA gT)))] s.heap := hP
  have in_4 : ∀ w ∈ wsM, w ∈ wM_setOpen := fun w h => List.mem_cons_of_mem _ (in0_M w h)
  have fl_14 := (hts _ (List.mem_cons_of_mem _ vm_264))
  have hl := lv_entry ([.ref mo, .int (iI (pp : Int)), .int (iI (jj : Int)), .int (iI ob)]) (n := 5) (Nat.le_of_ble_eq_true rfl)
  rw [lg_entry_eq]
  generalize (lg_sl ([.ref mo, .int (iI (pp : Int)), .int (iI (jj : Int)), .int (iI ob)]) ++ List.replicate (5 - (lg_sl ([.ref mo, .int (iI (pp : Int)), .int (iI (jj : Int)), .int (iI ob)])).length) Slot.unset).toArray = ls at hl ⊢
  have hl : lv_has ls 5 [(0, .ref mo), (1, .int (iI (pp : Int))), (2, .int (iI (jj : Int))), (3, .int (iI ob))] := hl
  generalize hQ : MQ below (qV (S := (Nat → Int)) (fun fM1 : (Nat → Int) => (∀ p, ¬ p = pp → fM1 p = fM p) ∧ (0 ≤ fM1 pp ∧ fM1 pp < 16384) ∧ ∀ i, (fM1 pp).toNat.testBit i = if i = jj then decide (ob = 1) else (fM pp).toNat.testBit i) D vwCl [(mo, .inr (4, [.int (iI (cs : Int)), .int (iI (rs : Int)), .ref mg, .ref mm, .int (iI (mv : Int)), .ref mx, .ref my, .ref mf, .int (iI (mp : Int)), .ref mt, .int (iI (me : Int))])), (mg, .inl (cB, 65536, .inl (iA fB))), (mm, .inl (cS, 65536, .inl (iA fM))), (mx, .inl (cA, 4096, .inl (iA gX))), (my, .inl (cA, 4096, .inl (iA gY))), (mf, .inl (cA, 4096, .inl (iA gF))), (mt, .inl (cA, 4096, .inl (iA gT)))] s.heap.size (fun fM1 : (Nat → Int) => [(mo, .inr (4, [.int (iI (cs : Int)), .int (iI (rs : Int)), .ref mg, .ref mm, .int (iI (mv : Int)), .ref mx, .ref my, .ref mf, .int (iI (mp : Int)), .ref mt, .int (iI (me : Int))])), (mg, .inl (cB, 65536, .inl (iA fB))), (mm, .inl (cS, 65536, .inl (iA fM1))), (mx, .inl (cA, 4096, .inl (iA gX))), (my, .inl (cA, 4096, .inl (iA gY))), (mf, .inl (cA, 4096, .inl (iA gF))), (mt, .inl (cA, 4096, .inl (iA gT)))])) [.ref mo, .int (iI (pp : Int)), .int (iI (jj : Int)), .int (iI ob)].toArray s 0 0 (va_A [(mo, .inr (4, [.int (iI (cs : Int)), .int (iI (rs : Int)), .ref mg, .ref mm, .int (iI (mv : Int)), .ref mx, .ref my, .ref mf, .int (iI (mp : Int)), .ref mt, .int (iI (me : Int))])), (mg, .inl (cB, 65536, .inl (iA fB))), (mm, .inl (cS, 65536, .inl (iA fM))), (mx, .inl (cA, 4096, .inl (iA gX))), (my, .inl (cA, 4096, .inl (iA gY))), (mf, .inl (cA, 4096, .inl (iA gF))), (mt, .inl (cA, 4096, .inl (iA gT)))] s.heap.size) = QQ
  have hm0 := hm pp h1
  obtain ⟨mN, hmN⟩ : ∃ mN : Nat, fM pp = (mN : Int) := ⟨(fM pp).toNat, by omega⟩
  have emN : (fM pp).toNat = mN := by omega
  obtain ⟨qc, hqc, hqc2, hqc3⟩ := iI_clr (m := mN) (j := jj) (by omega) h2
  obtain ⟨qs, hqs, hqs2, hqs3⟩ := iI_set (m := qc) (j := jj) hqc2 h2
  refine lv_aload_n hx hb dM_setOpen_0 rfl (lv_at hl 0 rfl) ?_
  refine va_get (ci := 4) (v := .ref mm) (C := "WindingRasterModel") (T := TM) (N := 11) hx hb hts in_4 hown hK hP 0 rfl rfl 3 (by decide) fl_14 (fun _ h9 => h9) rfl dM_setOpen_1 ?_
  refine lv_iload_n hx hb dM_setOpen_4 rfl (lv_at hl 1 rfl) ?_
  refine ii_sald hx hb hK hP 2 2 rfl rfl pp rfl (by omega) (by omega) dM_setOpen_5 ?_
  refine ii_top (y := (mN : Int)) hmN ?_
  refine ii_iconst (n := 1) hx hb dM_setOpen_6 ?_
  refine lv_iload_n hx hb dM_setOpen_7 rfl (lv_at hl 2 rfl) ?_
  refine ii_ishl (z := ((2 ^ jj : Nat) : Int)) hx hb dM_setOpen_8 (iI_shl1 h2) ?_
  refine ii_iconst (n := (-1)) hx hb dM_setOpen_9 ?_
  refine ii_ixor (z := iI ((2 ^ jj : Nat) : Int) ^^^ iI (-1)) hx hb dM_setOpen_10 rfl ?_
  refine ii_iandX (z := (qc : Int)) hx hb dM_setOpen_11 hqc ?_
  refine lv_istore (lv' := [(4, .int (iI (qc : Int))), (0, .ref mo), (1, .int (iI (pp : Int))), (2, .int (iI (jj : Int))), (3, .int (iI ob))]) hx hb dM_setOpen_12 hl (by decide) rfl (fun ls hl => ?_)
  refine lv_aload_n hx hb dM_setOpen_14 rfl (lv_at hl 1 rfl) ?_
  refine va_get (ci := 4) (v := .ref mm) (C := "WindingRasterModel") (T := TM) (N := 11) hx hb hts in_4 hown hK hP 0 rfl rfl 3 (by decide) fl_14 (fun _ h9 => h9) rfl dM_setOpen_15 ?_
  refine lv_iload_n hx hb dM_setOpen_18 rfl (lv_at hl 2 rfl) ?_
  refine lv_iload_n hx hb dM_setOpen_19 rfl (lv_at hl 4 rfl) ?_
  refine ii_if_eq (tgt := 32) hx hb dM_setOpen_20 (by decide) (by omega) (fun c20 => ?_) (fun c20 => ?_)
  · refine lv_iload hx hb dM_setOpen_32 (lv_at hl 0 rfl) ?_
    refine ii_i2s (z := (qc : Int)) hx hb dM_setOpen_34 (iI_16 (by omega)) ?_
    refine ii_sast hx hb hK hP hD hS 2 2 rfl rfl pp rfl (by omega) (by omega) (by omega) dM_setOpen_35 (fun H locs hP hD hS => ?_)
    have hP : va_P D vwCl [(mo, .inr (4, [.int (iI (cs : Int)), .int (iI (rs : Int)), .ref mg, .ref mm, .int (iI (mv : Int)), .ref mx, .ref my, .ref mf, .int (iI (mp : Int)), .ref mt, .int (iI (me : Int))])), (mg, .inl (cB, 65536, .inl (iA fB))), (mm, .inl (cS, 65536, .inl (iA (uZ fM pp (qc : Int))))), (mx, .inl (cA, 4096, .inl (iA gX))), (my, .inl (cA, 4096, .inl (iA gY))), (mf, .inl (cA, 4096, .inl (iA gF))), (mt, .inl (cA, 4096, .inl (iA gT)))] H := hP
    have hD : va_D A [(mo, .inr (4, [.int (iI (cs : Int)), .int (iI (rs : Int)), .ref mg, .ref mm, .int (iI (mv : Int)), .ref mx, .ref my, .ref mf, .int (iI (mp : Int)), .ref mt, .int (iI (me : Int))])), (mg, .inl (cB, 65536, .inl (iA fB))), (mm, .inl (cS, 65536, .inl (iA (uZ fM pp (qc : Int))))), (mx, .inl (cA, 4096, .inl (iA gX))), (my, .inl (cA, 4096, .inl (iA gY))), (mf, .inl (cA, 4096, .inl (iA gF))), (mt, .inl (cA, 4096, .inl (iA gT)))] := hD
    rw [← hQ]
    exact wr_vret (uZ fM pp (qc : Int)) hx hb hr hlocks hAe (hP.sub [0, 1, 2, 3, 4, 5, 6] rfl) (hD.sub [0, 1, 2, 3, 4, 5, 6] (by decide) rfl) hS ⟨fun p hp0 => by show uZ fM pp (qc : Int) p = fM p; unfold uZ; rw [if_neg hp0], by show 0 ≤ uZ fM pp (qc : Int) pp ∧ uZ fM pp (qc : Int) pp < 16384; unfold uZ; rw [if_pos rfl]; omega, fun i => by show (uZ fM pp (qc : Int) pp).toNat.testBit i = _; rw [show uZ fM pp (qc : Int) pp = (qc : Int) from if_pos rfl, Int.toNat_natCast, emN]; rw [hqc3 i]; by_cases w : i = jj; (rw [if_pos w, decide_eq_true w, decide_eq_false (show ¬ ob = 1 by omega)]; simp); (rw [if_neg w, decide_eq_false w]; simp)⟩ dM_setOpen_36
  · refine lv_iload hx hb dM_setOpen_23 (lv_at hl 0 rfl) ?_
    refine ii_iconst (n := 1) hx hb dM_setOpen_25 ?_
    refine lv_iload_n hx hb dM_setOpen_26 rfl (lv_at hl 3 rfl) ?_
    refine ii_ishl (z := ((2 ^ jj : Nat) : Int)) hx hb dM_setOpen_27 (iI_shl1 h2) ?_
    refine ii_ior (z := (qs : Int)) hx hb dM_setOpen_28 hqs ?_
    refine lv_goto (tgt := 34) hx hb dM_setOpen_29 (by decide) ?_
    refine ii_i2s (z := (qs : Int)) hx hb dM_setOpen_34 (iI_16 (by omega)) ?_
    refine ii_sast hx hb hK hP hD hS 2 2 rfl rfl pp rfl (by omega) (by omega) (by omega) dM_setOpen_35 (fun H locs hP hD hS => ?_)
    have hP : va_P D vwCl [(mo, .inr (4, [.int (iI (cs : Int)), .int (iI (rs : Int)), .ref mg, .ref mm, .int (iI (mv : Int)), .ref mx, .ref my, .ref mf, .int (iI (mp : Int)), .ref mt, .int (iI (me : Int))])), (mg, .inl (cB, 65536, .inl (iA fB))), (mm, .inl (cS, 65536, .inl (iA (uZ fM pp (qs : Int))))), (mx, .inl (cA, 4096, .inl (iA gX))), (my, .inl (cA, 4096, .inl (iA gY))), (mf, .inl (cA, 4096, .inl (iA gF))), (mt, .inl (cA, 4096, .inl (iA gT)))] H := hP
    have hD : va_D A [(mo, .inr (4, [.int (iI (cs : Int)), .int (iI (rs : Int)), .ref mg, .ref mm, .int (iI (mv : Int)), .ref mx, .ref my, .ref mf, .int (iI (mp : Int)), .ref mt, .int (iI (me : Int))])), (mg, .inl (cB, 65536, .inl (iA fB))), (mm, .inl (cS, 65536, .inl (iA (uZ fM pp (qs : Int))))), (mx, .inl (cA, 4096, .inl (iA gX))), (my, .inl (cA, 4096, .inl (iA gY))), (mf, .inl (cA, 4096, .inl (iA gF))), (mt, .inl (cA, 4096, .inl (iA gT)))] := hD
    rw [← hQ]
    exact wr_vret (uZ fM pp (qs : Int)) hx hb hr hlocks hAe (hP.sub [0, 1, 2, 3, 4, 5, 6] rfl) (hD.sub [0, 1, 2, 3, 4, 5, 6] (by decide) rfl) hS ⟨fun p hp0 => by show uZ fM pp (qs : Int) p = fM p; unfold uZ; rw [if_neg hp0], by show 0 ≤ uZ fM pp (qs : Int) pp ∧ uZ fM pp (qs : Int) pp < 16384; unfold uZ; rw [if_pos rfl]; omega, fun i => by show (uZ fM pp (qs : Int) pp).toNat.testBit i = _; rw [show uZ fM pp (qs : Int) pp = (qs : Int) from if_pos rfl, Int.toNat_natCast, emN]; rw [hqs3 i, hqc3 i]; by_cases w : i = jj; (rw [if_pos w, decide_eq_true w, decide_eq_true (show ob = 1 by omega)]; simp); (rw [if_neg w, decide_eq_false w]; simp)⟩ dM_setOpen_36
