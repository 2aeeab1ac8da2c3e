def rm_m_side : Room := { frames := 0, cells := 0, slots := 0, locals := 0 }
set_option maxHeartbeats 4000000 in
set_option maxRecDepth 100000 in
theorem m_side (l : Launch) (D : va_G) (cA cB cS : ClassId) (a1 : Int) (h1 : i32 a1) : Met l yM_side wM_side rm_m_side (pR [.int (iI a1)] D vwCl (vwTy cA cB cS) vwNw []) (qI (fun z => z = max 1 (min 256 a1))) 0 0 (fun _ => False) := by
  refine Met.ofW (cc := bM_side) (maxL := 1) (ret := (some .int)) (by decide +kernel) rfl ?_
  intro p e s m args below meth c s₁ B hml hv
  obtain ⟨rfl, hP, hKW⟩ := hv
  have hK := hKW.1
  have hN := hKW.2.2
  have hx := B.exec
  have hb := B.bytes
  have hr := B.returns
  have hts := atoms_spec (ws := wM_side) B.pre
  have hown : s.vm.findClass "WindingRasterModel" = some m.cls := findClass_of_methodNamed B.named
  have hlocks := B.notSynchronized
  have hP : va_P D vwCl [] s.heap := hP
  have hl := lv_entry ([.int (iI a1)]) (n := 1) (Nat.le_of_ble_eq_true rfl)
  rw [lg_entry_eq]
  generalize (lg_sl ([.int (iI a1)]) ++ List.replicate (1 - (lg_sl ([.int (iI a1)])).length) Slot.unset).toArray = ls at hl ⊢
  have hl : lv_has ls 1 [(0, .int (iI a1))] := hl
  generalize hQ : MQ below (qI (fun z => z = max 1 (min 256 a1))) [.int (iI a1)].toArray s 0 0 (fun _ => False) = QQ
  refine lv_iload_n hx hb dM_side_0 rfl (lv_at hl 0 rfl) ?_
  refine ii_iconst (n := 1) hx hb dM_side_1 ?_
  refine ii_icmp_ge (tgt := 9) hx hb dM_side_2 (by decide) (by omega) (by omega) (fun c2 => ?_) (fun c2 => ?_)
  · refine lv_iload_n hx hb dM_side_9 rfl (lv_at hl 0 rfl) ?_
    refine ii_sipush (n := 256) hx hb dM_side_10 (by decide +kernel) ?_
    refine ii_icmp_le (tgt := 22) hx hb dM_side_13 (by decide) (by omega) (by omega) (fun c13 => ?_) (fun c13 => ?_)
    · refine lv_iload_n hx hb dM_side_22 rfl (lv_at hl 0 rfl) ?_
      rw [← hQ]
      exact rd_iret hx hb hr hlocks (by omega) dM_side_23
    · refine ii_sipush (n := 256) hx hb dM_side_16 (by decide +kernel) ?_
      refine lv_goto (tgt := 23) hx hb dM_side_19 (by decide) ?_
      rw [← hQ]
      exact rd_iret hx hb hr hlocks (by omega) dM_side_23
  · refine ii_iconst (n := 1) hx hb dM_side_5 ?_
    refine lv_goto (tgt := 23) hx hb dM_side_6 (by decide) ?_
    rw [← hQ]
    exact rd_iret hx hb hr hlocks (by omega) dM_side_23

def rm_m_columns : Room := { frames := 0, cells := 0, slots := 0, locals := 0 }
set_option maxHeartbeats 4000000 in
set_option maxRecDepth 100000 in
theorem m_columns (l : Launch) (D : va_G) (cA cB cS : ClassId) (mo : Nat) (cs : Nat) (rs : Nat) (mg : Nat) (mm : Nat) (mx : Nat) (my : Nat) (mf : Nat) (mt : Nat) (fB : Nat → Int) (fM : Nat → Int) (gX : Nat → Int) (gY : Nat → Int) (gF : Nat → Int) (gT : Nat → Int) (mv : Nat) (mp : Nat) (me : Nat) : Met l yM_columns wM_columns rm_m_columns (pR [.ref mo] D vwCl (vwTy cA cB cS) vwNw [(mo, .inr (4, [.int (iI (cs : Int)), .int (iI (rs : Int)), .ref mg, .ref mm, .int (iI (mv : Int)), .ref mx, .ref my, .ref mf, .int (iI (mp : Int)), .ref mt, .int (iI (me : Int))])), (mg, .inl (cB, 65536, .inl (iA fB))), (mm, .inl (cS, 65536, .inl (iA fM))), (mx, .inl (cA, 4096, .inl (iA gX))), (my, .inl (cA, 4096, .inl (iA gY))), (mf, .inl (cA, 4096, .inl (iA gF))), (mt, .inl (cA, 4096, .inl (iA gT)))]) (qI (fun z => z = (cs : Int))) 0 0 (fun _ => False) := by
  refine Met.ofW (cc := bM_columns) (maxL := 1) (ret := (some .int)) (by decide +kernel) rfl ?_
  intro p e s m args below meth c s₁ B hml hv
  obtain ⟨rfl, hP, hKW⟩ := hv
  have hK := hKW.1
  have hN := hKW.2.2
  have hx := B.exec
  have hb := B.bytes
  have hr := B.returns
  have hts := atoms_spec (ws := wM_columns) B.pre
  have hown : s.vm.findClass "WindingRasterModel" = some m.cls := findClass_of_methodNamed B.named
  have hlocks := B.notSynchronized
  have hP : va_P D vwCl [(mo, .inr (4, [.int (iI (cs : Int)), .int (iI (rs : Int)), .ref mg, .ref mm, .int (iI (mv : Int)), .ref mx, .ref my, .ref mf, .int (iI (mp : Int)), .ref mt, .int (iI (me : Int))])), (mg, .inl (cB, 65536, .inl (iA fB))), (mm, .inl (cS, 65536, .inl (iA fM))), (mx, .inl (cA, 4096, .inl (iA gX))), (my, .inl (cA, 4096, .inl (iA gY))), (mf, .inl (cA, 4096, .inl (iA gF))), (mt, .inl (cA, 4096, .inl (iA gT)))] s.heap := hP
  have in_4 : ∀ w ∈ wsM, w ∈ wM_columns := fun w h => List.mem_cons_of_mem _ (in0_M w h)
  have fl_35 := (hts _ (List.mem_cons_of_mem _ vm_261))
  have hl := lv_entry ([.ref mo]) (n := 1) (Nat.le_of_ble_eq_true rfl)
  rw [lg_entry_eq]
  generalize (lg_sl ([.ref mo]) ++ List.replicate (1 - (lg_sl ([.ref mo])).length) Slot.unset).toArray = ls at hl ⊢
  have hl : lv_has ls 1 [(0, .ref mo)] := hl
  generalize hQ : MQ below (qI (fun z => z = (cs : Int))) [.ref mo].toArray s 0 0 (fun _ => False) = QQ
  refine lv_aload_n hx hb dM_columns_0 rfl (lv_at hl 0 rfl) ?_
  refine va_get (ci := 4) (v := .int (iI (cs : Int))) (C := "WindingRasterModel") (T := TM) (N := 11) hx hb hts in_4 hown hK hP 0 rfl rfl 0 (by decide) fl_35 (fun _ h9 => h9) rfl dM_columns_1 ?_
  rw [← hQ]
  exact rd_iret hx hb hr hlocks rfl dM_columns_4

def rm_m_rows : Room := { frames := 0, cells := 0, slots := 0, locals := 0 }
set_option maxHeartbeats 4000000 in
set_option maxRecDepth 100000 in
theorem m_rows (l : Launch) (D : va_G) (cA cB cS : ClassId) (mo : Nat) (cs : Nat) (rs : Nat) (mg : Nat) (mm : Nat) (mx : Nat) (my : Nat) (mf : Nat) (mt : Nat) (fB : Nat → Int) (fM : Nat → Int) (gX : Nat → Int) (gY : Nat → Int) (gF : Nat → Int) (gT : Nat → Int) (mv : Nat) (mp : Nat) (me : Nat) : Met l yM_rows wM_rows rm_m_rows (pR [.ref mo] D vwCl (vwTy cA cB cS) vwNw [(mo, .inr (4, [.int (iI (cs : Int)), .int (iI (rs : Int)), .ref mg, .ref mm, .int (iI (mv : Int)), .ref mx, .ref my, .ref mf, .int (iI (mp : Int)), .ref mt, .int (iI (me : Int))])), (mg, .inl (cB, 65536, .inl (iA fB))), (mm, .inl (cS, 65536, .inl (iA fM))), (mx, .inl (cA, 4096, .inl (iA gX))), (my, .inl (cA, 4096, .inl (iA gY))), (mf, .inl (cA, 4096, .inl (iA gF))), (mt, .inl (cA, 4096, .inl (iA gT)))]) (qI (fun z => z = (rs : Int))) 0 0 (fun _ => False) := by
  refine Met.ofW (cc := bM_rows) (maxL := 1) (ret := (some .int)) (by decide +kernel) rfl ?_
  intro p e s m args below meth c s₁ B hml hv
  obtain ⟨rfl, hP, hKW⟩ := hv
  have hK := hKW.1
  have hN := hKW.2.2
  have hx := B.exec
  have hb := B.bytes
  have hr := B.returns
  have hts := atoms_spec (ws := wM_rows) B.pre
  have hown : s.vm.findClass "WindingRasterModel" = some m.cls := findClass_of_methodNamed B.named
  have hlocks := B.notSynchronized
  have hP : va_P D vwCl [(mo, .inr (4, [.int (iI (cs : Int)), .int (iI (rs : Int)), .ref mg, .ref mm, .int (iI (mv : Int)), .ref mx, .ref my, .ref mf, .int (iI (mp : Int)), .ref mt, .int (iI (me : Int))])), (mg, .inl (cB, 65536, .inl (iA fB))), (mm, .inl (cS, 65536, .inl (iA fM))), (mx, .inl (cA, 4096, .inl (iA gX))), (my, .inl (cA, 4096, .inl (iA gY))), (mf, .inl (cA, 4096, .inl (iA gF))), (mt, .inl (cA, 4096, .inl (iA gT)))] s.heap := hP
  have in_4 : ∀ w ∈ wsM, w ∈ wM_rows := fun w h => List.mem_cons_of_mem _ (in0_M w h)
  have fl_39 := (hts _ (List.mem_cons_of_mem _ vm_262))
  have hl := lv_entry ([.ref mo]) (n := 1) (Nat.le_of_ble_eq_true rfl)
  rw [lg_entry_eq]
  generalize (lg_sl ([.ref mo]) ++ List.replicate (1 - (lg_sl ([.ref mo])).length) Slot.unset).toArray = ls at hl ⊢
  have hl : lv_has ls 1 [(0, .ref mo)] := hl
  generalize hQ : MQ below (qI (fun z => z = (rs : Int))) [.ref mo].toArray s 0 0 (fun _ => False) = QQ
  refine lv_aload_n hx hb dM_rows_0 rfl (lv_at hl 0 rfl) ?_
  refine va_get (ci := 4) (v := .int (iI (rs : Int))) (C := "WindingRasterModel") (T := TM) (N := 11) hx hb hts in_4 hown hK hP 0 rfl rfl 1 (by decide) fl_39 (fun _ h9 => h9) rfl dM_rows_1 ?_
  rw [← hQ]
  exact rd_iret hx hb hr hlocks rfl dM_rows_4

def rm_m_isPlace : Room := { frames := 0, cells := 0, slots := 0, locals := 0 }
set_option maxHeartbeats 4000000 in
set_option maxRecDepth 100000 in
theorem m_isPlace (l : Launch) (D : va_G) (cA cB cS : ClassId) (a1 : Int) (h1 : i32 a1) : Met l yM_isPlace wM_isPlace rm_m_isPlace (pR [.int (iI a1)] D vwCl (vwTy cA cB cS) vwNw []) (qI (fun z => (z = 1 ∧ (-536870912 ≤ a1 ∧ a1 ≤ 536870912)) ∨ (z = 0 ∧ ¬ (-536870912 ≤ a1 ∧ a1 ≤ 536870912)))) 0 0 (fun _ => False) := by
  refine Met.ofW (cc := bM_isPlace) (maxL := 1) (ret := (some .boolean)) (by decide +kernel) rfl ?_
  intro p e s m args below meth c s₁ B hml hv
  obtain ⟨rfl, hP, hKW⟩ := hv
  have hK := hKW.1
  have hN := hKW.2.2
  have hx := B.exec
  have hb := B.bytes
  have hr := B.returns
  have hts := atoms_spec (ws := wM_isPlace) B.pre
  have hown : s.vm.findClass "WindingRasterModel" = some m.cls := findClass_of_methodNamed B.named
  have hlocks := B.notSynchronized
  have hP : va_P D vwCl [] s.heap := hP
  have kc_42 := (hts _ (List.mem_cons_of_mem _ vm_300))
  have kc_44 := (hts _ (List.mem_cons_of_mem _ vm_301))
  have hl := lv_entry ([.int (iI a1)]) (n := 1) (Nat.le_of_ble_eq_true rfl)
  rw [lg_entry_eq]
  generalize (lg_sl ([.int (iI a1)]) ++ List.replicate (1 - (lg_sl ([.int (iI a1)])).length) Slot.unset).toArray = ls at hl ⊢
  have hl : lv_has ls 1 [(0, .int (iI a1))] := hl
  generalize hQ : MQ below (qI (fun z => (z = 1 ∧ (-536870912 ≤ a1 ∧ a1 ≤ 536870912)) ∨ (z = 0 ∧ ¬ (-536870912 ≤ a1 ∧ a1 ≤ 536870912)))) [.int (iI a1)].toArray s 0 0 (fun _ => False) = QQ
  refine lv_iload_n hx hb dM_isPlace_0 rfl (lv_at hl 0 rfl) ?_
  refine ii_i2l hx hb dM_isPlace_1 (by omega) ?_
  refine ii_ldc2 (n := (-536870912)) hx hb hown kc_42 dM_isPlace_2 (by decide +kernel) ?_
  refine ii_lcmp hx hb dM_isPlace_5 (by omega) (by omega) (fun zc_1 hzc_1 => ?_)
  refine ii_if_lt (tgt := 22) hx hb dM_isPlace_6 (by decide) (by omega) (fun c6 => ?_) (fun c6 => ?_)
  · refine ii_iconst (n := 0) hx hb dM_isPlace_22 ?_
    rw [← hQ]
    exact rd_zret hx hb hr hlocks (nar_b (by omega)) (by omega) dM_isPlace_23
  · refine lv_iload_n hx hb dM_isPlace_9 rfl (lv_at hl 0 rfl) ?_
    refine ii_i2l hx hb dM_isPlace_10 (by omega) ?_
    refine ii_ldc2 (n := 536870912) hx hb hown kc_44 dM_isPlace_11 (by decide +kernel) ?_
    refine ii_lcmp hx hb dM_isPlace_14 (by omega) (by omega) (fun zc_2 hzc_2 => ?_)
    refine ii_if_gt (tgt := 22) hx hb dM_isPlace_15 (by decide) (by omega) (fun c15 => ?_) (fun c15 => ?_)
    · refine ii_iconst (n := 0) hx hb dM_isPlace_22 ?_
      rw [← hQ]
      exact rd_zret hx hb hr hlocks (nar_b (by omega)) (by omega) dM_isPlace_23
    · refine ii_iconst (n := 1) hx hb dM_isPlace_18 ?_
      refine lv_goto (tgt := 23) hx hb dM_isPlace_19 (by decide) ?_
      rw [← hQ]
      exact rd_zret hx hb hr hlocks (nar_b (by omega)) (by omega) dM_isPlace_23

def rm_m_put : Room := { frames := 0, cells := 0, slots := 0, locals := 0 }
set_option maxHeartbeats 4000000 in
set_option maxRecDepth 100000 in
theorem m_put (l : Launch) (D : va_G) (cA cB cS : ClassId) (mo : Nat) (cs : Nat) (rs : Nat) (mg : Nat) (mm : Nat) (mx : Nat) (my : Nat) (mf : Nat) (mt : Nat) (fB : Nat → Int) (fM : Nat → Int) (gX : Nat → Int) (gY : Nat → Int) (gF : Nat → Int) (gT : Nat → Int) (mv : Nat) (mp : Nat) (me : Nat) (a1 : Int) (a2 : Int) (a3 : Int) (h1 : mp ≤ 4096) (sz : Nat) : Met l yM_put wM_put rm_m_put (pW [.ref mo, .int (iI a1), .int (iI a2), .int (iI a3)] D vwCl (vwTy cA cB cS) vwNw [(mo, .inr (4, [.int (iI (cs : Int)), .int (iI (rs : Int)), .ref mg, .ref mm, .int (iI (mv : Int)), .ref mx, .ref my, .ref mf, .int (iI (mp : Int)), .ref mt, .int (iI (me : Int))])), (mg, .inl (cB, 65536, .inl (iA fB))), (mm, .inl (cS, 65536, .inl (iA fM))), (mx, .inl (cA, 4096, .inl (iA gX))), (my, .inl (cA, 4096, .inl (iA gY))), (mf, .inl (cA, 4096, .inl (iA gF))), (mt, .inl (cA, 4096, .inl (iA gT)))] sz) (qW (S := (Nat → Int) × (Nat → Int) × (Nat → Int) × Nat) (fun (z : Int) (u : (Nat → Int) × (Nat → Int) × (Nat → Int) × Nat) => (z = -3 ∧ 4096 ≤ mp ∧ u.1 = gX ∧ u.2.1 = gY ∧ u.2.2.1 = gF ∧ u.2.2.2 = mp) ∨ (z = ((mp + 1 : Nat) : Int) ∧ mp < 4096 ∧ u.1 = uZ gX mp a1 ∧ u.2.1 = uZ gY mp a2 ∧ u.2.2.1 = uZ gF mp a3 ∧ u.2.2.2 = mp + 1)) D vwCl [(mo, .inr (4, [.int (iI (cs : Int)), .int (iI (rs : Int)), .ref mg, .ref mm, .int (iI (mv : Int)), .ref mx, .ref my, .ref mf, .int (iI (mp : Int)), .ref mt, .int (iI (me : Int))])), (mg, .inl (cB, 65536, .inl (iA fB))), (mm, .inl (cS, 65536, .inl (iA fM))), (mx, .inl (cA, 4096, .inl (iA gX))), (my, .inl (cA, 4096, .inl (iA gY))), (mf, .inl (cA, 4096, .inl (iA gF))), (mt, .inl (cA, 4096, .inl (iA gT)))] sz (fun u : (Nat → Int) × (Nat → Int) × (Nat → Int) × Nat => [(mo, .inr (4, [.int (iI (cs : Int)), .int (iI (rs : Int)), .ref mg, .ref mm, .int (iI (mv : Int)), .ref mx, .ref my, .ref mf, .int (iI ((u.2.2.2 : Nat) : Int)), .ref mt, .int (iI (me : Int))])), (mg, .inl (cB, 65536, .inl (iA fB))), (mm, .inl (cS, 65536, .inl (iA fM))), (mx, .inl (cA, 4096, .inl (iA u.1))), (my, .inl (cA, 4096, .inl (iA u.2.1))), (mf, .inl (cA, 4096, .inl (iA u.2.2.1))), (mt, .inl (cA, 4096, .inl (iA gT)))])) 0 0 (va_A [(mo, .inr (4, [.int (iI (cs : Int)), .int (iI (rs : Int)), .ref mg, .ref mm, .int (iI (mv : Int)), .ref mx, .ref my, .ref mf, .int (iI (mp : Int)), .ref mt, .int (iI (me : Int))])), (mg, .inl (cB, 65536, .inl (iA fB))), (mm, .inl (cS, 65536, .inl (iA fM))), (mx, .inl (cA, 4096, .inl (iA gX))), (my, .inl (cA, 4096, .inl (iA gY))), (mf, .inl (cA, 4096, .inl (iA gF))), (mt, .inl (cA, 4096, .inl (iA gT)))] sz) := by
  refine Met.ofW (cc := bM_put) (maxL := 4) (ret := (some .int)) (by decide +kernel) rfl ?_
  intro p e s m args below meth c s₁ B hml hv
  obtain ⟨rfl, hsz, hP, hKW, hD0⟩ := hv
  have hK := hKW.1
  have hN := hKW.2.2
  have hx := B.exec
  have hb := B.bytes
  have hr := B.returns
  have hts := atoms_spec (ws := wM_put) B.pre
  have hown : s.vm.findClass "WindingRasterModel" = some m.cls := findClass_of_methodNamed B.named
  have hlocks := B.notSynchronized
  subst hsz
  have hD := hD0.self (sz := s.heap.size)
  obtain ⟨A, hAe⟩ : ∃ A, va_A [(mo, .inr (4, [.int (iI (cs : Int)), .int (iI (rs : Int)), .ref mg, .ref mm, .int (iI (mv : Int)), .ref mx, .ref my, .ref mf, .int (iI (mp : Int)), .ref mt, .int (iI (me : Int))])), (mg, .inl (cB, 65536, .inl (iA fB))), (mm, .inl (cS, 65536, .inl (iA fM))), (mx, .inl (cA, 4096, .inl (iA gX))), (my, .inl (cA, 4096, .inl (iA gY))), (mf, .inl (cA, 4096, .inl (iA gF))), (mt, .inl (cA, 4096, .inl (iA gT)))] s.heap.size = A := ⟨_, rfl⟩
  rw [hAe] at hD
  have hA : ∀ q : Nat, s.heap.size ≤ q → A q := fun q h => by rw [← hAe]; exact Or.inr h
  have hS : va_S A s.heap s.heap [] := va_S.rf
  have hP : va_P D vwCl [(mo, .inr (4, [.int (iI (cs : Int)), .int (iI (rs : Int)), .ref mg, .ref mm, .int (iI (mv : Int)), .ref mx, .ref my, .ref mf, .int (iI (mp : Int)), .ref mt, .int (iI (me : Int))])), (mg, .inl (cB, 65536, .inl (iA fB))), (mm, .inl (cS, 65536, .inl (iA fM))), (mx, .inl (cA, 4096, .inl (iA gX))), (my, .inl (cA, 4096, .inl (iA gY))), (mf, .inl (cA, 4096, .inl (iA gF))), (mt, .inl (cA, 4096, .inl (iA gT)))] s.heap := hP
  have in_4 : ∀ w ∈ wsM, w ∈ wM_put := fun w h => List.mem_cons_of_mem _ (in0_M w h)
  have fl_46 := (hts _ (List.mem_cons_of_mem _ vm_269))
  have fl_18 := (hts _ (List.mem_cons_of_mem _ vm_266))
  have fl_22 := (hts _ (List.mem_cons_of_mem _ vm_267))
  have fl_25 := (hts _ (List.mem_cons_of_mem _ vm_268))
  have hl := lv_entry ([.ref mo, .int (iI a1), .int (iI a2), .int (iI a3)]) (n := 4) (Nat.le_of_ble_eq_true rfl)
  rw [lg_entry_eq]
  generalize (lg_sl ([.ref mo, .int (iI a1), .int (iI a2), .int (iI a3)]) ++ List.replicate (4 - (lg_sl ([.ref mo, .int (iI a1), .int (iI a2), .int (iI a3)])).length) Slot.unset).toArray = ls at hl ⊢
  have hl : lv_has ls 4 [(0, .ref mo), (1, .int (iI a1)), (2, .int (iI a2)), (3, .int (iI a3))] := hl
  generalize hQ : MQ below (qW (S := (Nat → Int) × (Nat → Int) × (Nat → Int) × Nat) (fun (z : Int) (u : (Nat → Int) × (Nat → Int) × (Nat → Int) × Nat) => (z = -3 ∧ 4096 ≤ mp ∧ u.1 = gX ∧ u.2.1 = gY ∧ u.2.2.1 = gF ∧ u.2.2.2 = mp) ∨ (z = ((mp + 1 : Nat) : Int) ∧ mp < 4096 ∧ u.1 = uZ gX mp a1 ∧ u.2.1 = uZ gY mp a2 ∧ u.2.2.1 = uZ gF mp a3 ∧ u.2.2.2 = mp + 1)) D vwCl [(mo, .inr (4, [.int (iI (cs : Int)), .int (iI (rs : Int)), .ref mg, .ref mm, .int (iI (mv : Int)), .ref mx, .ref my, .ref mf, .int (iI (mp : Int)), .ref mt, .int (iI (me : Int))])), (mg, .inl (cB, 65536, .inl (iA fB))), (mm, .inl (cS, 65536, .inl (iA fM))), (mx, .inl (cA, 4096, .inl (iA gX))), (my, .inl (cA, 4096, .inl (iA gY))), (mf, .inl (cA, 4096, .inl (iA gF))), (mt, .inl (cA, 4096, .inl (iA gT)))] s.heap.size (fun u : (Nat → Int) × (Nat → Int) × (Nat → Int) × Nat => [(mo, .inr (4, [.int (iI (cs : Int)), .int (iI (rs : Int)), .ref mg, .ref mm, .int (iI (mv : Int)), .ref mx, .ref my, .ref mf, .int (iI ((u.2.2.2 : Nat) : Int)), .ref mt, .int (iI (me : Int))])), (mg, .inl (cB, 65536, .inl (iA fB))), (mm, .inl (cS, 65536, .inl (iA fM))), (mx, .inl (cA, 4096, .inl (iA u.1))), (my, .inl (cA, 4096, .inl (iA u.2.1))), (mf, .inl (cA, 4096, .inl (iA u.2.2.1))), (mt, .inl (cA, 4096, .inl (iA gT)))])) [.ref mo, .int (iI a1), .int (iI a2), .int (iI a3)].toArray s 0 0 (va_A [(mo, .inr (4, [.int (iI (cs : Int)), .int (iI (rs : Int)), .ref mg, .ref mm, .int (iI (mv : Int)), .ref mx, .ref my, .ref mf, .int (iI (mp : Int)), .ref mt, .int (iI (me : Int))])), (mg, .inl (cB, 65536, .inl (iA fB))), (mm, .inl (cS, 65536, .inl (iA fM))), (mx, .inl (cA, 4096, .inl (iA gX))), (my, .inl (cA, 4096, .inl (iA gY))), (mf, .inl (cA, 4096, .inl (iA gF))), (mt, .inl (cA, 4096, .inl (iA gT)))] s.heap.size) = QQ
  refine lv_aload_n hx hb dM_put_0 rfl (lv_at hl 0 rfl) ?_
  refine va_get (ci := 4) (v := .int (iI (mp : Int))) (C := "WindingRasterModel") (T := TM) (N := 11) hx hb hts in_4 hown hK hP 0 rfl rfl 8 (by decide) fl_46 (fun _ h9 => h9) rfl dM_put_1 ?_
  refine ii_sipush (n := 4096) hx hb dM_put_4 (by decide +kernel) ?_
  refine ii_icmp_ne (tgt := 13) hx hb dM_put_7 (by decide) (by omega) (by omega) (fun c7 => ?_) (fun c7 => ?_)
  · refine lv_aload_n hx hb dM_put_13 rfl (lv_at hl 0 rfl) ?_
    refine va_get (ci := 4) (v := .ref mx) (C := "WindingRasterModel") (T := TM) (N := 11) hx hb hts in_4 hown hK hP 0 rfl rfl 5 (by decide) fl_18 (fun _ h9 => h9) rfl dM_put_14 ?_
    refine lv_aload_n hx hb dM_put_17 rfl (lv_at hl 0 rfl) ?_
    refine va_get (ci := 4) (v := .int (iI (mp : Int))) (C := "WindingRasterModel") (T := TM) (N := 11) hx hb hts in_4 hown hK hP 0 rfl rfl 8 (by decide) fl_46 (fun _ h9 => h9) rfl dM_put_18 ?_
    refine lv_iload_n hx hb dM_put_21 rfl (lv_at hl 1 rfl) ?_
    refine ii_iast hx hb hK hP hD hS 3 0 rfl rfl mp rfl (by omega) (by omega) dM_put_22 (fun H locs hP hD hS => ?_)
    have hP : va_P D vwCl [(mo, .inr (4, [.int (iI (cs : Int)), .int (iI (rs : Int)), .ref mg, .ref mm, .int (iI (mv : Int)), .ref mx, .ref my, .ref mf, .int (iI (mp : Int)), .ref mt, .int (iI (me : Int))])), (mg, .inl (cB, 65536, .inl (iA fB))), (mm, .inl (cS, 65536, .inl (iA fM))), (mx, .inl (cA, 4096, .inl (iA (uZ gX mp a1)))), (my, .inl (cA, 4096, .inl (iA gY))), (mf, .inl (cA, 4096, .inl (iA gF))), (mt, .inl (cA, 4096, .inl (iA gT)))] H := hP
    have hD : va_D A [(mo, .inr (4, [.int (iI (cs : Int)), .int (iI (rs : Int)), .ref mg, .ref mm, .int (iI (mv : Int)), .ref mx, .ref my, .ref mf, .int (iI (mp : Int)), .ref mt, .int (iI (me : Int))])), (mg, .inl (cB, 65536, .inl (iA fB))), (mm, .inl (cS, 65536, .inl (iA fM))), (mx, .inl (cA, 4096, .inl (iA (uZ gX mp a1)))), (my, .inl (cA, 4096, .inl (iA gY))), (mf, .inl (cA, 4096, .inl (iA gF))), (mt, .inl (cA, 4096, .inl (iA gT)))] := hD
    refine lv_aload_n hx hb dM_put_23 rfl (lv_at hl 0 rfl) ?_
    refine va_get (ci := 4) (v := .ref my) (C := "WindingRasterModel") (T := TM) (N := 11) hx hb hts in_4 hown hK hP 0 rfl rfl 6 (by decide) fl_22 (fun _ h9 => h9) rfl dM_put_24 ?_
    refine lv_aload_n hx hb dM_put_27 rfl (lv_at hl 0 rfl) ?_
    refine va_get (ci := 4) (v := .int (iI (mp : Int))) (C := "WindingRasterModel") (T := TM) (N := 11) hx hb hts in_4 hown hK hP 0 rfl rfl 8 (by decide) fl_46 (fun _ h9 => h9) rfl dM_put_28 ?_
    refine lv_iload_n hx hb dM_put_31 rfl (lv_at hl 2 rfl) ?_
    refine ii_iast hx hb hK hP hD hS 4 0 rfl rfl mp rfl (by omega) (by omega) dM_put_32 (fun H locs hP hD hS => ?_)
    have hP : va_P D vwCl [(mo, .inr (4, [.int (iI (cs : Int)), .int (iI (rs : Int)), .ref mg, .ref mm, .int (iI (mv : Int)), .ref mx, .ref my, .ref mf, .int (iI (mp : Int)), .ref mt, .int (iI (me : Int))])), (mg, .inl (cB, 65536, .inl (iA fB))), (mm, .inl (cS, 65536, .inl (iA fM))), (mx, .inl (cA, 4096, .inl (iA (uZ gX mp a1)))), (my, .inl (cA, 4096, .inl (iA (uZ gY mp a2)))), (mf, .inl (cA, 4096, .inl (iA gF))), (mt, .inl (cA, 4096, .inl (iA gT)))] H := hP
    have hD : va_D A [(mo, .inr (4, [.int (iI (cs : Int)), .int (iI (rs : Int)), .ref mg, .ref mm, .int (iI (mv : Int)), .ref mx, .ref my, .ref mf, .int (iI (mp : Int)), .ref mt, .int (iI (me : Int))])), (mg, .inl (cB, 65536, .inl (iA fB))), (mm, .inl (cS, 65536, .inl (iA fM))), (mx, .inl (cA, 4096, .inl (iA (uZ gX mp a1)))), (my, .inl (cA, 4096, .inl (iA (uZ gY mp a2)))), (mf, .inl (cA, 4096, .inl (iA gF))), (mt, .inl (cA, 4096, .inl (iA gT)))] := hD
    refine lv_aload_n hx hb dM_put_33 rfl (lv_at hl 0 rfl) ?_
    refine va_get (ci := 4) (v := .ref mf) (C := "WindingRasterModel") (T := TM) (N := 11) hx hb hts in_4 hown hK hP 0 rfl rfl 7 (by decide) fl_25 (fun _ h9 => h9) rfl dM_put_34 ?_
    refine lv_aload_n hx hb dM_put_37 rfl (lv_at hl 0 rfl) ?_
    refine va_get (ci := 4) (v := .int (iI (mp : Int))) (C := "WindingRasterModel") (T := TM) (N := 11) hx hb hts in_4 hown hK hP 0 rfl rfl 8 (by decide) fl_46 (fun _ h9 => h9) rfl dM_put_38 ?_
    refine lv_iload_n hx hb dM_put_41 rfl (lv_at hl 3 rfl) ?_
    refine ii_iast hx hb hK hP hD hS 5 0 rfl rfl mp rfl (by omega) (by omega) dM_put_42 (fun H locs hP hD hS => ?_)
    have hP : va_P D vwCl [(mo, .inr (4, [.int (iI (cs : Int)), .int (iI (rs : Int)), .ref mg, .ref mm, .int (iI (mv : Int)), .ref mx, .ref my, .ref mf, .int (iI (mp : Int)), .ref mt, .int (iI (me : Int))])), (mg, .inl (cB, 65536, .inl (iA fB))), (mm, .inl (cS, 65536, .inl (iA fM))), (mx, .inl (cA, 4096, .inl (iA (uZ gX mp a1)))), (my, .inl (cA, 4096, .inl (iA (uZ gY mp a2)))), (mf, .inl (cA, 4096, .inl (iA (uZ gF mp a3)))), (mt, .inl (cA, 4096, .inl (iA gT)))] H := hP
    have hD : va_D A [(mo, .inr (4, [.int (iI (cs : Int)), .int (iI (rs : Int)), .ref mg, .ref mm, .int (iI (mv : Int)), .ref mx, .ref my, .ref mf, .int (iI (mp : Int)), .ref mt, .int (iI (me : Int))])), (mg, .inl (cB, 65536, .inl (iA fB))), (mm, .inl (cS, 65536, .inl (iA fM))), (mx, .inl (cA, 4096, .inl (iA (uZ gX mp a1)))), (my, .inl (cA, 4096, .inl (iA (uZ gY mp a2)))), (mf, .inl (cA, 4096, .inl (iA (uZ gF mp a3)))), (mt, .inl (cA, 4096, .inl (iA gT)))] := hD
    refine lv_aload_n hx hb dM_put_43 rfl (lv_at hl 0 rfl) ?_
    refine lv_dup hx hb dM_put_44 rfl ?_
    refine va_get (ci := 4) (v := .int (iI (mp : Int))) (C := "WindingRasterModel") (T := TM) (N := 11) hx hb hts in_4 hown hK hP 0 rfl rfl 8 (by decide) fl_46 (fun _ h9 => h9) rfl dM_put_45 ?_
    refine ii_iconst (n := 1) hx hb dM_put_48 ?_
    refine ii_iadd hx hb dM_put_49 ?_
    refine ii_top (y := ((mp + 1 : Nat) : Int)) (by push_cast; rfl) ?_
    refine va_put (ci := 4) (v := .int (iI ((mp + 1 : Nat) : Int))) (ty := .int) (C := "WindingRasterModel") (T := TM) (N := 11) hx hb hts in_4 tM tM_ok nM hown hK hP hD hS 0 rfl rfl 8 (by decide) fl_46 (fun _ h9 => h9) rfl (by decide +kernel) rfl rfl (Nat.le_of_ble_eq_true rfl) dM_put_50 (fun H locs hP hD hS => ?_)
    have hP : va_P D vwCl [(mo, .inr (4, [.int (iI (cs : Int)), .int (iI (rs : Int)), .ref mg, .ref mm, .int (iI (mv : Int)), .ref mx, .ref my, .ref mf, .int (iI ((mp + 1 : Nat) : Int)), .ref mt, .int (iI (me : Int))])), (mg, .inl (cB, 65536, .inl (iA fB))), (mm, .inl (cS, 65536, .inl (iA fM))), (mx, .inl (cA, 4096, .inl (iA (uZ gX mp a1)))), (my, .inl (cA, 4096, .inl (iA (uZ gY mp a2)))), (mf, .inl (cA, 4096, .inl (iA (uZ gF mp a3)))), (mt, .inl (cA, 4096, .inl (iA gT)))] H := hP
    have hD : va_D A [(mo, .inr (4, [.int (iI (cs : Int)), .int (iI (rs : Int)), .ref mg, .ref mm, .int (iI (mv : Int)), .ref mx, .ref my, .ref mf, .int (iI ((mp + 1 : Nat) : Int)), .ref mt, .int (iI (me : Int))])), (mg, .inl (cB, 65536, .inl (iA fB))), (mm, .inl (cS, 65536, .inl (iA fM))), (mx, .inl (cA, 4096, .inl (iA (uZ gX mp a1)))), (my, .inl (cA, 4096, .inl (iA (uZ gY mp a2)))), (mf, .inl (cA, 4096, .inl (iA (uZ gF mp a3)))), (mt, .inl (cA, 4096, .inl (iA gT)))] := hD
    refine lv_aload_n hx hb dM_put_53 rfl (lv_at hl 0 rfl) ?_
    refine va_get (ci := 4) (v := .int (iI ((mp + 1 : Nat) : Int))) (C := "WindingRasterModel") (T := TM) (N := 11) hx hb hts in_4 hown hK hP 0 rfl rfl 8 (by decide) fl_46 (fun _ h9 => h9) rfl dM_put_54 ?_
    rw [← hQ]
    exact wr_iret (uZ gX mp a1, uZ gY mp a2, uZ gF mp a3, mp + 1) hx hb hr hlocks hAe (hP.sub [0, 1, 2, 3, 4, 5, 6] rfl) (hD.sub [0, 1, 2, 3, 4, 5, 6] (by decide) rfl) hS (Or.inr ⟨rfl, by omega, rfl, rfl, rfl, rfl⟩) dM_put_57
  · refine ii_bipush (n := (-3)) hx hb dM_put_10 (by decide +kernel) ?_
    rw [← hQ]
    exact wr_iret (gX, gY, gF, mp) hx hb hr hlocks hAe (hP.sub [0, 1, 2, 3, 4, 5, 6] rfl) (hD.sub [0, 1, 2, 3, 4, 5, 6] (by decide) rfl) hS (Or.inl ⟨rfl, by omega, rfl, rfl, rfl, rfl⟩) dM_put_12

def rm_m_move : Room := { frames := 1, cells := 0, slots := 0, locals := 23 }
set_option maxHeartbeats 4000000 in
set_option maxRecDepth 100000 in
theorem m_move (l : Launch) (D : va_G) (cA cB cS : ClassId) (mo : Nat) (cs : Nat) (rs : Nat) (mg : Nat) (mm : Nat) (mx : Nat) (my : Nat) (mf : Nat) (mt : Nat) (fB : Nat → Int) (fM : Nat → Int) (gX : Nat → Int) (gY : Nat → Int) (gF : Nat → Int) (gT : Nat → Int) (mv : Nat) (mp : Nat) (me : Nat) (a1 : Int) (a2 : Int) (h1 : i32 a1) (h2 : i32 a2) (h3 : mp ≤ 4096) (sz : Nat) : Met l yM_move wM_move rm_m_move (pW [.ref mo, .int (iI a1), .int (iI a2)] D vwCl (vwTy cA cB cS) vwNw [(mo, .inr (4, [.int (iI (cs : Int)), .int (iI (rs : Int)), .ref mg, .ref mm, .int (iI (mv : Int)), .ref mx, .ref my, .ref mf, .int (iI (mp : Int)), .ref mt, .int (iI (me : Int))])), (mg, .inl (cB, 65536, .inl (iA fB))), (mm, .inl (cS, 65536, .inl (iA fM))), (mx, .inl (cA, 4096, .inl (iA gX))), (my, .inl (cA, 4096, .inl (iA gY))), (mf, .inl (cA, 4096, .inl (iA gF))), (mt, .inl (cA, 4096, .inl (iA gT)))] sz) (qW (S := (Nat → Int) × (Nat → Int) × (Nat → Int) × Nat) (fun (z : Int) (u : (Nat → Int) × (Nat → Int) × (Nat → Int) × Nat) => (z = -1 ∧ ¬ (-536870912 ≤ a1 ∧ a1 ≤ 536870912 ∧ -536870912 ≤ a2 ∧ a2 ≤ 536870912) ∧ u.1 = gX ∧ u.2.1 = gY ∧ u.2.2.1 = gF ∧ u.2.2.2 = mp) ∨ (z = -3 ∧ (-536870912 ≤ a1 ∧ a1 ≤ 536870912 ∧ -536870912 ≤ a2 ∧ a2 ≤ 536870912) ∧ 4096 ≤ mp ∧ u.1 = gX ∧ u.2.1 = gY ∧ u.2.2.1 = gF ∧ u.2.2.2 = mp) ∨ (z = ((mp + 1 : Nat) : Int) ∧ (-536870912 ≤ a1 ∧ a1 ≤ 536870912 ∧ -536870912 ≤ a2 ∧ a2 ≤ 536870912) ∧ mp < 4096 ∧ u.1 = uZ gX mp a1 ∧ u.2.1 = uZ gY mp a2 ∧ u.2.2.1 = uZ gF mp (mp : Int) ∧ u.2.2.2 = mp + 1)) D vwCl [(mo, .inr (4, [.int (iI (cs : Int)), .int (iI (rs : Int)), .ref mg, .ref mm, .int (iI (mv : Int)), .ref mx, .ref my, .ref mf, .int (iI (mp : Int)), .ref mt, .int (iI (me : Int))])), (mg, .inl (cB, 65536, .inl (iA fB))), (mm, .inl (cS, 65536, .inl (iA fM))), (mx, .inl (cA, 4096, .inl (iA gX))), (my, .inl (cA, 4096, .inl (iA gY))), (mf, .inl (cA, 4096, .inl (iA gF))), (mt, .inl (cA, 4096, .inl (iA gT)))] sz (fun u : (Nat → Int) × (Nat → Int) × (Nat → Int) × Nat => [(mo, .inr (4, [.int (iI (cs : Int)), .int (iI (rs : Int)), .ref mg, .ref mm, .int (iI (mv : Int)), .ref mx, .ref my, .ref mf, .int (iI ((u.2.2.2 : Nat) : Int)), .ref mt, .int (iI (me : Int))])), (mg, .inl (cB, 65536, .inl (iA fB))), (mm, .inl (cS, 65536, .inl (iA fM))), (mx, .inl (cA, 4096, .inl (iA u.1))), (my, .inl (cA, 4096, .inl (iA u.2.1))), (mf, .inl (cA, 4096, .inl (iA u.2.2.1))), (mt, .inl (cA, 4096, .inl (iA gT)))])) 0 0 (va_A [(mo, .inr (4, [.int (iI (cs : Int)), .int (iI (rs : Int)), .ref mg, .ref mm, .int (iI (mv : Int)), .ref mx, .ref my, .ref mf, .int (iI (mp : Int)), .ref mt, .int (iI (me : Int))])), (mg, .inl (cB, 65536, .inl (iA fB))), (mm, .inl (cS, 65536, .inl (iA fM))), (mx, .inl (cA, 4096, .inl (iA gX))), (my, .inl (cA, 4096, .inl (iA gY))), (mf, .inl (cA, 4096, .inl (iA gF))), (mt, .inl (cA, 4096, .inl (iA gT)))] sz) := by
  refine Met.ofW (cc := bM_move) (maxL := 3) (ret := (some .int)) (by decide +kernel) rfl ?_
  intro p e s m args below meth c s₁ B hml hv
  obtain ⟨rfl, hsz, hP, hKW, hD0⟩ := hv
  have hK := hKW.1
  have hN := hKW.2.2
  have hx := B.exec
  have hb := B.bytes
  have hr := B.returns
  have hts := atoms_spec (ws := wM_move) B.pre
  have hown : s.vm.findClass "WindingRasterModel" = some m.cls := findClass_of_methodNamed B.named
  have hlocks := B.notSynchronized
  subst hsz
  have hD := hD0.self (sz := s.heap.size)
  obtain ⟨A, hAe⟩ : ∃ A, va_A [(mo, .inr (4, [.int (iI (cs : Int)), .int (iI (rs : Int)), .ref mg, .ref mm, .int (iI (mv : Int)), .ref mx, .ref my, .ref mf, .int (iI (mp : Int)), .ref mt, .int (iI (me : Int))])), (mg, .inl (cB, 65536, .inl (iA fB))), (mm, .inl (cS, 65536, .inl (iA fM))), (mx, .inl (cA, 4096, .inl (iA gX))), (my, .inl (cA, 4096, .inl (iA gY))), (mf, .inl (cA, 4096, .inl (iA gF))), (mt, .inl (cA, 4096, .inl (iA gT)))] s.heap.size = A := ⟨_, rfl⟩
  rw [hAe] at hD
  have hA : ∀ q : Nat, s.heap.size ≤ q → A q := fun q h => by rw [← hAe]; exact Or.inr h
  have hS : va_S A s.heap s.heap [] := va_S.rf
  have hP : va_P D vwCl [(mo, .inr (4, [.int (iI (cs : Int)), .int (iI (rs : Int)), .ref mg, .ref mm, .int (iI (mv : Int)), .ref mx, .ref my, .ref mf, .int (iI (mp : Int)), .ref mt, .int (iI (me : Int))])), (mg, .inl (cB, 65536, .inl (iA fB))), (mm, .inl (cS, 65536, .inl (iA fM))), (mx, .inl (cA, 4096, .inl (iA gX))), (my, .inl (cA, 4096, .inl (iA gY))), (mf, .inl (cA, 4096, .inl (iA gF))), (mt, .inl (cA, 4096, .inl (iA gT)))] s.heap := hP
  have in_4 : ∀ w ∈ wsM, w ∈ wM_move := fun w h => List.mem_cons_of_mem _ (in0_M w h)
  have fl_46 := (hts _ (List.mem_cons_of_mem _ vm_269))
  have hl := lv_entry ([.ref mo, .int (iI a1), .int (iI a2)]) (n := 3) (Nat.le_of_ble_eq_true rfl)
  rw [lg_entry_eq]
  generalize (lg_sl ([.ref mo, .int (iI a1), .int (iI a2)]) ++ List.replicate (3 - (lg_sl ([.ref mo, .int (iI a1), .int (iI a2)])).length) Slot.unset).toArray = ls at hl ⊢
  have hl : lv_has ls 3 [(0, .ref mo), (1, .int (iI a1)), (2, .int (iI a2))] := hl
  generalize hQ : MQ below (qW (S := (Nat → Int) × (Nat → Int) × (Nat → Int) × Nat) (fun (z : Int) (u : (Nat → Int) × (Nat → Int) × (Nat → Int) × Nat) => (z = -1 ∧ ¬ (-536870912 ≤ a1 ∧ a1 ≤ 536870912 ∧ -536870912 ≤ a2 ∧ a2 ≤ 536870912) ∧ u.1 = gX ∧ u.2.1 = gY ∧ u.2.2.1 = gF ∧ u.2.2.2 = mp) ∨ (z = -3 ∧ (-536870912 ≤ a1 ∧ a1 ≤ 536870912 ∧ -536870912 ≤ a2 ∧ a2 ≤ 536870912) ∧ 4096 ≤ mp ∧ u.1 = gX ∧ u.2.1 = gY ∧ u.2.2.1 = gF ∧ u.2.2.2 = mp) ∨ (z = ((mp + 1 : Nat) : Int) ∧ (-536870912 ≤ a1 ∧ a1 ≤ 536870912 ∧ -536870912 ≤ a2 ∧ a2 ≤ 536870912) ∧ mp < 4096 ∧ u.1 = uZ gX mp a1 ∧ u.2.1 = uZ gY mp a2 ∧ u.2.2.1 = uZ gF mp (mp : Int) ∧ u.2.2.2 = mp + 1)) D vwCl [(mo, .inr (4, [.int (iI (cs : Int)), .int (iI (rs : Int)), .ref mg, .ref mm, .int (iI (mv : Int)), .ref mx, .ref my, .ref mf, .int (iI (mp : Int)), .ref mt, .int (iI (me : Int))])), (mg, .inl (cB, 65536, .inl (iA fB))), (mm, .inl (cS, 65536, .inl (iA fM))), (mx, .inl (cA, 4096, .inl (iA gX))), (my, .inl (cA, 4096, .inl (iA gY))), (mf, .inl (cA, 4096, .inl (iA gF))), (mt, .inl (cA, 4096, .inl (iA gT)))] s.heap.size (fun u : (Nat → Int) × (Nat → Int) × (Nat → Int) × Nat => [(mo, .inr (4, [.int (iI (cs : Int)), .int (iI (rs : Int)), .ref mg, .ref mm, .int (iI (mv : Int)), .ref mx, .ref my, .ref mf, .int (iI ((u.2.2.2 : Nat) : Int)), .ref mt, .int (iI (me : Int))])), (mg, .inl (cB, 65536, .inl (iA fB))), (mm, .inl (cS, 65536, .inl (iA fM))), (mx, .inl (cA, 4096, .inl (iA u.1))), (my, .inl (cA, 4096, .inl (iA u.2.1))), (mf, .inl (cA, 4096, .inl (iA u.2.2.1))), (mt, .inl (cA, 4096, .inl (iA gT)))])) [.ref mo, .int (iI a1), .int (iI a2)].toArray s 0 0 (va_A [(mo, .inr (4, [.int (iI (cs : Int)), .int (iI (rs : Int)), .ref mg, .ref mm, .int (iI (mv : Int)), .ref mx, .ref my, .ref mf, .int (iI (mp : Int)), .ref mt, .int (iI (me : Int))])), (mg, .inl (cB, 65536, .inl (iA fB))), (mm, .inl (cS, 65536, .inl (iA fM))), (mx, .inl (cA, 4096, .inl (iA gX))), (my, .inl (cA, 4096, .inl (iA gY))), (mf, .inl (cA, 4096, .inl (iA gF))), (mt, .inl (cA, 4096, .inl (iA gT)))] s.heap.size) = QQ
  refine lv_iload_n hx hb dM_move_0 rfl (lv_at hl 1 rfl) ?_
  refine cs_i (va_runS (As := [.int (iI a1)]) (rest := []) ⟨hx, hb, hml, hown, hts⟩ (m_isPlace l D cA cB cS a1 (by omega)) ⟨(callB_of 1 hts (gIn vm_299) rfl rfl rfl (hts _ (List.mem_cons_of_mem _ vm_8)) (hts _ (List.mem_cons_of_mem _ vm_297)) (by decide +kernel) ⟨Nat.le_of_ble_eq_true rfl, Nat.le_of_ble_eq_true rfl⟩), (hts _ (List.mem_cons_of_mem _ vm_298))⟩ (pR.pre (hP.sub [] rfl) hKW) rfl rfl hl.1 rfl (lv_room (Nat.le_of_ble_eq_true rfl)) dM_move_1 ⟨Nat.le_of_ble_eq_true rfl, Nat.le_of_ble_eq_true rfl⟩) (fun z_1 hz_1 => ?_)
  refine ii_if_eq (tgt := 27) hx hb dM_move_4 (by decide) (by omega) (fun c4 => ?_) (fun c4 => ?_)
  · refine ii_iconst (n := (-1)) hx hb dM_move_27 ?_
    rw [← hQ]
    exact wr_iret (gX, gY, gF, mp) hx hb hr hlocks hAe (hP.sub [0, 1, 2, 3, 4, 5, 6] rfl) (hD.sub [0, 1, 2, 3, 4, 5, 6] (by decide) rfl) hS (Or.inl ⟨rfl, by omega, rfl, rfl, rfl, rfl⟩) dM_move_28
  · refine lv_iload_n hx hb dM_move_7 rfl (lv_at hl 2 rfl) ?_
    refine cs_i (va_runS (As := [.int (iI a2)]) (rest := []) ⟨hx, hb, hml, hown, hts⟩ (m_isPlace l D cA cB cS a2 (by omega)) ⟨(callB_of 1 hts (gIn vm_299) rfl rfl rfl (hts _ (List.mem_cons_of_mem _ vm_8)) (hts _ (List.mem_cons_of_mem _ vm_297)) (by decide +kernel) ⟨Nat.le_of_ble_eq_true rfl, Nat.le_of_ble_eq_true rfl⟩), (hts _ (List.mem_cons_of_mem _ vm_298))⟩ (pR.pre (hP.sub [] rfl) hKW) rfl rfl hl.1 rfl (lv_room (Nat.le_of_ble_eq_true rfl)) dM_move_8 ⟨Nat.le_of_ble_eq_true rfl, Nat.le_of_ble_eq_true rfl⟩) (fun z_2 hz_2 => ?_)
    refine ii_if_eq (tgt := 27) hx hb dM_move_11 (by decide) (by omega) (fun c11 => ?_) (fun c11 => ?_)
    · refine ii_iconst (n := (-1)) hx hb dM_move_27 ?_
      rw [← hQ]
      exact wr_iret (gX, gY, gF, mp) hx hb hr hlocks hAe (hP.sub [0, 1, 2, 3, 4, 5, 6] rfl) (hD.sub [0, 1, 2, 3, 4, 5, 6] (by decide) rfl) hS (Or.inl ⟨rfl, by omega, rfl, rfl, rfl, rfl⟩) dM_move_28
    · refine lv_aload_n hx hb dM_move_14 rfl (lv_at hl 0 rfl) ?_
      refine lv_iload_n hx hb dM_move_15 rfl (lv_at hl 1 rfl) ?_
      refine lv_iload_n hx hb dM_move_16 rfl (lv_at hl 2 rfl) ?_
      refine lv_aload_n hx hb dM_move_17 rfl (lv_at hl 0 rfl) ?_
      refine va_get (ci := 4) (v := .int (iI (mp : Int))) (C := "WindingRasterModel") (T := TM) (N := 11) hx hb hts in_4 hown hK hP 0 rfl rfl 8 (by decide) fl_46 (fun _ h9 => h9) rfl dM_move_18 ?_
      refine cw_i (wc := [(mo, .inr (4, [.int (iI (cs : Int)), .int (iI (rs : Int)), .ref mg, .ref mm, .int (iI (mv : Int)), .ref mx, .ref my, .ref mf, .int (iI (mp : Int)), .ref mt, .int (iI (me : Int))])), (mg, .inl (cB, 65536, .inl (iA fB))), (mm, .inl (cS, 65536, .inl (iA fM))), (mx, .inl (cA, 4096, .inl (iA gX))), (my, .inl (cA, 4096, .inl (iA gY))), (mf, .inl (cA, 4096, .inl (iA gF))), (mt, .inl (cA, 4096, .inl (iA gT)))]) (wr := []) hP hD hS hA [0, 1, 2, 3, 4, 5, 6] [] rfl rfl (by decide) (by decide) (va_runV (As := [.int (iI a1), .int (iI a2), .int (iI (mp : Int))]) (rest := []) ⟨hx, hb, hml, hown, hts⟩ (m_put l D cA cB cS mo cs rs mg mm mx my mf mt fB fM gX gY gF gT mv mp me a1 a2 (mp : Int) (by omega) _) ⟨(callB_of 3 hts (gIn vm_304) rfl rfl rfl (hts _ (List.mem_cons_of_mem _ vm_8)) (hts _ (List.mem_cons_of_mem _ vm_302)) (by decide +kernel) ⟨Nat.le_of_ble_eq_true rfl, Nat.le_of_ble_eq_true rfl⟩), (hts _ (List.mem_cons_of_mem _ vm_303)), (hts _ (List.mem_cons_of_mem _ vm_421))⟩ (pW.preV (va_recv hK hP (ci := 4) (q0 := 0) rfl rfl) (hP.sub [0, 1, 2, 3, 4, 5, 6] rfl) (hD.sub [0, 1, 2, 3, 4, 5, 6] (by decide) rfl) hKW) rfl rfl hl.1 rfl (lv_room (Nat.le_of_ble_eq_true rfl)) dM_move_21 ⟨Nat.le_of_ble_eq_true rfl, Nat.le_of_ble_eq_true rfl⟩) (fun zp u_3 H locs hzp hP hD hS => ?_)
      obtain ⟨gX1, gY1, gF1, mp1⟩ := u_3
      try dsimp only at hzp
      have hP : va_P D vwCl [(mo, .inr (4, [.int (iI (cs : Int)), .int (iI (rs : Int)), .ref mg, .ref mm, .int (iI (mv : Int)), .ref mx, .ref my, .ref mf, .int (iI (mp1 : Int)), .ref mt, .int (iI (me : Int))])), (mg, .inl (cB, 65536, .inl (iA fB))), (mm, .inl (cS, 65536, .inl (iA fM))), (mx, .inl (cA, 4096, .inl (iA gX1))), (my, .inl (cA, 4096, .inl (iA gY1))), (mf, .inl (cA, 4096, .inl (iA gF1))), (mt, .inl (cA, 4096, .inl (iA gT)))] H := hP
      have hD : va_D A [(mo, .inr (4, [.int (iI (cs : Int)), .int (iI (rs : Int)), .ref mg, .ref mm, .int (iI (mv : Int)), .ref mx, .ref my, .ref mf, .int (iI (mp1 : Int)), .ref mt, .int (iI (me : Int))])), (mg, .inl (cB, 65536, .inl (iA fB))), (mm, .inl (cS, 65536, .inl (iA fM))), (mx, .inl (cA, 4096, .inl (iA gX1))), (my, .inl (cA, 4096, .inl (iA gY1))), (mf, .inl (cA, 4096, .inl (iA gF1))), (mt, .inl (cA, 4096, .inl (iA gT)))] := hD
      refine lv_goto (tgt := 28) hx hb dM_move_24 (by decide) ?_
      rw [← hQ]
      exact wr_iret (gX1, gY1, gF1, mp1) hx hb hr hlocks hAe (hP.sub [0, 1, 2, 3, 4, 5, 6] rfl) (hD.sub [0, 1, 2, 3, 4, 5, 6] (by decide) rfl) hS (Or.inr (by rcases hzp with w | w; (exact Or.inl ⟨w.1, by omega, w.2⟩); (exact Or.inr ⟨w.1, by omega, w.2⟩))) dM_move_28

def rm_m_line : Room := { frames := 1, cells := 0, slots := 0, locals := 23 }
set_option maxHeartbeats 4000000 in
set_option maxRecDepth 100000 in
theorem m_line (l : Launch) (D : va_G) (cA cB cS : ClassId) (mo : Nat) (cs : Nat) (rs : Nat) (mg : Nat) (mm : Nat) (mx : Nat) (my : Nat) (mf : Nat) (mt : Nat) (fB : Nat → Int) (fM : Nat → Int) (gX : Nat → Int) (gY : Nat → Int) (gF : Nat → Int) (gT : Nat → Int) (mv : Nat) (mp : Nat) (me : Nat) (a1 : Int) (a2 : Int) (h1 : i32 a1) (h2 : i32 a2) (h3 : mp ≤ 4096) (sz : Nat) : Met l yM_line wM_line rm_m_line (pW [.ref mo, .int (iI a1), .int (iI a2)] D vwCl (vwTy cA cB cS) vwNw [(mo, .inr (4, [.int (iI (cs : Int)), .int (iI (rs : Int)), .ref mg, .ref mm, .int (iI (mv : Int)), .ref mx, .ref my, .ref mf, .int (iI (mp : Int)), .ref mt, .int (iI (me : Int))])), (mg, .inl (cB, 65536, .inl (iA fB))), (mm, .inl (cS, 65536, .inl (iA fM))), (mx, .inl (cA, 4096, .inl (iA gX))), (my, .inl (cA, 4096, .inl (iA gY))), (mf, .inl (cA, 4096, .inl (iA gF))), (mt, .inl (cA, 4096, .inl (iA gT)))] sz) (qW (S := (Nat → Int) × (Nat → Int) × (Nat → Int) × Nat) (fun (z : Int) (u : (Nat → Int) × (Nat → Int) × (Nat → Int) × Nat) => (z = -1 ∧ ¬ (-536870912 ≤ a1 ∧ a1 ≤ 536870912 ∧ -536870912 ≤ a2 ∧ a2 ≤ 536870912) ∧ u.1 = gX ∧ u.2.1 = gY ∧ u.2.2.1 = gF ∧ u.2.2.2 = mp) ∨ (z = -2 ∧ (-536870912 ≤ a1 ∧ a1 ≤ 536870912 ∧ -536870912 ≤ a2 ∧ a2 ≤ 536870912) ∧ mp = 0 ∧ u.1 = gX ∧ u.2.1 = gY ∧ u.2.2.1 = gF ∧ u.2.2.2 = mp) ∨ (z = -3 ∧ (-536870912 ≤ a1 ∧ a1 ≤ 536870912 ∧ -536870912 ≤ a2 ∧ a2 ≤ 536870912) ∧ 4096 ≤ mp ∧ u.1 = gX ∧ u.2.1 = gY ∧ u.2.2.1 = gF ∧ u.2.2.2 = mp) ∨ (z = ((mp + 1 : Nat) : Int) ∧ (-536870912 ≤ a1 ∧ a1 ≤ 536870912 ∧ -536870912 ≤ a2 ∧ a2 ≤ 536870912) ∧ 0 < mp ∧ mp < 4096 ∧ u.1 = uZ gX mp a1 ∧ u.2.1 = uZ gY mp a2 ∧ u.2.2.1 = uZ gF mp (gF (mp - 1)) ∧ u.2.2.2 = mp + 1)) D vwCl [(mo, .inr (4, [.int (iI (cs : Int)), .int (iI (rs : Int)), .ref mg, .ref mm, .int (iI (mv : Int)), .ref mx, .ref my, .ref mf, .int (iI (mp : Int)), .ref mt, .int (iI (me : Int))])), (mg, .inl (cB, 65536, .inl (iA fB))), (mm, .inl (cS, 65536, .inl (iA fM))), (mx, .inl (cA, 4096, .inl (iA gX))), (my, .inl (cA, 4096, .inl (iA gY))), (mf, .inl (cA, 4096, .inl (iA gF))), (mt, .inl (cA, 4096, .inl (iA gT)))] sz (fun u : (Nat → Int) × (Nat → Int) × (Nat → Int) × Nat => [(mo, .inr (4, [.int (iI (cs : Int)), .int (iI (rs : Int)), .ref mg, .ref mm, .int (iI (mv : Int)), .ref mx, .ref my, .ref mf, .int (iI ((u.2.2.2 : Nat) : Int)), .ref mt, .int (iI (me : Int))])), (mg, .inl (cB, 65536, .inl (iA fB))), (mm, .inl (cS, 65536, .inl (iA fM))), (mx, .inl (cA, 4096, .inl (iA u.1))), (my, .inl (cA, 4096, .inl (iA u.2.1))), (mf, .inl (cA, 4096, .inl (iA u.2.2.1))), (mt, .inl (cA, 4096, .inl (iA gT)))])) 0 0 (va_A [(mo, .inr (4, [.int (iI (cs : Int)), .int (iI (rs : Int)), .ref mg, .ref mm, .int (iI (mv : Int)), .ref mx, .ref my, .ref mf, .int (iI (mp : Int)), .ref mt, .int (iI (me : Int))])), (mg, .inl (cB, 65536, .inl (iA fB))), (mm, .inl (cS, 65536, .inl (iA fM))), (mx, .inl (cA, 4096, .inl (iA gX))), (my, .inl (cA, 4096, .inl (iA gY))), (mf, .inl (cA, 4096, .inl (iA gF))), (mt, .inl (cA, 4096, .inl (iA gT)))] sz) := by
  refine Met.ofW (cc := bM_line) (maxL := 3) (ret := (some .int)) (by decide +kernel) rfl ?_
  intro p e s m args below meth c s₁ B hml hv
  obtain ⟨rfl, hsz, hP, hKW, hD0⟩ := hv
  have hK := hKW.1
  have hN := hKW.2.2
  have hx := B.exec
  have hb := B.bytes
  have hr := B.returns
  have hts := atoms_spec (ws := wM_line) B.pre
  have hown : s.vm.findClass "WindingRasterModel" = some m.cls := findClass_of_methodNamed B.named
  have hlocks := B.notSynchronized
  subst hsz
  have hD := hD0.self (sz := s.heap.size)
  obtain ⟨A, hAe⟩ : ∃ A, va_A [(mo, .inr (4, [.int (iI (cs : Int)), .int (iI (rs : Int)), .ref mg, .ref mm, .int (iI (mv : Int)), .ref mx, .ref my, .ref mf, .int (iI (mp : Int)), .ref mt, .int (iI (me : Int))])), (mg, .inl (cB, 65536, .inl (iA fB))), (mm, .inl (cS, 65536, .inl (iA fM))), (mx, .inl (cA, 4096, .inl (iA gX))), (my, .inl (cA, 4096, .inl (iA gY))), (mf, .inl (cA, 4096, .inl (iA gF))), (mt, .inl (cA, 4096, .inl (iA gT)))] s.heap.size = A := ⟨_, rfl⟩
  rw [hAe] at hD
  have hA : ∀ q : Nat, s.heap.size ≤ q → A q := fun q h => by rw [← hAe]; exact Or.inr h
  have hS : va_S A s.heap s.heap [] := va_S.rf
  have hP : va_P D vwCl [(mo, .inr (4, [.int (iI (cs : Int)), .int (iI (rs : Int)), .ref mg, .ref mm, .int (iI (mv : Int)), .ref mx, .ref my, .ref mf, .int (iI (mp : Int)), .ref mt, .int (iI (me : Int))])), (mg, .inl (cB, 65536, .inl (iA fB))), (mm, .inl (cS, 65536, .inl (iA fM))), (mx, .inl (cA, 4096, .inl (iA gX))), (my, .inl (cA, 4096, .inl (iA gY))), (mf, .inl (cA, 4096, .inl (iA gF))), (mt, .inl (cA, 4096, .inl (iA gT)))] s.heap := hP
  have in_4 : ∀ w ∈ wsM, w ∈ wM_line := fun w h => List.mem_cons_of_mem _ (in0_M w h)
  have fl_46 := (hts _ (List.mem_cons_of_mem _ vm_269))
  have fl_25 := (hts _ (List.mem_cons_of_mem _ vm_268))
  have hl := lv_entry ([.ref mo, .int (iI a1), .int (iI a2)]) (n := 3) (Nat.le_of_ble_eq_true rfl)
  rw [lg_entry_eq]
  generalize (lg_sl ([.ref mo, .int (iI a1), .int (iI a2)]) ++ List.replicate (3 - (lg_sl ([.ref mo, .int (iI a1), .int (iI a2)])).length) Slot.unset).toArray = ls at hl ⊢
  have hl : lv_has ls 3 [(0, .ref mo), (1, .int (iI a1)), (2, .int (iI a2))] := hl
  generalize hQ : MQ below (qW (S := (Nat → Int) × (Nat → Int) × (Nat → Int) × Nat) (fun (z : Int) (u : (Nat → Int) × (Nat → Int) × (Nat → Int) × Nat) => (z = -1 ∧ ¬ (-536870912 ≤ a1 ∧ a1 ≤ 536870912 ∧ -536870912 ≤ a2 ∧ a2 ≤ 536870912) ∧ u.1 = gX ∧ u.2.1 = gY ∧ u.2.2.1 = gF ∧ u.2.2.2 = mp) ∨ (z = -2 ∧ (-536870912 ≤ a1 ∧ a1 ≤ 536870912 ∧ -536870912 ≤ a2 ∧ a2 ≤ 536870912) ∧ mp = 0 ∧ u.1 = gX ∧ u.2.1 = gY ∧ u.2.2.1 = gF ∧ u.2.2.2 = mp) ∨ (z = -3 ∧ (-536870912 ≤ a1 ∧ a1 ≤ 536870912 ∧ -536870912 ≤ a2 ∧ a2 ≤ 536870912) ∧ 4096 ≤ mp ∧ u.1 = gX ∧ u.2.1 = gY ∧ u.2.2.1 = gF ∧ u.2.2.2 = mp) ∨ (z = ((mp + 1 : Nat) : Int) ∧ (-536870912 ≤ a1 ∧ a1 ≤ 536870912 ∧ -536870912 ≤ a2 ∧ a2 ≤ 536870912) ∧ 0 < mp ∧ mp < 4096 ∧ u.1 = uZ gX mp a1 ∧ u.2.1 = uZ gY mp a2 ∧ u.2.2.1 = uZ gF mp (gF (mp - 1)) ∧ u.2.2.2 = mp + 1)) D vwCl [(mo, .inr (4, [.int (iI (cs : Int)), .int (iI (rs : Int)), .ref mg, .ref mm, .int (iI (mv : Int)), .ref mx, .ref my, .ref mf, .int (iI (mp : Int)), .ref mt, .int (iI (me : Int))])), (mg, .inl (cB, 65536, .inl (iA fB))), (mm, .inl (cS, 65536, .inl (iA fM))), (mx, .inl (cA, 4096, .inl (iA gX))), (my, .inl (cA, 4096, .inl (iA gY))), (mf, .inl (cA, 4096, .inl (iA gF))), (mt, .inl (cA, 4096, .inl (iA gT)))] s.heap.size (fun u : (Nat → Int) × (Nat → Int) × (Nat → Int) × Nat => [(mo, .inr (4, [.int (iI (cs : Int)), .int (iI (rs : Int)), .ref mg, .ref mm, .int (iI (mv : Int)), .ref mx, .ref my, .ref mf, .int (iI ((u.2.2.2 : Nat) : Int)), .ref mt, .int (iI (me : Int))])), (mg, .inl (cB, 65536, .inl (iA fB))), (mm, .inl (cS, 65536, .inl (iA fM))), (mx, .inl (cA, 4096, .inl (iA u.1))), (my, .inl (cA, 4096, .inl (iA u.2.1))), (mf, .inl (cA, 4096, .inl (iA u.2.2.1))), (mt, .inl (cA, 4096, .inl (iA gT)))])) [.ref mo, .int (iI a1), .int (iI a2)].toArray s 0 0 (va_A [(mo, .inr (4, [.int (iI (cs : Int)), .int (iI (rs : Int)), .ref mg, .ref mm, .int (iI (mv : Int)), .ref mx, .ref my, .ref mf, .int (iI (mp : Int)), .ref mt, .int (iI (me : Int))])), (mg, .inl (cB, 65536, .inl (iA fB))), (mm, .inl (cS, 65536, .inl (iA fM))), (mx, .inl (cA, 4096, .inl (iA gX))), (my, .inl (cA, 4096, .inl (iA gY))), (mf, .inl (cA, 4096, .inl (iA gF))), (mt, .inl (cA, 4096, .inl (iA gT)))] s.heap.size) = QQ
  refine lv_iload_n hx hb dM_line_0 rfl (lv_at hl 1 rfl) ?_
  refine cs_i (va_runS (As := [.int (iI a1)]) (rest := []) ⟨hx, hb, hml, hown, hts⟩ (m_isPlace l D cA cB cS a1 (by omega)) ⟨(callB_of 1 hts (gIn vm_299) rfl rfl rfl (hts _ (List.mem_cons_of_mem _ vm_8)) (hts _ (List.mem_cons_of_mem _ vm_297)) (by decide +kernel) ⟨Nat.le_of_ble_eq_true rfl, Nat.le_of_ble_eq_true rfl⟩), (hts _ (List.mem_cons_of_mem _ vm_298))⟩ (pR.pre (hP.sub [] rfl) hKW) rfl rfl hl.1 rfl (lv_room (Nat.le_of_ble_eq_true rfl)) dM_line_1 ⟨Nat.le_of_ble_eq_true rfl, Nat.le_of_ble_eq_true rfl⟩) (fun z_1 hz_1 => ?_)
  refine ii_if_eq (tgt := 14) hx hb dM_line_4 (by decide) (by omega) (fun c4 => ?_) (fun c4 => ?_)
  · refine ii_iconst (n := (-1)) hx hb dM_line_14 ?_
    rw [← hQ]
    exact wr_iret (gX, gY, gF, mp) hx hb hr hlocks hAe (hP.sub [0, 1, 2, 3, 4, 5, 6] rfl) (hD.sub [0, 1, 2, 3, 4, 5, 6] (by decide) rfl) hS (Or.inl ⟨rfl, by omega, rfl, rfl, rfl, rfl⟩) dM_line_15
  · refine lv_iload_n hx hb dM_line_7 rfl (lv_at hl 2 rfl) ?_
    refine cs_i (va_runS (As := [.int (iI a2)]) (rest := []) ⟨hx, hb, hml, hown, hts⟩ (m_isPlace l D cA cB cS a2 (by omega)) ⟨(callB_of 1 hts (gIn vm_299) rfl rfl rfl (hts _ (List.mem_cons_of_mem _ vm_8)) (hts _ (List.mem_cons_of_mem _ vm_297)) (by decide +kernel) ⟨Nat.le_of_ble_eq_true rfl, Nat.le_of_ble_eq_true rfl⟩), (hts _ (List.mem_cons_of_mem _ vm_298))⟩ (pR.pre (hP.sub [] rfl) hKW) rfl rfl hl.1 rfl (lv_room (Nat.le_of_ble_eq_true rfl)) dM_line_8 ⟨Nat.le_of_ble_eq_true rfl, Nat.le_of_ble_eq_true rfl⟩) (fun z_2 hz_2 => ?_)
    refine ii_if_ne (tgt := 16) hx hb dM_line_11 (by decide) (by omega) (fun c11 => ?_) (fun c11 => ?_)
    · refine lv_aload_n hx hb dM_line_16 rfl (lv_at hl 0 rfl) ?_
      refine va_get (ci := 4) (v := .int (iI (mp : Int))) (C := "WindingRasterModel") (T := TM) (N := 11) hx hb hts in_4 hown hK hP 0 rfl rfl 8 (by decide) fl_46 (fun _ h9 => h9) rfl dM_line_17 ?_
      refine ii_if_ne (tgt := 28) hx hb dM_line_20 (by decide) (by omega) (fun c20 => ?_) (fun c20 => ?_)
      · refine lv_aload_n hx hb dM_line_28 rfl (lv_at hl 0 rfl) ?_
        refine lv_iload_n hx hb dM_line_29 rfl (lv_at hl 1 rfl) ?_
        refine lv_iload_n hx hb dM_line_30 rfl (lv_at hl 2 rfl) ?_
        refine lv_aload_n hx hb dM_line_31 rfl (lv_at hl 0 rfl) ?_
        refine va_get (ci := 4) (v := .ref mf) (C := "WindingRasterModel") (T := TM) (N := 11) hx hb hts in_4 hown hK hP 0 rfl rfl 7 (by decide) fl_25 (fun _ h9 => h9) rfl dM_line_32 ?_
        refine lv_aload_n hx hb dM_line_35 rfl (lv_at hl 0 rfl) ?_
        refine va_get (ci := 4) (v := .int (iI (mp : Int))) (C := "WindingRasterModel") (T := TM) (N := 11) hx hb hts in_4 hown hK hP 0 rfl rfl 8 (by decide) fl_46 (fun _ h9 => h9) rfl dM_line_36 ?_
        refine ii_iconst (n := 1) hx hb dM_line_39 ?_
        refine ii_isub hx hb dM_line_40 ?_
        refine ii_iald hx hb hK hP 5 0 rfl rfl (mp - 1) (by omega) (by omega) (by omega) dM_line_41 ?_
        refine cw_i (wc := [(mo, .inr (4, [.int (iI (cs : Int)), .int (iI (rs : Int)), .ref mg, .ref mm, .int (iI (mv : Int)), .ref mx, .ref my, .ref mf, .int (iI (mp : Int)), .ref mt, .int (iI (me : Int))])), (mg, .inl (cB, 65536, .inl (iA fB))), (mm, .inl (cS, 65536, .inl (iA fM))), (mx, .inl (cA, 4096, .inl (iA gX))), (my, .inl (cA, 4096, .inl (iA gY))), (mf, .inl (cA, 4096, .inl (iA gF))), (mt, .inl (cA, 4096, .inl (iA gT)))]) (wr := []) hP hD hS hA [0, 1, 2, 3, 4, 5, 6] [] rfl rfl (by decide) (by decide) (va_runV (As := [.int (iI a1), .int (iI a2), .int (iI (gF (mp - 1)))]) (rest := []) ⟨hx, hb, hml, hown, hts⟩ (m_put l D cA cB cS mo cs rs mg mm mx my mf mt fB fM gX gY gF gT mv mp me a1 a2 (gF (mp - 1)) (by omega) _) ⟨(callB_of 3 hts (gIn vm_304) rfl rfl rfl (hts _ (List.mem_cons_of_mem _ vm_8)) (hts _ (List.mem_cons_of_mem _ vm_302)) (by decide +kernel) ⟨Nat.le_of_ble_eq_true rfl, Nat.le_of_ble_eq_true rfl⟩), (hts _ (List.mem_cons_of_mem _ vm_303)), (hts _ (List.mem_cons_of_mem _ vm_421))⟩ (pW.preV (va_recv hK hP (ci := 4) (q0 := 0) rfl rfl) (hP.sub [0, 1, 2, 3, 4, 5, 6] rfl) (hD.sub [0, 1, 2, 3, 4, 5, 6] (by decide) rfl) hKW) rfl rfl hl.1 rfl (lv_room (Nat.le_of_ble_eq_true rfl)) dM_line_42 ⟨Nat.le_of_ble_eq_true rfl, Nat.le_of_ble_eq_true rfl⟩) (fun zp u_3 H locs hzp hP hD hS => ?_)
        obtain ⟨gX1, gY1, gF1, mp1⟩ := u_3
        try dsimp only at hzp
        have hP : va_P D vwCl [(mo, .inr (4, [.int (iI (cs : Int)), .int (iI (rs : Int)), .ref mg, .ref mm, .int (iI (mv : Int)), .ref mx, .ref my, .ref mf, .int (iI (mp1 : Int)), .ref mt, .int (iI (me : Int))])), (mg, .inl (cB, 65536, .inl (iA fB))), (mm, .inl (cS, 65536, .inl (iA fM))), (mx, .inl (cA, 4096, .inl (iA gX1))), (my, .inl (cA, 4096, .inl (iA gY1))), (mf, .inl (cA, 4096, .inl (iA gF1))), (mt, .inl (cA, 4096, .inl (iA gT)))] H := hP
        have hD : va_D A [(mo, .inr (4, [.int (iI (cs : Int)), .int (iI (rs : Int)), .ref mg, .ref mm, .int (iI (mv : Int)), .ref mx, .ref my, .ref mf, .int (iI (mp1 : Int)), .ref mt, .int (iI (me : Int))])), (mg, .inl (cB, 65536, .inl (iA fB))), (mm, .inl (cS, 65536, .inl (iA fM))), (mx, .inl (cA, 4096, .inl (iA gX1))), (my, .inl (cA, 4096, .inl (iA gY1))), (mf, .inl (cA, 4096, .inl (iA gF1))), (mt, .inl (cA, 4096, .inl (iA gT)))] := hD
        rw [← hQ]
        exact wr_iret (gX1, gY1, gF1, mp1) hx hb hr hlocks hAe (hP.sub [0, 1, 2, 3, 4, 5, 6] rfl) (hD.sub [0, 1, 2, 3, 4, 5, 6] (by decide) rfl) hS (Or.inr (Or.inr (by rcases hzp with w | w; (exact Or.inl ⟨w.1, by omega, w.2⟩); (exact Or.inr ⟨w.1, by omega, by omega, w.2⟩)))) dM_line_45
      · refine ii_bipush (n := (-2)) hx hb dM_line_23 (by decide +kernel) ?_
        refine lv_goto (tgt := 45) hx hb dM_line_25 (by decide) ?_
        rw [← hQ]
        exact wr_iret (gX, gY, gF, mp) hx hb hr hlocks hAe (hP.sub [0, 1, 2, 3, 4, 5, 6] rfl) (hD.sub [0, 1, 2, 3, 4, 5, 6] (by decide) rfl) hS (Or.inr (Or.inl ⟨rfl, by omega, by omega, rfl, rfl, rfl, rfl⟩)) dM_line_45
    · refine ii_iconst (n := (-1)) hx hb dM_line_14 ?_
      rw [← hQ]
      exact wr_iret (gX, gY, gF, mp) hx hb hr hlocks hAe (hP.sub [0, 1, 2, 3, 4, 5, 6] rfl) (hD.sub [0, 1, 2, 3, 4, 5, 6] (by decide) rfl) hS (Or.inl ⟨rfl, by omega, rfl, rfl, rfl, rfl⟩) dM_line_15

def rm_m_clear : Room := { frames := 0, cells := 0, slots := 0, locals := 0 }
set_option maxHeartbeats 4000000 in
set_option maxRecDepth 100000 in
theorem m_clear (l : Launch) (D : va_G) (cA cB cS : ClassId) (mo : Nat) (cs : Nat) (rs : Nat) (mg : Nat) (mm : Nat) (mx : Nat) (my : Nat) (mf : Nat) (mt : Nat) (fB : Nat → Int) (fM : Nat → Int) (gX : Nat → Int) (gY : Nat → Int) (gF : Nat → Int) (gT : Nat → Int) (mv : Nat) (mp : Nat) (me : Nat) (sz : Nat) : Met l yM_clear wM_clear rm_m_clear (pW [.ref mo] D vwCl (vwTy cA cB cS) vwNw [(mo, .inr (4, [.int (iI (cs : Int)), .int (iI (rs : Int)), .ref mg, .ref mm, .int (iI (mv : Int)), .ref mx, .ref my, .ref mf, .int (iI (mp : Int)), .ref mt, .int (iI (me : Int))])), (mg, .inl (cB, 65536, .inl (iA fB))), (mm, .inl (cS, 65536, .inl (iA fM))), (mx, .inl (cA, 4096, .inl (iA gX))), (my, .inl (cA, 4096, .inl (iA gY))), (mf, .inl (cA, 4096, .inl (iA gF))), (mt, .inl (cA, 4096, .inl (iA gT)))] sz) (qW (S := Unit) (fun (z : Int) (_ : Unit) => z = (mp : Int)) D vwCl [(mo, .inr (4, [.int (iI (cs : Int)), .int (iI (rs : Int)), .ref mg, .ref mm, .int (iI (mv : Int)), .ref mx, .ref my, .ref mf, .int (iI (mp : Int)), .ref mt, .int (iI (me : Int))])), (mg, .inl (cB, 65536, .inl (iA fB))), (mm, .inl (cS, 65536, .inl (iA fM))), (mx, .inl (cA, 4096, .inl (iA gX))), (my, .inl (cA, 4096, .inl (iA gY))), (mf, .inl (cA, 4096, .inl (iA gF))), (mt, .inl (cA, 4096, .inl (iA gT)))] sz (fun _ : Unit => [(mo, .inr (4, [.int (iI (cs : Int)), .int (iI (rs : Int)), .ref mg, .ref mm, .int (iI (mv : Int)), .ref mx, .ref my, .ref mf, .int (iI 0), .ref mt, .int (iI (me : Int))])), (mg, .inl (cB, 65536, .inl (iA fB))), (mm, .inl (cS, 65536, .inl (iA fM))), (mx, .inl (cA, 4096, .inl (iA gX))), (my, .inl (cA, 4096, .inl (iA gY))), (mf, .inl (cA, 4096, .inl (iA gF))), (mt, .inl (cA, 4096, .inl (iA gT)))])) 0 0 (va_A [(mo, .inr (4, [.int (iI (cs : Int)), .int (iI (rs : Int)), .ref mg, .ref mm, .int (iI (mv : Int)), .ref mx, .ref my, .ref mf, .int (iI (mp : Int)), .ref mt, .int (iI (me : Int))])), (mg, .inl (cB, 65536, .inl (iA fB))), (mm, .inl (cS, 65536, .inl (iA fM))), (mx, .inl (cA, 4096, .inl (iA gX))), (my, .inl (cA, 4096, .inl (iA gY))), (mf, .inl (cA, 4096, .inl (iA gF))), (mt, .inl (cA, 4096, .inl (iA gT)))] sz) := by
  refine Met.ofW (cc := bM_clear) (maxL := 2) (ret := (some .int)) (by decide +kernel) rfl ?_
  intro p e s m args below meth c s₁ B hml hv
  obtain ⟨rfl, hsz, hP, hKW, hD0⟩ := hv
  have hK := hKW.1
  have hN := hKW.2.2
  have hx := B.exec
  have hb := B.bytes
  have hr := B.returns
  have hts := atoms_spec (ws := wM_clear) B.pre
  have hown : s.vm.findClass "WindingRasterModel" = some m.cls := findClass_of_methodNamed B.named
  have hlocks := B.notSynchronized
  subst hsz
  have hD := hD0.self (sz := s.heap.size)
  obtain ⟨A, hAe⟩ : ∃ A, va_A [(mo, .inr (4, [.int (iI (cs : Int)), .int (iI (rs : Int)), .ref mg, .ref mm, .int (iI (mv : Int)), .ref mx, .ref my, .ref mf, .int (iI (mp : Int)), .ref mt, .int (iI (me : Int))])), (mg, .inl (cB, 65536, .inl (iA fB))), (mm, .inl (cS, 65536, .inl (iA fM))), (mx, .inl (cA, 4096, .inl (iA gX))), (my, .inl (cA, 4096, .inl (iA gY))), (mf, .inl (cA, 4096, .inl (iA gF))), (mt, .inl (cA, 4096, .inl (iA gT)))] s.heap.size = A := ⟨_, rfl⟩
  rw [hAe] at hD
  have hA : ∀ q : Nat, s.heap.size ≤ q → A q := fun q h => by rw [← hAe]; exact Or.inr h
  have hS : va_S A s.heap s.heap [] := va_S.rf
  have hP : va_P D vwCl [(mo, .inr (4, [.int (iI (cs : Int)), .int (iI (rs : Int)), .ref mg, .ref mm, .int (iI (mv : Int)), .ref mx, .ref my, .ref mf, .int (iI (mp : Int)), .ref mt, .int (iI (me : Int))])), (mg, .inl (cB, 65536, .inl (iA fB))), (mm, .inl (cS, 65536, .inl (iA fM))), (mx, .inl (cA, 4096, .inl (iA gX))), (my, .inl (cA, 4096, .inl (iA gY))), (mf, .inl (cA, 4096, .inl (iA gF))), (mt, .inl (cA, 4096, .inl (iA gT)))] s.heap := hP
  have in_4 : ∀ w ∈ wsM, w ∈ wM_clear := fun w h => List.mem_cons_of_mem _ (in0_M w h)
  have fl_46 := (hts _ (List.mem_cons_of_mem _ vm_269))
  have hl := lv_entry ([.ref mo]) (n := 2) (Nat.le_of_ble_eq_true rfl)
  rw [lg_entry_eq]
  generalize (lg_sl ([.ref mo]) ++ List.replicate (2 - (lg_sl ([.ref mo])).length) Slot.unset).toArray = ls at hl ⊢
  have hl : lv_has ls 2 [(0, .ref mo)] := hl
  generalize hQ : MQ below (qW (S := Unit) (fun (z : Int) (_ : Unit) => z = (mp : Int)) D vwCl [(mo, .inr (4, [.int (iI (cs : Int)), .int (iI (rs : Int)), .ref mg, .ref mm, .int (iI (mv : Int)), .ref mx, .ref my, .ref mf, .int (iI (mp : Int)), .ref mt, .int (iI (me : Int))])), (mg, .inl (cB, 65536, .inl (iA fB))), (mm, .inl (cS, 65536, .inl (iA fM))), (mx, .inl (cA, 4096, .inl (iA gX))), (my, .inl (cA, 4096, .inl (iA gY))), (mf, .inl (cA, 4096, .inl (iA gF))), (mt, .inl (cA, 4096, .inl (iA gT)))] s.heap.size (fun _ : Unit => [(mo, .inr (4, [.int (iI (cs : Int)), .int (iI (rs : Int)), .ref mg, .ref mm, .int (iI (mv : Int)), .ref mx, .ref my, .ref mf, .int (iI 0), .ref mt, .int (iI (me : Int))])), (mg, .inl (cB, 65536, .inl (iA fB))), (mm, .inl (cS, 65536, .inl (iA fM))), (mx, .inl (cA, 4096, .inl (iA gX))), (my, .inl (cA, 4096, .inl (iA gY))), (mf, .inl (cA, 4096, .inl (iA gF))), (mt, .inl (cA, 4096, .inl (iA gT)))])) [.ref mo].toArray s 0 0 (va_A [(mo, .inr (4, [.int (iI (cs : Int)), .int (iI (rs : Int)), .ref mg, .ref mm, .int (iI (mv : Int)), .ref mx, .ref my, .ref mf, .int (iI (mp : Int)), .ref mt, .int (iI (me : Int))])), (mg, .inl (cB, 65536, .inl (iA fB))), (mm, .inl (cS, 65536, .inl (iA fM))), (mx, .inl (cA, 4096, .inl (iA gX))), (my, .inl (cA, 4096, .inl (iA gY))), (mf, .inl (cA, 4096, .inl (iA gF))), (mt, .inl (cA, 4096, .inl (iA gT)))] s.heap.size) = QQ
  refine lv_aload_n hx hb dM_clear_0 rfl (lv_at hl 0 rfl) ?_
  refine va_get (ci := 4) (v := .int (iI (mp : Int))) (C := "WindingRasterModel") (T := TM) (N := 11) hx hb hts in_4 hown hK hP 0 rfl rfl 8 (by decide) fl_46 (fun _ h9 => h9) rfl dM_clear_1 ?_
  refine lv_istore_n (lv' := [(1, .int (iI (mp : Int))), (0, .ref mo)]) hx hb dM_clear_4 rfl hl (by decide) rfl (fun ls hl => ?_)
  refine lv_aload_n hx hb dM_clear_5 rfl (lv_at hl 1 rfl) ?_
  refine ii_iconst (n := 0) hx hb dM_clear_6 ?_
  refine va_put (ci := 4) (v := .int (iI 0)) (ty := .int) (C := "WindingRasterModel") (T := TM) (N := 11) hx hb hts in_4 tM tM_ok nM hown hK hP hD hS 0 rfl rfl 8 (by decide) fl_46 (fun _ h9 => h9) rfl (by decide +kernel) rfl rfl (Nat.le_of_ble_eq_true rfl) dM_clear_7 (fun H locs hP hD hS => ?_)
  have hP : va_P D vwCl [(mo, .inr (4, [.int (iI (cs : Int)), .int (iI (rs : Int)), .ref mg, .ref mm, .int (iI (mv : Int)), .ref mx, .ref my, .ref mf, .int (iI 0), .ref mt, .int (iI (me : Int))])), (mg, .inl (cB, 65536, .inl (iA fB))), (mm, .inl (cS, 65536, .inl (iA fM))), (mx, .inl (cA, 4096, .inl (iA gX))), (my, .inl (cA, 4096, .inl (iA gY))), (mf, .inl (cA, 4096, .inl (iA gF))), (mt, .inl (cA, 4096, .inl (iA gT)))] H := hP
  have hD : va_D A [(mo, .inr (4, [.int (iI (cs : Int)), .int (iI (rs : Int)), .ref mg, .ref mm, .int (iI (mv : Int)), .ref mx, .ref my, .ref mf, .int (iI 0), .ref mt, .int (iI (me : Int))])), (mg, .inl (cB, 65536, .inl (iA fB))), (mm, .inl (cS, 65536, .inl (iA fM))), (mx, .inl (cA, 4096, .inl (iA gX))), (my, .inl (cA, 4096, .inl (iA gY))), (mf, .inl (cA, 4096, .inl (iA gF))), (mt, .inl (cA, 4096, .inl (iA gT)))] := hD
  refine lv_iload_n hx hb dM_clear_10 rfl (lv_at hl 0 rfl) ?_
  rw [← hQ]
  exact wr_iret () hx hb hr hlocks hAe (hP.sub [0, 1, 2, 3, 4, 5, 6] rfl) (hD.sub [0, 1, 2, 3, 4, 5, 6] (by decide) rfl) hS rfl dM_clear_11
