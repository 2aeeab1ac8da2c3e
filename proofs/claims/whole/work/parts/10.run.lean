def rm_c_of : Room := { frames := 0, cells := 0, slots := 0, locals := 0 }
set_option maxHeartbeats 4000000 in
set_option maxRecDepth 100000 in
theorem c_of (l : Launch) (D : va_G) (cA cB cS : ClassId) (rr : Nat) (fm : Nat) (ed : Nat) (h1 : rr < 4096) (h2 : fm < 512) (h3 : ed < 512) : Met l yR_of wR_of rm_c_of (pR [.int (iI (rr : Int)), .int (iI (fm : Int)), .int (iI (ed : Int))] D vwCl (vwTy cA cB cS) vwNw []) (qI (fun z => z = ((rr * 262144 + fm * 512 + ed : Nat) : Int))) 0 0 (fun _ => False) := by
  refine Met.ofW (cc := bR_of) (maxL := 3) (ret := (some .int)) (by decide +kernel) rfl ?_
  intro p e s m args below meth c s₁ B hml hv
  obtain ⟨rfl, hP, hKW⟩ := hv
  have hK := hKW.1
  have hN := hKW.2.2
  have hx := B.exec
  have hb := B.bytes
  have hr := B.returns
  have hts := atoms_spec (ws := wR_of) B.pre
  have hown : s.vm.findClass "WindingRaster$Run" = some m.cls := findClass_of_methodNamed B.named
  have hlocks := B.notSynchronized
  have hP : va_P D vwCl [] s.heap := hP
  have hl := lv_entry ([.int (iI (rr : Int)), .int (iI (fm : Int)), .int (iI (ed : Int))]) (n := 3) (Nat.le_of_ble_eq_true rfl)
  rw [lg_entry_eq]
  generalize (lg_sl ([.int (iI (rr : Int)), .int (iI (fm : Int)), .int (iI (ed : Int))]) ++ List.replicate (3 - (lg_sl ([.int (iI (rr : Int)), .int (iI (fm : Int)), .int (iI (ed : Int))])).length) Slot.unset).toArray = ls at hl ⊢
  have hl : lv_has ls 3 [(0, .int (iI (rr : Int))), (1, .int (iI (fm : Int))), (2, .int (iI (ed : Int)))] := hl
  generalize hQ : MQ below (qI (fun z => z = ((rr * 262144 + fm * 512 + ed : Nat) : Int))) [.int (iI (rr : Int)), .int (iI (fm : Int)), .int (iI (ed : Int))].toArray s 0 0 (fun _ => False) = QQ
  refine lv_iload_n hx hb dR_of_0 rfl (lv_at hl 0 rfl) ?_
  refine ii_bipush (n := 9) hx hb dR_of_1 (by decide +kernel) ?_
  refine ii_ishl (z := (rr : Int) * 512) hx hb dR_of_3 (iI_shl9 _) ?_
  refine lv_iload_n hx hb dR_of_4 rfl (lv_at hl 1 rfl) ?_
  refine ii_ior (z := (rr : Int) * 512 + (fm : Int)) hx hb dR_of_5 (iI_or9 (by omega) (by omega) (by omega)) ?_
  refine ii_bipush (n := 9) hx hb dR_of_6 (by decide +kernel) ?_
  refine ii_ishl (z := ((rr : Int) * 512 + (fm : Int)) * 512) hx hb dR_of_8 (iI_shl9 _) ?_
  refine lv_iload_n hx hb dR_of_9 rfl (lv_at hl 2 rfl) ?_
  refine ii_ior (z := ((rr : Int) * 512 + (fm : Int)) * 512 + (ed : Int)) hx hb dR_of_10 (iI_or9 (by omega) (by omega) (by omega)) ?_
  rw [← hQ]
  exact rd_iret hx hb hr hlocks (by omega) dR_of_11

def rm_c_rowOf : Room := { frames := 0, cells := 0, slots := 0, locals := 0 }
set_option maxHeartbeats 4000000 in
set_option maxRecDepth 100000 in
theorem c_rowOf (l : Launch) (D : va_G) (cA cB cS : ClassId) (rn : Nat) (h1 : rn < 2147483648) : Met l yR_rowOf wR_rowOf rm_c_rowOf (pR [.int (iI (rn : Int))] D vwCl (vwTy cA cB cS) vwNw []) (qI (fun z => z = ((rn / 262144 : Nat) : Int))) 0 0 (fun _ => False) := by
  refine Met.ofW (cc := bR_rowOf) (maxL := 1) (ret := (some .int)) (by decide +kernel) rfl ?_
  intro p e s m args below meth c s₁ B hml hv
  obtain ⟨rfl, hP, hKW⟩ := hv
  have hK := hKW.1
  have hN := hKW.2.2
  have hx := B.exec
  have hb := B.bytes
  have hr := B.returns
  have hts := atoms_spec (ws := wR_rowOf) B.pre
  have hown : s.vm.findClass "WindingRaster$Run" = some m.cls := findClass_of_methodNamed B.named
  have hlocks := B.notSynchronized
  have hP : va_P D vwCl [] s.heap := hP
  have hl := lv_entry ([.int (iI (rn : Int))]) (n := 1) (Nat.le_of_ble_eq_true rfl)
  rw [lg_entry_eq]
  generalize (lg_sl ([.int (iI (rn : Int))]) ++ List.replicate (1 - (lg_sl ([.int (iI (rn : Int))])).length) Slot.unset).toArray = ls at hl ⊢
  have hl : lv_has ls 1 [(0, .int (iI (rn : Int)))] := hl
  generalize hQ : MQ below (qI (fun z => z = ((rn / 262144 : Nat) : Int))) [.int (iI (rn : Int))].toArray s 0 0 (fun _ => False) = QQ
  refine lv_iload_n hx hb dR_rowOf_0 rfl (lv_at hl 0 rfl) ?_
  refine ii_bipush (n := 18) hx hb dR_rowOf_1 (by decide +kernel) ?_
  refine ii_ishr (z := (rn : Int) / 262144) hx hb dR_rowOf_3 (iI_shr18 (by omega)) ?_
  rw [← hQ]
  exact rd_iret hx hb hr hlocks (by omega) dR_rowOf_4

def rm_c_fromOf : Room := { frames := 0, cells := 0, slots := 0, locals := 0 }
set_option maxHeartbeats 4000000 in
set_option maxRecDepth 100000 in
theorem c_fromOf (l : Launch) (D : va_G) (cA cB cS : ClassId) (rn : Nat) (h1 : rn < 2147483648) : Met l yR_fromOf wR_fromOf rm_c_fromOf (pR [.int (iI (rn : Int))] D vwCl (vwTy cA cB cS) vwNw []) (qI (fun z => z = ((rn / 512 % 512 : Nat) : Int))) 0 0 (fun _ => False) := by
  refine Met.ofW (cc := bR_fromOf) (maxL := 1) (ret := (some .int)) (by decide +kernel) rfl ?_
  intro p e s m args below meth c s₁ B hml hv
  obtain ⟨rfl, hP, hKW⟩ := hv
  have hK := hKW.1
  have hN := hKW.2.2
  have hx := B.exec
  have hb := B.bytes
  have hr := B.returns
  have hts := atoms_spec (ws := wR_fromOf) B.pre
  have hown : s.vm.findClass "WindingRaster$Run" = some m.cls := findClass_of_methodNamed B.named
  have hlocks := B.notSynchronized
  have hP : va_P D vwCl [] s.heap := hP
  have hl := lv_entry ([.int (iI (rn : Int))]) (n := 1) (Nat.le_of_ble_eq_true rfl)
  rw [lg_entry_eq]
  generalize (lg_sl ([.int (iI (rn : Int))]) ++ List.replicate (1 - (lg_sl ([.int (iI (rn : Int))])).length) Slot.unset).toArray = ls at hl ⊢
  have hl : lv_has ls 1 [(0, .int (iI (rn : Int)))] := hl
  generalize hQ : MQ below (qI (fun z => z = ((rn / 512 % 512 : Nat) : Int))) [.int (iI (rn : Int))].toArray s 0 0 (fun _ => False) = QQ
  refine lv_iload_n hx hb dR_fromOf_0 rfl (lv_at hl 0 rfl) ?_
  refine ii_bipush (n := 9) hx hb dR_fromOf_1 (by decide +kernel) ?_
  refine ii_ishr (z := (rn : Int) / 512) hx hb dR_fromOf_3 (iI_shr9 (by omega)) ?_
  refine ii_sipush (n := 511) hx hb dR_fromOf_4 (by decide +kernel) ?_
  refine ii_iand (z := ((rn : Int) / 512) % 512) hx hb dR_fromOf_7 (iI_and511 _) ?_
  rw [← hQ]
  exact rd_iret hx hb hr hlocks (by omega) dR_fromOf_8

def rm_c_endOf : Room := { frames := 0, cells := 0, slots := 0, locals := 0 }
set_option maxHeartbeats 4000000 in
set_option maxRecDepth 100000 in
theorem c_endOf (l : Launch) (D : va_G) (cA cB cS : ClassId) (rn : Nat) (h1 : rn < 2147483648) : Met l yR_endOf wR_endOf rm_c_endOf (pR [.int (iI (rn : Int))] D vwCl (vwTy cA cB cS) vwNw []) (qI (fun z => z = ((rn % 512 : Nat) : Int))) 0 0 (fun _ => False) := by
  refine Met.ofW (cc := bR_endOf) (maxL := 1) (ret := (some .int)) (by decide +kernel) rfl ?_
  intro p e s m args below meth c s₁ B hml hv
  obtain ⟨rfl, hP, hKW⟩ := hv
  have hK := hKW.1
  have hN := hKW.2.2
  have hx := B.exec
  have hb := B.bytes
  have hr := B.returns
  have hts := atoms_spec (ws := wR_endOf) B.pre
  have hown : s.vm.findClass "WindingRaster$Run" = some m.cls := findClass_of_methodNamed B.named
  have hlocks := B.notSynchronized
  have hP : va_P D vwCl [] s.heap := hP
  have hl := lv_entry ([.int (iI (rn : Int))]) (n := 1) (Nat.le_of_ble_eq_true rfl)
  rw [lg_entry_eq]
  generalize (lg_sl ([.int (iI (rn : Int))]) ++ List.replicate (1 - (lg_sl ([.int (iI (rn : Int))])).length) Slot.unset).toArray = ls at hl ⊢
  have hl : lv_has ls 1 [(0, .int (iI (rn : Int)))] := hl
  generalize hQ : MQ below (qI (fun z => z = ((rn % 512 : Nat) : Int))) [.int (iI (rn : Int))].toArray s 0 0 (fun _ => False) = QQ
  refine lv_iload_n hx hb dR_endOf_0 rfl (lv_at hl 0 rfl) ?_
  refine ii_sipush (n := 511) hx hb dR_endOf_1 (by decide +kernel) ?_
  refine ii_iand (z := (rn : Int) % 512) hx hb dR_endOf_4 (iI_and511 _) ?_
  rw [← hQ]
  exact rd_iret hx hb hr hlocks (by omega) dR_endOf_5

def rm_c_lengthOf : Room := { frames := 1, cells := 0, slots := 0, locals := 20 }
set_option maxHeartbeats 4000000 in
set_option maxRecDepth 100000 in
theorem c_lengthOf (l : Launch) (D : va_G) (cA cB cS : ClassId) (rn : Nat) (h1 : rn < 2147483648) (h2 : rn / 512 % 512 ≤ rn % 512) : Met l yR_lengthOf wR_lengthOf rm_c_lengthOf (pR [.int (iI (rn : Int))] D vwCl (vwTy cA cB cS) vwNw []) (qI (fun z => z = ((rn % 512 - rn / 512 % 512 : Nat) : Int))) 0 0 (fun _ => False) := by
  refine Met.ofW (cc := bR_lengthOf) (maxL := 1) (ret := (some .int)) (by decide +kernel) rfl ?_
  intro p e s m args below meth c s₁ B hml hv
  obtain ⟨rfl, hP, hKW⟩ := hv
  have hK := hKW.1
  have hN := hKW.2.2
  have hx := B.exec
  have hb := B.bytes
  have hr := B.returns
  have hts := atoms_spec (ws := wR_lengthOf) B.pre
  have hown : s.vm.findClass "WindingRaster$Run" = some m.cls := findClass_of_methodNamed B.named
  have hlocks := B.notSynchronized
  have hP : va_P D vwCl [] s.heap := hP
  have hl := lv_entry ([.int (iI (rn : Int))]) (n := 1) (Nat.le_of_ble_eq_true rfl)
  rw [lg_entry_eq]
  generalize (lg_sl ([.int (iI (rn : Int))]) ++ List.replicate (1 - (lg_sl ([.int (iI (rn : Int))])).length) Slot.unset).toArray = ls at hl ⊢
  have hl : lv_has ls 1 [(0, .int (iI (rn : Int)))] := hl
  generalize hQ : MQ below (qI (fun z => z = ((rn % 512 - rn / 512 % 512 : Nat) : Int))) [.int (iI (rn : Int))].toArray s 0 0 (fun _ => False) = QQ
  refine lv_iload_n hx hb dR_lengthOf_0 rfl (lv_at hl 0 rfl) ?_
  refine cs_i (va_runS (As := [.int (iI (rn : Int))]) (rest := []) ⟨hx, hb, hml, hown, hts⟩ (c_endOf l D cA cB cS rn (by omega)) ⟨(callB_of 1 hts (gIn vm_176) rfl rfl rfl (hts _ (List.mem_cons_of_mem _ vm_6)) (hts _ (List.mem_cons_of_mem _ vm_192)) (by decide +kernel) ⟨Nat.le_of_ble_eq_true rfl, Nat.le_of_ble_eq_true rfl⟩), (hts _ (List.mem_cons_of_mem _ vm_175))⟩ (pR.pre (hP.sub [] rfl) hKW) rfl rfl hl.1 rfl (lv_room (Nat.le_of_ble_eq_true rfl)) dR_lengthOf_1 ⟨Nat.le_of_ble_eq_true rfl, Nat.le_of_ble_eq_true rfl⟩) (fun z_1 hz_1 => ?_)
  subst hz_1
  refine lv_iload_n hx hb dR_lengthOf_4 rfl (lv_at hl 0 rfl) ?_
  refine cs_i (va_runS (As := [.int (iI (rn : Int))]) (rest := [.int (iI ((rn % 512 : Nat) : Int))]) ⟨hx, hb, hml, hown, hts⟩ (c_fromOf l D cA cB cS rn (by omega)) ⟨(callB_of 1 hts (gIn vm_178) rfl rfl rfl (hts _ (List.mem_cons_of_mem _ vm_6)) (hts _ (List.mem_cons_of_mem _ vm_193)) (by decide +kernel) ⟨Nat.le_of_ble_eq_true rfl, Nat.le_of_ble_eq_true rfl⟩), (hts _ (List.mem_cons_of_mem _ vm_177))⟩ (pR.pre (hP.sub [] rfl) hKW) rfl rfl hl.1 rfl (lv_room (Nat.le_of_ble_eq_true rfl)) dR_lengthOf_5 ⟨Nat.le_of_ble_eq_true rfl, Nat.le_of_ble_eq_true rfl⟩) (fun z_2 hz_2 => ?_)
  subst hz_2
  refine ii_isub hx hb dR_lengthOf_8 ?_
  rw [← hQ]
  exact rd_iret hx hb hr hlocks (by omega) dR_lengthOf_9

def rm_c_isPlace : Room := { frames := 0, cells := 0, slots := 0, locals := 0 }
set_option maxHeartbeats 4000000 in
set_option maxRecDepth 100000 in
theorem c_isPlace (l : Launch) (D : va_G) (cA cB cS : ClassId) (a1 : Int) (h1 : i32 a1) : Met l yW_isPlace wW_isPlace rm_c_isPlace (pR [.int (iI a1)] D vwCl (vwTy cA cB cS) vwNw []) (qI (fun z => (z = 1 ∧ (-536870912 ≤ a1 ∧ a1 ≤ 536870912)) ∨ (z = 0 ∧ ¬ (-536870912 ≤ a1 ∧ a1 ≤ 536870912)))) 0 0 (fun _ => False) := by
  refine Met.ofW (cc := bW_isPlace) (maxL := 1) (ret := (some .boolean)) (by decide +kernel) rfl ?_
  intro p e s m args below meth c s₁ B hml hv
  obtain ⟨rfl, hP, hKW⟩ := hv
  have hK := hKW.1
  have hN := hKW.2.2
  have hx := B.exec
  have hb := B.bytes
  have hr := B.returns
  have hts := atoms_spec (ws := wW_isPlace) B.pre
  have hown : s.vm.findClass "WindingRaster" = some m.cls := findClass_of_methodNamed B.named
  have hlocks := B.notSynchronized
  have hP : va_P D vwCl [] s.heap := hP
  have kc_137 := (hts _ (List.mem_cons_of_mem _ vm_98))
  have kc_138 := (hts _ (List.mem_cons_of_mem _ vm_99))
  have hl := lv_entry ([.int (iI a1)]) (n := 1) (Nat.le_of_ble_eq_true rfl)
  rw [lg_entry_eq]
  generalize (lg_sl ([.int (iI a1)]) ++ List.replicate (1 - (lg_sl ([.int (iI a1)])).length) Slot.unset).toArray = ls at hl ⊢
  have hl : lv_has ls 1 [(0, .int (iI a1))] := hl
  generalize hQ : MQ below (qI (fun z => (z = 1 ∧ (-536870912 ≤ a1 ∧ a1 ≤ 536870912)) ∨ (z = 0 ∧ ¬ (-536870912 ≤ a1 ∧ a1 ≤ 536870912)))) [.int (iI a1)].toArray s 0 0 (fun _ => False) = QQ
  refine lv_iload_n hx hb dW_isPlace_0 rfl (lv_at hl 0 rfl) ?_
  refine ii_ldc (n := (-536870912)) hx hb hown kc_137 dW_isPlace_1 (by decide +kernel) ?_
  refine ii_icmp_lt (tgt := 16) hx hb dW_isPlace_3 (by decide) (by omega) (by omega) (fun c3 => ?_) (fun c3 => ?_)
  · refine ii_iconst (n := 0) hx hb dW_isPlace_16 ?_
    rw [← hQ]
    exact rd_zret hx hb hr hlocks (nar_b (by omega)) (by omega) dW_isPlace_17
  · refine lv_iload_n hx hb dW_isPlace_6 rfl (lv_at hl 0 rfl) ?_
    refine ii_ldc (n := 536870912) hx hb hown kc_138 dW_isPlace_7 (by decide +kernel) ?_
    refine ii_icmp_gt (tgt := 16) hx hb dW_isPlace_9 (by decide) (by omega) (by omega) (fun c9 => ?_) (fun c9 => ?_)
    · refine ii_iconst (n := 0) hx hb dW_isPlace_16 ?_
      rw [← hQ]
      exact rd_zret hx hb hr hlocks (nar_b (by omega)) (by omega) dW_isPlace_17
    · refine ii_iconst (n := 1) hx hb dW_isPlace_12 ?_
      refine lv_goto (tgt := 17) hx hb dW_isPlace_13 (by decide) ?_
      rw [← hQ]
      exact rd_zret hx hb hr hlocks (nar_b (by omega)) (by omega) dW_isPlace_17

def rm_c_isRule : Room := { frames := 0, cells := 0, slots := 0, locals := 0 }
set_option maxHeartbeats 4000000 in
set_option maxRecDepth 100000 in
theorem c_isRule (l : Launch) (D : va_G) (cA cB cS : ClassId) (a1 : Int) (h1 : i32 a1) : Met l yW_isRule wW_isRule rm_c_isRule (pR [.int (iI a1)] D vwCl (vwTy cA cB cS) vwNw []) (qI (fun z => (z = 1 ∧ (a1 = 0 ∨ a1 = 1)) ∨ (z = 0 ∧ ¬ (a1 = 0 ∨ a1 = 1)))) 0 0 (fun _ => False) := by
  refine Met.ofW (cc := bW_isRule) (maxL := 1) (ret := (some .boolean)) (by decide +kernel) rfl ?_
  intro p e s m args below meth c s₁ B hml hv
  obtain ⟨rfl, hP, hKW⟩ := hv
  have hK := hKW.1
  have hN := hKW.2.2
  have hx := B.exec
  have hb := B.bytes
  have hr := B.returns
  have hts := atoms_spec (ws := wW_isRule) B.pre
  have hown : s.vm.findClass "WindingRaster" = some m.cls := findClass_of_methodNamed B.named
  have hlocks := B.notSynchronized
  have hP : va_P D vwCl [] s.heap := hP
  have hl := lv_entry ([.int (iI a1)]) (n := 1) (Nat.le_of_ble_eq_true rfl)
  rw [lg_entry_eq]
  generalize (lg_sl ([.int (iI a1)]) ++ List.replicate (1 - (lg_sl ([.int (iI a1)])).length) Slot.unset).toArray = ls at hl ⊢
  have hl : lv_has ls 1 [(0, .int (iI a1))] := hl
  generalize hQ : MQ below (qI (fun z => (z = 1 ∧ (a1 = 0 ∨ a1 = 1)) ∨ (z = 0 ∧ ¬ (a1 = 0 ∨ a1 = 1)))) [.int (iI a1)].toArray s 0 0 (fun _ => False) = QQ
  refine lv_iload_n hx hb dW_isRule_0 rfl (lv_at hl 0 rfl) ?_
  refine ii_if_eq (tgt := 9) hx hb dW_isRule_1 (by decide) (by omega) (fun c1 => ?_) (fun c1 => ?_)
  · refine ii_iconst (n := 1) hx hb dW_isRule_9 ?_
    refine lv_goto (tgt := 14) hx hb dW_isRule_10 (by decide) ?_
    rw [← hQ]
    exact rd_zret hx hb hr hlocks (nar_b (by omega)) (by omega) dW_isRule_14
  · refine lv_iload_n hx hb dW_isRule_4 rfl (lv_at hl 0 rfl) ?_
    refine ii_iconst (n := 1) hx hb dW_isRule_5 ?_
    refine ii_icmp_ne (tgt := 13) hx hb dW_isRule_6 (by decide) (by omega) (by omega) (fun c6 => ?_) (fun c6 => ?_)
    · refine ii_iconst (n := 0) hx hb dW_isRule_13 ?_
      rw [← hQ]
      exact rd_zret hx hb hr hlocks (nar_b (by omega)) (by omega) dW_isRule_14
    · refine ii_iconst (n := 1) hx hb dW_isRule_9 ?_
      refine lv_goto (tgt := 14) hx hb dW_isRule_10 (by decide) ?_
      rw [← hQ]
      exact rd_zret hx hb hr hlocks (nar_b (by omega)) (by omega) dW_isRule_14

def rm_c_isGray : Room := { frames := 0, cells := 0, slots := 0, locals := 0 }
set_option maxHeartbeats 4000000 in
set_option maxRecDepth 100000 in
theorem c_isGray (l : Launch) (D : va_G) (cA cB cS : ClassId) (a1 : Int) (h1 : i32 a1) : Met l yW_isGray wW_isGray rm_c_isGray (pR [.int (iI a1)] D vwCl (vwTy cA cB cS) vwNw []) (qI (fun z => (z = 1 ∧ (0 ≤ a1 ∧ a1 ≤ 255)) ∨ (z = 0 ∧ ¬ (0 ≤ a1 ∧ a1 ≤ 255)))) 0 0 (fun _ => False) := by
  refine Met.ofW (cc := bW_isGray) (maxL := 1) (ret := (some .boolean)) (by decide +kernel) rfl ?_
  intro p e s m args below meth c s₁ B hml hv
  obtain ⟨rfl, hP, hKW⟩ := hv
  have hK := hKW.1
  have hN := hKW.2.2
  have hx := B.exec
  have hb := B.bytes
  have hr := B.returns
  have hts := atoms_spec (ws := wW_isGray) B.pre
  have hown : s.vm.findClass "WindingRaster" = some m.cls := findClass_of_methodNamed B.named
  have hlocks := B.notSynchronized
  have hP : va_P D vwCl [] s.heap := hP
  have hl := lv_entry ([.int (iI a1)]) (n := 1) (Nat.le_of_ble_eq_true rfl)
  rw [lg_entry_eq]
  generalize (lg_sl ([.int (iI a1)]) ++ List.replicate (1 - (lg_sl ([.int (iI a1)])).length) Slot.unset).toArray = ls at hl ⊢
  have hl : lv_has ls 1 [(0, .int (iI a1))] := hl
  generalize hQ : MQ below (qI (fun z => (z = 1 ∧ (0 ≤ a1 ∧ a1 ≤ 255)) ∨ (z = 0 ∧ ¬ (0 ≤ a1 ∧ a1 ≤ 255)))) [.int (iI a1)].toArray s 0 0 (fun _ => False) = QQ
  refine lv_iload_n hx hb dW_isGray_0 rfl (lv_at hl 0 rfl) ?_
  refine ii_if_lt (tgt := 15) hx hb dW_isGray_1 (by decide) (by omega) (fun c1 => ?_) (fun c1 => ?_)
  · refine ii_iconst (n := 0) hx hb dW_isGray_15 ?_
    rw [← hQ]
    exact rd_zret hx hb hr hlocks (nar_b (by omega)) (by omega) dW_isGray_16
  · refine lv_iload_n hx hb dW_isGray_4 rfl (lv_at hl 0 rfl) ?_
    refine ii_sipush (n := 255) hx hb dW_isGray_5 (by decide +kernel) ?_
    refine ii_icmp_gt (tgt := 15) hx hb dW_isGray_8 (by decide) (by omega) (by omega) (fun c8 => ?_) (fun c8 => ?_)
    · refine ii_iconst (n := 0) hx hb dW_isGray_15 ?_
      rw [← hQ]
      exact rd_zret hx hb hr hlocks (nar_b (by omega)) (by omega) dW_isGray_16
    · refine ii_iconst (n := 1) hx hb dW_isGray_11 ?_
      refine lv_goto (tgt := 16) hx hb dW_isGray_12 (by decide) ?_
      rw [← hQ]
      exact rd_zret hx hb hr hlocks (nar_b (by omega)) (by omega) dW_isGray_16

def rm_c_isInside : Room := { frames := 0, cells := 0, slots := 0, locals := 0 }
set_option maxHeartbeats 4000000 in
set_option maxRecDepth 100000 in
theorem c_isInside (l : Launch) (D : va_G) (cA cB cS : ClassId) (a1 : Int) (a2 : Int) (h1 : i32 a1) (h2 : i32 a2) : Met l yW_isInside wW_isInside rm_c_isInside (pR [.int (iI a1), .int (iI a2)] D vwCl (vwTy cA cB cS) vwNw []) (qI (fun z => (z = 1 ∧ ((a2 = 0 ∧ ¬ a1 = 0) ∨ (¬ a2 = 0 ∧ ¬ a1 % 2 = 0))) ∨ (z = 0 ∧ ¬ ((a2 = 0 ∧ ¬ a1 = 0) ∨ (¬ a2 = 0 ∧ ¬ a1 % 2 = 0))))) 0 0 (fun _ => False) := by
  refine Met.ofW (cc := bW_isInside) (maxL := 2) (ret := (some .boolean)) (by decide +kernel) rfl ?_
  intro p e s m args below meth c s₁ B hml hv
  obtain ⟨rfl, hP, hKW⟩ := hv
  have hK := hKW.1
  have hN := hKW.2.2
  have hx := B.exec
  have hb := B.bytes
  have hr := B.returns
  have hts := atoms_spec (ws := wW_isInside) B.pre
  have hown : s.vm.findClass "WindingRaster" = some m.cls := findClass_of_methodNamed B.named
  have hlocks := B.notSynchronized
  have hP : va_P D vwCl [] s.heap := hP
  have hl := lv_entry ([.int (iI a1), .int (iI a2)]) (n := 2) (Nat.le_of_ble_eq_true rfl)
  rw [lg_entry_eq]
  generalize (lg_sl ([.int (iI a1), .int (iI a2)]) ++ List.replicate (2 - (lg_sl ([.int (iI a1), .int (iI a2)])).length) Slot.unset).toArray = ls at hl ⊢
  have hl : lv_has ls 2 [(0, .int (iI a1)), (1, .int (iI a2))] := hl
  generalize hQ : MQ below (qI (fun z => (z = 1 ∧ ((a2 = 0 ∧ ¬ a1 = 0) ∨ (¬ a2 = 0 ∧ ¬ a1 % 2 = 0))) ∨ (z = 0 ∧ ¬ ((a2 = 0 ∧ ¬ a1 = 0) ∨ (¬ a2 = 0 ∧ ¬ a1 % 2 = 0))))) [.int (iI a1), .int (iI a2)].toArray s 0 0 (fun _ => False) = QQ
  refine lv_iload_n hx hb dW_isInside_0 rfl (lv_at hl 1 rfl) ?_
  refine ii_if_ne (tgt := 16) hx hb dW_isInside_1 (by decide) (by omega) (fun c1 => ?_) (fun c1 => ?_)
  · refine lv_iload_n hx hb dW_isInside_16 rfl (lv_at hl 0 rfl) ?_
    refine ii_iconst (n := 1) hx hb dW_isInside_17 ?_
    refine ii_iand (z := a1 % 2) hx hb dW_isInside_18 (iI_and1 _) ?_
    refine ii_if_eq (tgt := 26) hx hb dW_isInside_19 (by decide) (by omega) (fun c19 => ?_) (fun c19 => ?_)
    · refine ii_iconst (n := 0) hx hb dW_isInside_26 ?_
      rw [← hQ]
      exact rd_zret hx hb hr hlocks (nar_b (by omega)) (by omega) dW_isInside_27
    · refine ii_iconst (n := 1) hx hb dW_isInside_22 ?_
      refine lv_goto (tgt := 27) hx hb dW_isInside_23 (by decide) ?_
      rw [← hQ]
      exact rd_zret hx hb hr hlocks (nar_b (by omega)) (by omega) dW_isInside_27
  · refine lv_iload_n hx hb dW_isInside_4 rfl (lv_at hl 0 rfl) ?_
    refine ii_if_eq (tgt := 12) hx hb dW_isInside_5 (by decide) (by omega) (fun c5 => ?_) (fun c5 => ?_)
    · refine ii_iconst (n := 0) hx hb dW_isInside_12 ?_
      refine lv_goto (tgt := 27) hx hb dW_isInside_13 (by decide) ?_
      rw [← hQ]
      exact rd_zret hx hb hr hlocks (nar_b (by omega)) (by omega) dW_isInside_27
    · refine ii_iconst (n := 1) hx hb dW_isInside_8 ?_
      refine lv_goto (tgt := 27) hx hb dW_isInside_9 (by decide) ?_
      rw [← hQ]
      exact rd_zret hx hb hr hlocks (nar_b (by omega)) (by omega) dW_isInside_27
