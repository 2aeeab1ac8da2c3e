def rm_c_columns : Room := { frames := 0, cells := 0, slots := 0, locals := 0 }
set_option maxHeartbeats 4000000 in
set_option maxRecDepth 100000 in
theorem c_columns (l : Launch) (D : va_G) (cA cB cS : ClassId) (wr : Nat) (cs : Nat) (rs : Nat) (ag : Nat) (oo : Nat) (cp : Nat) (aw : Nat) (pl : Nat) : Met l yW_columns wW_columns rm_c_columns (pR [.ref wr] D vwCl (vwTy cA cB cS) vwNw [(wr, .inr (0, [.int (iI (cs : Int)), .int (iI (rs : Int)), .ref ag, .ref oo, .ref cp, .ref aw, .ref pl]))]) (qI (fun z => z = (cs : Int))) 0 0 (fun _ => False) := by
  refine Met.ofW (cc := bW_columns) (maxL := 1) (ret := (some .int)) (by decide +kernel) rfl ?_
  intro p e s m args below meth c s₁ B hml hv
  obtain ⟨rfl, hP, hKW⟩ := hv
  have hK := hKW.1
  have hN := hKW.2.2
  have hx := B.exec
  have hb := B.bytes
  have hr := B.returns
  have hts := atoms_spec (ws := wW_columns) B.pre
  have hown : s.vm.findClass "WindingRaster" = some m.cls := findClass_of_methodNamed B.named
  have hlocks := B.notSynchronized
  have hP : va_P D vwCl [(wr, .inr (0, [.int (iI (cs : Int)), .int (iI (rs : Int)), .ref ag, .ref oo, .ref cp, .ref aw, .ref pl]))] s.heap := hP
  have in_0 : ∀ w ∈ wsW, w ∈ wW_columns := fun w h => List.mem_cons_of_mem _ (in0_W w h)
  have fl_18 := (hts _ (List.mem_cons_of_mem _ vm_69))
  have hl := lv_entry ([.ref wr]) (n := 1) (Nat.le_of_ble_eq_true rfl)
  rw [lg_entry_eq]
  generalize (lg_sl ([.ref wr]) ++ List.replicate (1 - (lg_sl ([.ref wr])).length) Slot.unset).toArray = ls at hl ⊢
  have hl : lv_has ls 1 [(0, .ref wr)] := hl
  generalize hQ : MQ below (qI (fun z => z = (cs : Int))) [.ref wr].toArray s 0 0 (fun _ => False) = QQ
  refine lv_aload_n hx hb dW_columns_0 rfl (lv_at hl 0 rfl) ?_
  refine va_get (ci := 0) (v := .int (iI (cs : Int))) (C := "WindingRaster") (T := TW) (N := 7) hx hb hts in_0 hown hK hP 0 rfl rfl 0 (by decide) fl_18 (fun _ h9 => h9) rfl dW_columns_1 ?_
  rw [← hQ]
  exact rd_iret hx hb hr hlocks rfl dW_columns_4

def rm_c_rows : Room := { frames := 0, cells := 0, slots := 0, locals := 0 }
set_option maxHeartbeats 4000000 in
set_option maxRecDepth 100000 in
theorem c_rows (l : Launch) (D : va_G) (cA cB cS : ClassId) (wr : Nat) (cs : Nat) (rs : Nat) (ag : Nat) (oo : Nat) (cp : Nat) (aw : Nat) (pl : Nat) : Met l yW_rows wW_rows rm_c_rows (pR [.ref wr] D vwCl (vwTy cA cB cS) vwNw [(wr, .inr (0, [.int (iI (cs : Int)), .int (iI (rs : Int)), .ref ag, .ref oo, .ref cp, .ref aw, .ref pl]))]) (qI (fun z => z = (rs : Int))) 0 0 (fun _ => False) := by
  refine Met.ofW (cc := bW_rows) (maxL := 1) (ret := (some .int)) (by decide +kernel) rfl ?_
  intro p e s m args below meth c s₁ B hml hv
  obtain ⟨rfl, hP, hKW⟩ := hv
  have hK := hKW.1
  have hN := hKW.2.2
  have hx := B.exec
  have hb := B.bytes
  have hr := B.returns
  have hts := atoms_spec (ws := wW_rows) B.pre
  have hown : s.vm.findClass "WindingRaster" = some m.cls := findClass_of_methodNamed B.named
  have hlocks := B.notSynchronized
  have hP : va_P D vwCl [(wr, .inr (0, [.int (iI (cs : Int)), .int (iI (rs : Int)), .ref ag, .ref oo, .ref cp, .ref aw, .ref pl]))] s.heap := hP
  have in_0 : ∀ w ∈ wsW, w ∈ wW_rows := fun w h => List.mem_cons_of_mem _ (in0_W w h)
  have fl_22 := (hts _ (List.mem_cons_of_mem _ vm_70))
  have hl := lv_entry ([.ref wr]) (n := 1) (Nat.le_of_ble_eq_true rfl)
  rw [lg_entry_eq]
  generalize (lg_sl ([.ref wr]) ++ List.replicate (1 - (lg_sl ([.ref wr])).length) Slot.unset).toArray = ls at hl ⊢
  have hl : lv_has ls 1 [(0, .ref wr)] := hl
  generalize hQ : MQ below (qI (fun z => z = (rs : Int))) [.ref wr].toArray s 0 0 (fun _ => False) = QQ
  refine lv_aload_n hx hb dW_rows_0 rfl (lv_at hl 0 rfl) ?_
  refine va_get (ci := 0) (v := .int (iI (rs : Int))) (C := "WindingRaster") (T := TW) (N := 7) hx hb hts in_0 hown hK hP 0 rfl rfl 1 (by decide) fl_22 (fun _ h9 => h9) rfl dW_rows_1 ?_
  rw [← hQ]
  exact rd_iret hx hb hr hlocks rfl dW_rows_4

def rm_c_move : Room := { frames := 3, cells := 0, slots := 0, locals := 64 }
set_option maxHeartbeats 4000000 in
set_option maxRecDepth 100000 in
theorem c_move (l : Launch) (D : va_G) (cA cB cS : ClassId) (wr : Nat) (cs : Nat) (rs : Nat) (ag : Nat) (oo : Nat) (cp : Nat) (aw : Nat) (pl : Nat) (ax : Nat) (ay : Nat) (an : Nat) (fX : Nat → Int) (fY : Nat → Int) (fN : Nat → Int) (np : Nat) (l0 : Nat) (a1 : Int) (a2 : Int) (h1 : i32 a1) (h2 : i32 a2) (h3 : np ≤ 4096) (sz : Nat) : Met l yW_move wW_move rm_c_move (pW [.ref wr, .int (iI a1), .int (iI a2)] D vwCl (vwTy cA cB cS) vwNw [(wr, .inr (0, [.int (iI (cs : Int)), .int (iI (rs : Int)), .ref ag, .ref oo, .ref cp, .ref aw, .ref pl])), (oo, .inr (1, [.ref ax, .ref ay, .ref an, .int (iI (np : Int)), .int (iI (l0 : Int))])), (ax, .inl (cA, 4096, .inl (iA fX))), (ay, .inl (cA, 4096, .inl (iA fY))), (an, .inl (cA, 4096, .inl (iA fN)))] sz) (qW (S := (Nat → Int) × (Nat → Int) × (Nat → Int) × Nat × Nat) (fun (z : Int) (u : (Nat → Int) × (Nat → Int) × (Nat → Int) × Nat × Nat) => (z = -1 ∧ ¬ (-536870912 ≤ a1 ∧ a1 ≤ 536870912 ∧ -536870912 ≤ a2 ∧ a2 ≤ 536870912) ∧ u.1 = fX ∧ u.2.1 = fY ∧ u.2.2.1 = fN ∧ u.2.2.2.1 = np ∧ u.2.2.2.2 = l0) ∨ (z = -3 ∧ (-536870912 ≤ a1 ∧ a1 ≤ 536870912 ∧ -536870912 ≤ a2 ∧ a2 ≤ 536870912) ∧ 4096 ≤ np ∧ u.1 = fX ∧ u.2.1 = fY ∧ u.2.2.1 = fN ∧ u.2.2.2.1 = np ∧ u.2.2.2.2 = l0) ∨ (z = ((np + 1 : Nat) : Int) ∧ (-536870912 ≤ a1 ∧ a1 ≤ 536870912 ∧ -536870912 ≤ a2 ∧ a2 ≤ 536870912) ∧ np < 4096 ∧ u.1 = uZ fX np a1 ∧ u.2.1 = uZ fY np a2 ∧ u.2.2.1 = uZ fN np (np : Int) ∧ u.2.2.2.1 = np + 1 ∧ u.2.2.2.2 = np)) D vwCl [(wr, .inr (0, [.int (iI (cs : Int)), .int (iI (rs : Int)), .ref ag, .ref oo, .ref cp, .ref aw, .ref pl])), (oo, .inr (1, [.ref ax, .ref ay, .ref an, .int (iI (np : Int)), .int (iI (l0 : Int))])), (ax, .inl (cA, 4096, .inl (iA fX))), (ay, .inl (cA, 4096, .inl (iA fY))), (an, .inl (cA, 4096, .inl (iA fN)))] sz (fun u : (Nat → Int) × (Nat → Int) × (Nat → Int) × Nat × Nat => [(wr, .inr (0, [.int (iI (cs : Int)), .int (iI (rs : Int)), .ref ag, .ref oo, .ref cp, .ref aw, .ref pl])), (oo, .inr (1, [.ref ax, .ref ay, .ref an, .int (iI ((u.2.2.2.1 : Nat) : Int)), .int (iI ((u.2.2.2.2 : Nat) : Int))])), (ax, .inl (cA, 4096, .inl (iA u.1))), (ay, .inl (cA, 4096, .inl (iA u.2.1))), (an, .inl (cA, 4096, .inl (iA u.2.2.1)))])) 0 0 (va_A [(wr, .inr (0, [.int (iI (cs : Int)), .int (iI (rs : Int)), .ref ag, .ref oo, .ref cp, .ref aw, .ref pl])), (oo, .inr (1, [.ref ax, .ref ay, .ref an, .int (iI (np : Int)), .int (iI (l0 : Int))])), (ax, .inl (cA, 4096, .inl (iA fX))), (ay, .inl (cA, 4096, .inl (iA fY))), (an, .inl (cA, 4096, .inl (iA fN)))] sz) := by
  refine Met.ofW (cc := bW_move) (maxL := 3) (ret := (some .int)) (by decide +kernel) rfl ?_
  intro p e s m args below meth c s₁ B hml hv
  obtain ⟨rfl, hsz, hP, hKW, hD0⟩ := hv
  have hK := hKW.1
  have hN := hKW.2.2
  have hx := B.exec
  have hb := B.bytes
  have hr := B.returns
  have hts := atoms_spec (ws := wW_move) B.pre
  have hown : s.vm.findClass "WindingRaster" = some m.cls := findClass_of_methodNamed B.named
  have hlocks := B.notSynchronized
  subst hsz
  have hD := hD0.self (sz := s.heap.size)
  obtain ⟨A, hAe⟩ : ∃ A, va_A [(wr, .inr (0, [.int (iI (cs : Int)), .int (iI (rs : Int)), .ref ag, .ref oo, .ref cp, .ref aw, .ref pl])), (oo, .inr (1, [.ref ax, .ref ay, .ref an, .int (iI (np : Int)), .int (iI (l0 : Int))])), (ax, .inl (cA, 4096, .inl (iA fX))), (ay, .inl (cA, 4096, .inl (iA fY))), (an, .inl (cA, 4096, .inl (iA fN)))] s.heap.size = A := ⟨_, rfl⟩
  rw [hAe] at hD
  have hA : ∀ q : Nat, s.heap.size ≤ q → A q := fun q h => by rw [← hAe]; exact Or.inr h
  have hS : va_S A s.heap s.heap [] := va_S.rf
  have hP : va_P D vwCl [(wr, .inr (0, [.int (iI (cs : Int)), .int (iI (rs : Int)), .ref ag, .ref oo, .ref cp, .ref aw, .ref pl])), (oo, .inr (1, [.ref ax, .ref ay, .ref an, .int (iI (np : Int)), .int (iI (l0 : Int))])), (ax, .inl (cA, 4096, .inl (iA fX))), (ay, .inl (cA, 4096, .inl (iA fY))), (an, .inl (cA, 4096, .inl (iA fN)))] s.heap := hP
  have in_0 : ∀ w ∈ wsW, w ∈ wW_move := fun w h => List.mem_cons_of_mem _ (in0_W w h)
  have fl_38 := (hts _ (List.mem_cons_of_mem _ vm_72))
  have in_1 : ∀ w ∈ wsO, w ∈ wW_move := fun w h => List.mem_cons_of_mem _ (in0_O w h)
  have fl_74 := va_Nw.use (A := [.ref wr, .int (iI a1), .int (iI a2)].toArray) rfl (hN _ vn_1)
  have hl := lv_entry ([.ref wr, .int (iI a1), .int (iI a2)]) (n := 3) (Nat.le_of_ble_eq_true rfl)
  rw [lg_entry_eq]
  generalize (lg_sl ([.ref wr, .int (iI a1), .int (iI a2)]) ++ List.replicate (3 - (lg_sl ([.ref wr, .int (iI a1), .int (iI a2)])).length) Slot.unset).toArray = ls at hl ⊢
  have hl : lv_has ls 3 [(0, .ref wr), (1, .int (iI a1)), (2, .int (iI a2))] := hl
  generalize hQ : MQ below (qW (S := (Nat → Int) × (Nat → Int) × (Nat → Int) × Nat × Nat) (fun (z : Int) (u : (Nat → Int) × (Nat → Int) × (Nat → Int) × Nat × Nat) => (z = -1 ∧ ¬ (-536870912 ≤ a1 ∧ a1 ≤ 536870912 ∧ -536870912 ≤ a2 ∧ a2 ≤ 536870912) ∧ u.1 = fX ∧ u.2.1 = fY ∧ u.2.2.1 = fN ∧ u.2.2.2.1 = np ∧ u.2.2.2.2 = l0) ∨ (z = -3 ∧ (-536870912 ≤ a1 ∧ a1 ≤ 536870912 ∧ -536870912 ≤ a2 ∧ a2 ≤ 536870912) ∧ 4096 ≤ np ∧ u.1 = fX ∧ u.2.1 = fY ∧ u.2.2.1 = fN ∧ u.2.2.2.1 = np ∧ u.2.2.2.2 = l0) ∨ (z = ((np + 1 : Nat) : Int) ∧ (-536870912 ≤ a1 ∧ a1 ≤ 536870912 ∧ -536870912 ≤ a2 ∧ a2 ≤ 536870912) ∧ np < 4096 ∧ u.1 = uZ fX np a1 ∧ u.2.1 = uZ fY np a2 ∧ u.2.2.1 = uZ fN np (np : Int) ∧ u.2.2.2.1 = np + 1 ∧ u.2.2.2.2 = np)) D vwCl [(wr, .inr (0, [.int (iI (cs : Int)), .int (iI (rs : Int)), .ref ag, .ref oo, .ref cp, .ref aw, .ref pl])), (oo, .inr (1, [.ref ax, .ref ay, .ref an, .int (iI (np : Int)), .int (iI (l0 : Int))])), (ax, .inl (cA, 4096, .inl (iA fX))), (ay, .inl (cA, 4096, .inl (iA fY))), (an, .inl (cA, 4096, .inl (iA fN)))] s.heap.size (fun u : (Nat → Int) × (Nat → Int) × (Nat → Int) × Nat × Nat => [(wr, .inr (0, [.int (iI (cs : Int)), .int (iI (rs : Int)), .ref ag, .ref oo, .ref cp, .ref aw, .ref pl])), (oo, .inr (1, [.ref ax, .ref ay, .ref an, .int (iI ((u.2.2.2.1 : Nat) : Int)), .int (iI ((u.2.2.2.2 : Nat) : Int))])), (ax, .inl (cA, 4096, .inl (iA u.1))), (ay, .inl (cA, 4096, .inl (iA u.2.1))), (an, .inl (cA, 4096, .inl (iA u.2.2.1)))])) [.ref wr, .int (iI a1), .int (iI a2)].toArray s 0 0 (va_A [(wr, .inr (0, [.int (iI (cs : Int)), .int (iI (rs : Int)), .ref ag, .ref oo, .ref cp, .ref aw, .ref pl])), (oo, .inr (1, [.ref ax, .ref ay, .ref an, .int (iI (np : Int)), .int (iI (l0 : Int))])), (ax, .inl (cA, 4096, .inl (iA fX))), (ay, .inl (cA, 4096, .inl (iA fY))), (an, .inl (cA, 4096, .inl (iA fN)))] s.heap.size) = QQ
  refine lv_iload_n hx hb dW_move_0 rfl (lv_at hl 1 rfl) ?_
  refine cs_i (va_runS (As := [.int (iI a1)]) (rest := []) ⟨hx, hb, hml, hown, hts⟩ (c_isPlace l D cA cB cS a1 (by omega)) ⟨(callB_of 1 hts (gIn vm_97) rfl rfl rfl (hts _ (List.mem_cons_of_mem _ vm_1)) (hts _ (List.mem_cons_of_mem _ vm_95)) (by decide +kernel) ⟨Nat.le_of_ble_eq_true rfl, Nat.le_of_ble_eq_true rfl⟩), (hts _ (List.mem_cons_of_mem _ vm_96))⟩ (pR.pre (hP.sub [] rfl) hKW) rfl rfl hl.1 rfl (lv_room (Nat.le_of_ble_eq_true rfl)) dW_move_1 ⟨Nat.le_of_ble_eq_true rfl, Nat.le_of_ble_eq_true rfl⟩) (fun z_1 hz_1 => ?_)
  refine ii_if_eq (tgt := 14) hx hb dW_move_4 (by decide) (by omega) (fun c4 => ?_) (fun c4 => ?_)
  · refine ii_iconst (n := (-1)) hx hb dW_move_14 ?_
    rw [← hQ]
    exact wr_iret (fX, fY, fN, np, l0) hx hb hr hlocks hAe (hP.sub [0, 1, 2, 3, 4] rfl) (hD.sub [0, 1, 2, 3, 4] (by decide) rfl) hS (Or.inl ⟨rfl, by omega, rfl, rfl, rfl, rfl, rfl⟩) dW_move_15
  · refine lv_iload_n hx hb dW_move_7 rfl (lv_at hl 2 rfl) ?_
    refine cs_i (va_runS (As := [.int (iI a2)]) (rest := []) ⟨hx, hb, hml, hown, hts⟩ (c_isPlace l D cA cB cS a2 (by omega)) ⟨(callB_of 1 hts (gIn vm_97) rfl rfl rfl (hts _ (List.mem_cons_of_mem _ vm_1)) (hts _ (List.mem_cons_of_mem _ vm_95)) (by decide +kernel) ⟨Nat.le_of_ble_eq_true rfl, Nat.le_of_ble_eq_true rfl⟩), (hts _ (List.mem_cons_of_mem _ vm_96))⟩ (pR.pre (hP.sub [] rfl) hKW) rfl rfl hl.1 rfl (lv_room (Nat.le_of_ble_eq_true rfl)) dW_move_8 ⟨Nat.le_of_ble_eq_true rfl, Nat.le_of_ble_eq_true rfl⟩) (fun z_2 hz_2 => ?_)
    refine ii_if_ne (tgt := 16) hx hb dW_move_11 (by decide) (by omega) (fun c11 => ?_) (fun c11 => ?_)
    · refine lv_aload_n hx hb dW_move_16 rfl (lv_at hl 0 rfl) ?_
      refine va_get (ci := 0) (v := .ref oo) (C := "WindingRaster") (T := TW) (N := 7) hx hb hts in_0 hown hK hP 0 rfl rfl 3 (by decide) fl_38 (fun _ h9 => h9) rfl dW_move_17 ?_
      refine cs_i (va_runVN (As := []) (rest := []) ⟨hx, hb, hml, hown, hts⟩ (c_isFull l D cA cB cS oo ax ay an fX fY fN np l0 (by omega)) ⟨(va_cnB 0 hts (gIn vm_101) rfl rfl rfl (hN _ vn_12) (hts _ (List.mem_cons_of_mem _ vm_4)) (by decide +kernel) ⟨Nat.le_of_ble_eq_true rfl, Nat.le_of_ble_eq_true rfl⟩), (hts _ (List.mem_cons_of_mem _ vm_100)), (hts _ (List.mem_cons_of_mem _ vm_396))⟩ (pR.preV (va_recv hK hP (ci := 1) (q0 := 1) rfl rfl) (hP.sub [1, 2, 3, 4] rfl) hKW) rfl rfl hl.1 rfl (lv_room (Nat.le_of_ble_eq_true rfl)) dW_move_20 ⟨Nat.le_of_ble_eq_true rfl, Nat.le_of_ble_eq_true rfl⟩) (fun z_3 hz_3 => ?_)
      refine ii_if_eq (tgt := 29) hx hb dW_move_23 (by decide) (by omega) (fun c23 => ?_) (fun c23 => ?_)
      · refine lv_aload_n hx hb dW_move_29 rfl (lv_at hl 0 rfl) ?_
        refine va_get (ci := 0) (v := .ref oo) (C := "WindingRaster") (T := TW) (N := 7) hx hb hts in_0 hown hK hP 0 rfl rfl 3 (by decide) fl_38 (fun _ h9 => h9) rfl dW_move_30 ?_
        refine lv_iload_n hx hb dW_move_33 rfl (lv_at hl 1 rfl) ?_
        refine lv_iload_n hx hb dW_move_34 rfl (lv_at hl 2 rfl) ?_
        refine cw_v (wc := [(oo, .inr (1, [.ref ax, .ref ay, .ref an, .int (iI (np : Int)), .int (iI (l0 : Int))])), (ax, .inl (cA, 4096, .inl (iA fX))), (ay, .inl (cA, 4096, .inl (iA fY))), (an, .inl (cA, 4096, .inl (iA fN)))]) (wr := [(wr, .inr (0, [.int (iI (cs : Int)), .int (iI (rs : Int)), .ref ag, .ref oo, .ref cp, .ref aw, .ref pl]))]) hP hD hS hA [1, 2, 3, 4] [0] rfl rfl (by decide) (by decide) (va_runVN (As := [.int (iI a1), .int (iI a2)]) (rest := []) ⟨hx, hb, hml, hown, hts⟩ (c_begin l D cA cB cS oo ax ay an fX fY fN np l0 a1 a2 (by omega) _) ⟨(va_cnB 2 hts (gIn vm_103) rfl rfl rfl (hN _ vn_13) (hts _ (List.mem_cons_of_mem _ vm_4)) (by decide +kernel) ⟨Nat.le_of_ble_eq_true rfl, Nat.le_of_ble_eq_true rfl⟩), (hts _ (List.mem_cons_of_mem _ vm_102)), (hts _ (List.mem_cons_of_mem _ vm_397))⟩ (pW.preV (va_recv hK hP (ci := 1) (q0 := 1) rfl rfl) (hP.sub [1, 2, 3, 4] rfl) (hD.sub [1, 2, 3, 4] (by decide) rfl) hKW) rfl rfl hl.1 rfl (lv_room (Nat.le_of_ble_eq_true rfl)) dW_move_35 ⟨Nat.le_of_ble_eq_true rfl, Nat.le_of_ble_eq_true rfl⟩) (fun u_5 H locs hz_4 hP hD hS => ?_)
        have hP : va_P D vwCl [(wr, .inr (0, [.int (iI (cs : Int)), .int (iI (rs : Int)), .ref ag, .ref oo, .ref cp, .ref aw, .ref pl])), (oo, .inr (1, [.ref ax, .ref ay, .ref an, .int (iI ((np + 1 : Nat) : Int)), .int (iI (np : Int))])), (ax, .inl (cA, 4096, .inl (iA (uZ fX np a1)))), (ay, .inl (cA, 4096, .inl (iA (uZ fY np a2)))), (an, .inl (cA, 4096, .inl (iA (uZ fN np (np : Int)))))] H := hP
        have hD : va_D A [(wr, .inr (0, [.int (iI (cs : Int)), .int (iI (rs : Int)), .ref ag, .ref oo, .ref cp, .ref aw, .ref pl])), (oo, .inr (1, [.ref ax, .ref ay, .ref an, .int (iI ((np + 1 : Nat) : Int)), .int (iI (np : Int))])), (ax, .inl (cA, 4096, .inl (iA (uZ fX np a1)))), (ay, .inl (cA, 4096, .inl (iA (uZ fY np a2)))), (an, .inl (cA, 4096, .inl (iA (uZ fN np (np : Int)))))] := hD
        refine lv_aload_n hx hb dW_move_38 rfl (lv_at hl 0 rfl) ?_
        refine va_get (ci := 0) (v := .ref oo) (C := "WindingRaster") (T := TW) (N := 7) hx hb hts in_0 hown hK hP 0 rfl rfl 3 (by decide) fl_38 (fun _ h9 => h9) rfl dW_move_39 ?_
        refine va_getN (ci := 1) (v := .int (iI ((np + 1 : Nat) : Int))) (C := "WindingRaster$Outline") (T := TO) (N := 5) hx hb hts in_1 hown hK hP 1 rfl rfl 3 (by decide) fl_74 (fun _ h9 => h9) rfl dW_move_42 ?_
        rw [← hQ]
        exact wr_iret (uZ fX np a1, uZ fY np a2, uZ fN np (np : Int), np + 1, np) hx hb hr hlocks hAe (hP.sub [0, 1, 2, 3, 4] rfl) (hD.sub [0, 1, 2, 3, 4] (by decide) rfl) hS (Or.inr (Or.inr ⟨rfl, by omega, by omega, rfl, rfl, rfl, rfl, rfl⟩)) dW_move_45
      · refine ii_bipush (n := (-3)) hx hb dW_move_26 (by decide +kernel) ?_
        rw [← hQ]
        exact wr_iret (fX, fY, fN, np, l0) hx hb hr hlocks hAe (hP.sub [0, 1, 2, 3, 4] rfl) (hD.sub [0, 1, 2, 3, 4] (by decide) rfl) hS (Or.inr (Or.inl ⟨rfl, by omega, by omega, rfl, rfl, rfl, rfl, rfl⟩)) dW_move_28
    · refine ii_iconst (n := (-1)) hx hb dW_move_14 ?_
      rw [← hQ]
      exact wr_iret (fX, fY, fN, np, l0) hx hb hr hlocks hAe (hP.sub [0, 1, 2, 3, 4] rfl) (hD.sub [0, 1, 2, 3, 4] (by decide) rfl) hS (Or.inl ⟨rfl, by omega, rfl, rfl, rfl, rfl, rfl⟩) dW_move_15

def rm_c_line : Room := { frames := 3, cells := 0, slots := 0, locals := 64 }
set_option maxHeartbeats 4000000 in
set_option maxRecDepth 100000 in
theorem c_line (l : Launch) (D : va_G) (cA cB cS : ClassId) (wr : Nat) (cs : Nat) (rs : Nat) (ag : Nat) (oo : Nat) (cp : Nat) (aw : Nat) (pl : Nat) (ax : Nat) (ay : Nat) (an : Nat) (fX : Nat → Int) (fY : Nat → Int) (fN : Nat → Int) (np : Nat) (l0 : Nat) (a1 : Int) (a2 : Int) (h1 : i32 a1) (h2 : i32 a2) (h3 : np ≤ 4096) (sz : Nat) : Met l yW_line wW_line rm_c_line (pW [.ref wr, .int (iI a1), .int (iI a2)] D vwCl (vwTy cA cB cS) vwNw [(wr, .inr (0, [.int (iI (cs : Int)), .int (iI (rs : Int)), .ref ag, .ref oo, .ref cp, .ref aw, .ref pl])), (oo, .inr (1, [.ref ax, .ref ay, .ref an, .int (iI (np : Int)), .int (iI (l0 : Int))])), (ax, .inl (cA, 4096, .inl (iA fX))), (ay, .inl (cA, 4096, .inl (iA fY))), (an, .inl (cA, 4096, .inl (iA fN)))] sz) (qW (S := (Nat → Int) × (Nat → Int) × (Nat → Int) × Nat × Nat) (fun (z : Int) (u : (Nat → Int) × (Nat → Int) × (Nat → Int) × Nat × Nat) => (z = -1 ∧ ¬ (-536870912 ≤ a1 ∧ a1 ≤ 536870912 ∧ -536870912 ≤ a2 ∧ a2 ≤ 536870912) ∧ u.1 = fX ∧ u.2.1 = fY ∧ u.2.2.1 = fN ∧ u.2.2.2.1 = np ∧ u.2.2.2.2 = l0) ∨ (z = -2 ∧ (-536870912 ≤ a1 ∧ a1 ≤ 536870912 ∧ -536870912 ≤ a2 ∧ a2 ≤ 536870912) ∧ np = 0 ∧ u.1 = fX ∧ u.2.1 = fY ∧ u.2.2.1 = fN ∧ u.2.2.2.1 = np ∧ u.2.2.2.2 = l0) ∨ (z = -3 ∧ (-536870912 ≤ a1 ∧ a1 ≤ 536870912 ∧ -536870912 ≤ a2 ∧ a2 ≤ 536870912) ∧ 4096 ≤ np ∧ u.1 = fX ∧ u.2.1 = fY ∧ u.2.2.1 = fN ∧ u.2.2.2.1 = np ∧ u.2.2.2.2 = l0) ∨ (z = ((np + 1 : Nat) : Int) ∧ (-536870912 ≤ a1 ∧ a1 ≤ 536870912 ∧ -536870912 ≤ a2 ∧ a2 ≤ 536870912) ∧ 0 < np ∧ np < 4096 ∧ u.1 = uZ fX np a1 ∧ u.2.1 = uZ fY np a2 ∧ u.2.2.1 = uZ (uZ fN (np - 1) (np : Int)) np (l0 : Int) ∧ u.2.2.2.1 = np + 1 ∧ u.2.2.2.2 = l0)) D vwCl [(wr, .inr (0, [.int (iI (cs : Int)), .int (iI (rs : Int)), .ref ag, .ref oo, .ref cp, .ref aw, .ref pl])), (oo, .inr (1, [.ref ax, .ref ay, .ref an, .int (iI (np : Int)), .int (iI (l0 : Int))])), (ax, .inl (cA, 4096, .inl (iA fX))), (ay, .inl (cA, 4096, .inl (iA fY))), (an, .inl (cA, 4096, .inl (iA fN)))] sz (fun u : (Nat → Int) × (Nat → Int) × (Nat → Int) × Nat × Nat => [(wr, .inr (0, [.int (iI (cs : Int)), .int (iI (rs : Int)), .ref ag, .ref oo, .ref cp, .ref aw, .ref pl])), (oo, .inr (1, [.ref ax, .ref ay, .ref an, .int (iI ((u.2.2.2.1 : Nat) : Int)), .int (iI ((u.2.2.2.2 : Nat) : Int))])), (ax, .inl (cA, 4096, .inl (iA u.1))), (ay, .inl (cA, 4096, .inl (iA u.2.1))), (an, .inl (cA, 4096, .inl (iA u.2.2.1)))])) 0 0 (va_A [(wr, .inr (0, [.int (iI (cs : Int)), .int (iI (rs : Int)), .ref ag, .ref oo, .ref cp, .ref aw, .ref pl])), (oo, .inr (1, [.ref ax, .ref ay, .ref an, .int (iI (np : Int)), .int (iI (l0 : Int))])), (ax, .inl (cA, 4096, .inl (iA fX))), (ay, .inl (cA, 4096, .inl (iA fY))), (an, .inl (cA, 4096, .inl (iA fN)))] sz) := by
  refine Met.ofW (cc := bW_line) (maxL := 3) (ret := (some .int)) (by decide +kernel) rfl ?_
  intro p e s m args below meth c s₁ B hml hv
  obtain ⟨rfl, hsz, hP, hKW, hD0⟩ := hv
  have hK := hKW.1
  have hN := hKW.2.2
  have hx := B.exec
  have hb := B.bytes
  have hr := B.returns
  have hts := atoms_spec (ws := wW_line) B.pre
  have hown : s.vm.findClass "WindingRaster" = some m.cls := findClass_of_methodNamed B.named
  have hlocks := B.notSynchronized
  subst hsz
  have hD := hD0.self (sz := s.heap.size)
  obtain ⟨A, hAe⟩ : ∃ A, va_A [(wr, .inr (0, [.int (iI (cs : Int)), .int (iI (rs : Int)), .ref ag, .ref oo, .ref cp, .ref aw, .ref pl])), (oo, .inr (1, [.ref ax, .ref ay, .ref an, .int (iI (np : Int)), .int (iI (l0 : Int))])), (ax, .inl (cA, 4096, .inl (iA fX))), (ay, .inl (cA, 4096, .inl (iA fY))), (an, .inl (cA, 4096, .inl (iA fN)))] s.heap.size = A := ⟨_, rfl⟩
  rw [hAe] at hD
  have hA : ∀ q : Nat, s.heap.size ≤ q → A q := fun q h => by rw [← hAe]; exact Or.inr h
  have hS : va_S A s.heap s.heap [] := va_S.rf
  have hP : va_P D vwCl [(wr, .inr (0, [.int (iI (cs : Int)), .int (iI (rs : Int)), .ref ag, .ref oo, .ref cp, .ref aw, .ref pl])), (oo, .inr (1, [.ref ax, .ref ay, .ref an, .int (iI (np : Int)), .int (iI (l0 : Int))])), (ax, .inl (cA, 4096, .inl (iA fX))), (ay, .inl (cA, 4096, .inl (iA fY))), (an, .inl (cA, 4096, .inl (iA fN)))] s.heap := hP
  have in_0 : ∀ w ∈ wsW, w ∈ wW_line := fun w h => List.mem_cons_of_mem _ (in0_W w h)
  have fl_38 := (hts _ (List.mem_cons_of_mem _ vm_72))
  have in_1 : ∀ w ∈ wsO, w ∈ wW_line := fun w h => List.mem_cons_of_mem _ (in0_O w h)
  have fl_74 := va_Nw.use (A := [.ref wr, .int (iI a1), .int (iI a2)].toArray) rfl (hN _ vn_1)
  have hl := lv_entry ([.ref wr, .int (iI a1), .int (iI a2)]) (n := 3) (Nat.le_of_ble_eq_true rfl)
  rw [lg_entry_eq]
  generalize (lg_sl ([.ref wr, .int (iI a1), .int (iI a2)]) ++ List.replicate (3 - (lg_sl ([.ref wr, .int (iI a1), .int (iI a2)])).length) Slot.unset).toArray = ls at hl ⊢
  have hl : lv_has ls 3 [(0, .ref wr), (1, .int (iI a1)), (2, .int (iI a2))] := hl
  generalize hQ : MQ below (qW (S := (Nat → Int) × (Nat → Int) × (Nat → Int) × Nat × Nat) (fun (z : Int) (u : (Nat → Int) × (Nat → Int) × (Nat → Int) × Nat × Nat) => (z = -1 ∧ ¬ (-536870912 ≤ a1 ∧ a1 ≤ 536870912 ∧ -536870912 ≤ a2 ∧ a2 ≤ 536870912) ∧ u.1 = fX ∧ u.2.1 = fY ∧ u.2.2.1 = fN ∧ u.2.2.2.1 = np ∧ u.2.2.2.2 = l0) ∨ (z = -2 ∧ (-536870912 ≤ a1 ∧ a1 ≤ 536870912 ∧ -536870912 ≤ a2 ∧ a2 ≤ 536870912) ∧ np = 0 ∧ u.1 = fX ∧ u.2.1 = fY ∧ u.2.2.1 = fN ∧ u.2.2.2.1 = np ∧ u.2.2.2.2 = l0) ∨ (z = -3 ∧ (-536870912 ≤ a1 ∧ a1 ≤ 536870912 ∧ -536870912 ≤ a2 ∧ a2 ≤ 536870912) ∧ 4096 ≤ np ∧ u.1 = fX ∧ u.2.1 = fY ∧ u.2.2.1 = fN ∧ u.2.2.2.1 = np ∧ u.2.2.2.2 = l0) ∨ (z = ((np + 1 : Nat) : Int) ∧ (-536870912 ≤ a1 ∧ a1 ≤ 536870912 ∧ -536870912 ≤ a2 ∧ a2 ≤ 536870912) ∧ 0 < np ∧ np < 4096 ∧ u.1 = uZ fX np a1 ∧ u.2.1 = uZ fY np a2 ∧ u.2.2.1 = uZ (uZ fN (np - 1) (np : Int)) np (l0 : Int) ∧ u.2.2.2.1 = np + 1 ∧ u.2.2.2.2 = l0)) D vwCl [(wr, .inr (0, [.int (iI (cs : Int)), .int (iI (rs : Int)), .ref ag, .ref oo, .ref cp, .ref aw, .ref pl])), (oo, .inr (1, [.ref ax, .ref ay, .ref an, .int (iI (np : Int)), .int (iI (l0 : Int))])), (ax, .inl (cA, 4096, .inl (iA fX))), (ay, .inl (cA, 4096, .inl (iA fY))), (an, .inl (cA, 4096, .inl (iA fN)))] s.heap.size (fun u : (Nat → Int) × (Nat → Int) × (Nat → Int) × Nat × Nat => [(wr, .inr (0, [.int (iI (cs : Int)), .int (iI (rs : Int)), .ref ag, .ref oo, .ref cp, .ref aw, .ref pl])), (oo, .inr (1, [.ref ax, .ref ay, .ref an, .int (iI ((u.2.2.2.1 : Nat) : Int)), .int (iI ((u.2.2.2.2 : Nat) : Int))])), (ax, .inl (cA, 4096, .inl (iA u.1))), (ay, .inl (cA, 4096, .inl (iA u.2.1))), (an, .inl (cA, 4096, .inl (iA u.2.2.1)))])) [.ref wr, .int (iI a1), .int (iI a2)].toArray s 0 0 (va_A [(wr, .inr (0, [.int (iI (cs : Int)), .int (iI (rs : Int)), .ref ag, .ref oo, .ref cp, .ref aw, .ref pl])), (oo, .inr (1, [.ref ax, .ref ay, .ref an, .int (iI (np : Int)), .int (iI (l0 : Int))])), (ax, .inl (cA, 4096, .inl (iA fX))), (ay, .inl (cA, 4096, .inl (iA fY))), (an, .inl (cA, 4096, .inl (iA fN)))] s.heap.size) = QQ
  refine lv_iload_n hx hb dW_line_0 rfl (lv_at hl 1 rfl) ?_
  refine cs_i (va_runS (As := [.int (iI a1)]) (rest := []) ⟨hx, hb, hml, hown, hts⟩ (c_isPlace l D cA cB cS a1 (by omega)) ⟨(callB_of 1 hts (gIn vm_97) rfl rfl rfl (hts _ (List.mem_cons_of_mem _ vm_1)) (hts _ (List.mem_cons_of_mem _ vm_95)) (by decide +kernel) ⟨Nat.le_of_ble_eq_true rfl, Nat.le_of_ble_eq_true rfl⟩), (hts _ (List.mem_cons_of_mem _ vm_96))⟩ (pR.pre (hP.sub [] rfl) hKW) rfl rfl hl.1 rfl (lv_room (Nat.le_of_ble_eq_true rfl)) dW_line_1 ⟨Nat.le_of_ble_eq_true rfl, Nat.le_of_ble_eq_true rfl⟩) (fun z_1 hz_1 => ?_)
  refine ii_if_eq (tgt := 14) hx hb dW_line_4 (by decide) (by omega) (fun c4 => ?_) (fun c4 => ?_)
  · refine ii_iconst (n := (-1)) hx hb dW_line_14 ?_
    rw [← hQ]
    exact wr_iret (fX, fY, fN, np, l0) hx hb hr hlocks hAe (hP.sub [0, 1, 2, 3, 4] rfl) (hD.sub [0, 1, 2, 3, 4] (by decide) rfl) hS (Or.inl ⟨rfl, by omega, rfl, rfl, rfl, rfl, rfl⟩) dW_line_15
  · refine lv_iload_n hx hb dW_line_7 rfl (lv_at hl 2 rfl) ?_
    refine cs_i (va_runS (As := [.int (iI a2)]) (rest := []) ⟨hx, hb, hml, hown, hts⟩ (c_isPlace l D cA cB cS a2 (by omega)) ⟨(callB_of 1 hts (gIn vm_97) rfl rfl rfl (hts _ (List.mem_cons_of_mem _ vm_1)) (hts _ (List.mem_cons_of_mem _ vm_95)) (by decide +kernel) ⟨Nat.le_of_ble_eq_true rfl, Nat.le_of_ble_eq_true rfl⟩), (hts _ (List.mem_cons_of_mem _ vm_96))⟩ (pR.pre (hP.sub [] rfl) hKW) rfl rfl hl.1 rfl (lv_room (Nat.le_of_ble_eq_true rfl)) dW_line_8 ⟨Nat.le_of_ble_eq_true rfl, Nat.le_of_ble_eq_true rfl⟩) (fun z_2 hz_2 => ?_)
    refine ii_if_ne (tgt := 16) hx hb dW_line_11 (by decide) (by omega) (fun c11 => ?_) (fun c11 => ?_)
    · refine lv_aload_n hx hb dW_line_16 rfl (lv_at hl 0 rfl) ?_
      refine va_get (ci := 0) (v := .ref oo) (C := "WindingRaster") (T := TW) (N := 7) hx hb hts in_0 hown hK hP 0 rfl rfl 3 (by decide) fl_38 (fun _ h9 => h9) rfl dW_line_17 ?_
      refine cs_i (va_runVN (As := []) (rest := []) ⟨hx, hb, hml, hown, hts⟩ (c_hasLine l D cA cB cS oo ax ay an fX fY fN np l0 (by omega)) ⟨(va_cnB 0 hts (gIn vm_113) rfl rfl rfl (hN _ vn_14) (hts _ (List.mem_cons_of_mem _ vm_4)) (by decide +kernel) ⟨Nat.le_of_ble_eq_true rfl, Nat.le_of_ble_eq_true rfl⟩), (hts _ (List.mem_cons_of_mem _ vm_112)), (hts _ (List.mem_cons_of_mem _ vm_399))⟩ (pR.preV (va_recv hK hP (ci := 1) (q0 := 1) rfl rfl) (hP.sub [1, 2, 3, 4] rfl) hKW) rfl rfl hl.1 rfl (lv_room (Nat.le_of_ble_eq_true rfl)) dW_line_20 ⟨Nat.le_of_ble_eq_true rfl, Nat.le_of_ble_eq_true rfl⟩) (fun z_3 hz_3 => ?_)
      refine ii_if_ne (tgt := 29) hx hb dW_line_23 (by decide) (by omega) (fun c23 => ?_) (fun c23 => ?_)
      · refine lv_aload_n hx hb dW_line_29 rfl (lv_at hl 0 rfl) ?_
        refine va_get (ci := 0) (v := .ref oo) (C := "WindingRaster") (T := TW) (N := 7) hx hb hts in_0 hown hK hP 0 rfl rfl 3 (by decide) fl_38 (fun _ h9 => h9) rfl dW_line_30 ?_
        refine cs_i (va_runVN (As := []) (rest := []) ⟨hx, hb, hml, hown, hts⟩ (c_isFull l D cA cB cS oo ax ay an fX fY fN np l0 (by omega)) ⟨(va_cnB 0 hts (gIn vm_101) rfl rfl rfl (hN _ vn_12) (hts _ (List.mem_cons_of_mem _ vm_4)) (by decide +kernel) ⟨Nat.le_of_ble_eq_true rfl, Nat.le_of_ble_eq_true rfl⟩), (hts _ (List.mem_cons_of_mem _ vm_100)), (hts _ (List.mem_cons_of_mem _ vm_396))⟩ (pR.preV (va_recv hK hP (ci := 1) (q0 := 1) rfl rfl) (hP.sub [1, 2, 3, 4] rfl) hKW) rfl rfl hl.1 rfl (lv_room (Nat.le_of_ble_eq_true rfl)) dW_line_33 ⟨Nat.le_of_ble_eq_true rfl, Nat.le_of_ble_eq_true rfl⟩) (fun z_4 hz_4 => ?_)
        refine ii_if_eq (tgt := 42) hx hb dW_line_36 (by decide) (by omega) (fun c36 => ?_) (fun c36 => ?_)
        · refine lv_aload_n hx hb dW_line_42 rfl (lv_at hl 0 rfl) ?_
          refine va_get (ci := 0) (v := .ref oo) (C := "WindingRaster") (T := TW) (N := 7) hx hb hts in_0 hown hK hP 0 rfl rfl 3 (by decide) fl_38 (fun _ h9 => h9) rfl dW_line_43 ?_
          refine lv_iload_n hx hb dW_line_46 rfl (lv_at hl 1 rfl) ?_
          refine lv_iload_n hx hb dW_line_47 rfl (lv_at hl 2 rfl) ?_
          refine cw_v (wc := [(oo, .inr (1, [.ref ax, .ref ay, .ref an, .int (iI (np : Int)), .int (iI (l0 : Int))])), (ax, .inl (cA, 4096, .inl (iA fX))), (ay, .inl (cA, 4096, .inl (iA fY))), (an, .inl (cA, 4096, .inl (iA fN)))]) (wr := [(wr, .inr (0, [.int (iI (cs : Int)), .int (iI (rs : Int)), .ref ag, .ref oo, .ref cp, .ref aw, .ref pl]))]) hP hD hS hA [1, 2, 3, 4] [0] rfl rfl (by decide) (by decide) (va_runVN (As := [.int (iI a1), .int (iI a2)]) (rest := []) ⟨hx, hb, hml, hown, hts⟩ (c_goOn l D cA cB cS oo ax ay an fX fY fN np l0 a1 a2 (by omega) (by omega) _) ⟨(va_cnB 2 hts (gIn vm_115) rfl rfl rfl (hN _ vn_15) (hts _ (List.mem_cons_of_mem _ vm_4)) (by decide +kernel) ⟨Nat.le_of_ble_eq_true rfl, Nat.le_of_ble_eq_true rfl⟩), (hts _ (List.mem_cons_of_mem _ vm_114)), (hts _ (List.mem_cons_of_mem _ vm_400))⟩ (pW.preV (va_recv hK hP (ci := 1) (q0 := 1) rfl rfl) (hP.sub [1, 2, 3, 4] rfl) (hD.sub [1, 2, 3, 4] (by decide) rfl) hKW) rfl rfl hl.1 rfl (lv_room (Nat.le_of_ble_eq_true rfl)) dW_line_48 ⟨Nat.le_of_ble_eq_true rfl, Nat.le_of_ble_eq_true rfl⟩) (fun u_6 H locs hz_5 hP hD hS => ?_)
          have hP : va_P D vwCl [(wr, .inr (0, [.int (iI (cs : Int)), .int (iI (rs : Int)), .ref ag, .ref oo, .ref cp, .ref aw, .ref pl])), (oo, .inr (1, [.ref ax, .ref ay, .ref an, .int (iI ((np + 1 : Nat) : Int)), .int (iI (l0 : Int))])), (ax, .inl (cA, 4096, .inl (iA (uZ fX np a1)))), (ay, .inl (cA, 4096, .inl (iA (uZ fY np a2)))), (an, .inl (cA, 4096, .inl (iA (uZ (uZ fN (np - 1) (np : Int)) np (l0 : Int)))))] H := hP
          have hD : va_D A [(wr, .inr (0, [.int (iI (cs : Int)), .int (iI (rs : Int)), .ref ag, .ref oo, .ref cp, .ref aw, .ref pl])), (oo, .inr (1, [.ref ax, .ref ay, .ref an, .int (iI ((np + 1 : Nat) : Int)), .int (iI (l0 : Int))])), (ax, .inl (cA, 4096, .inl (iA (uZ fX np a1)))), (ay, .inl (cA, 4096, .inl (iA (uZ fY np a2)))), (an, .inl (cA, 4096, .inl (iA (uZ (uZ fN (np - 1) (np : Int)) np (l0 : Int)))))] := hD
          refine lv_aload_n hx hb dW_line_51 rfl (lv_at hl 0 rfl) ?_
          refine va_get (ci := 0) (v := .ref oo) (C := "WindingRaster") (T := TW) (N := 7) hx hb hts in_0 hown hK hP 0 rfl rfl 3 (by decide) fl_38 (fun _ h9 => h9) rfl dW_line_52 ?_
          refine va_getN (ci := 1) (v := .int (iI ((np + 1 : Nat) : Int))) (C := "WindingRaster$Outline") (T := TO) (N := 5) hx hb hts in_1 hown hK hP 1 rfl rfl 3 (by decide) fl_74 (fun _ h9 => h9) rfl dW_line_55 ?_
          rw [← hQ]
          exact wr_iret (uZ fX np a1, uZ fY np a2, uZ (uZ fN (np - 1) (np : Int)) np (l0 : Int), np + 1, l0) hx hb hr hlocks hAe (hP.sub [0, 1, 2, 3, 4] rfl) (hD.sub [0, 1, 2, 3, 4] (by decide) rfl) hS (Or.inr (Or.inr (Or.inr ⟨rfl, by omega, by omega, by omega, rfl, rfl, rfl, rfl, rfl⟩))) dW_line_58
        · refine ii_bipush (n := (-3)) hx hb dW_line_39 (by decide +kernel) ?_
          rw [← hQ]
          exact wr_iret (fX, fY, fN, np, l0) hx hb hr hlocks hAe (hP.sub [0, 1, 2, 3, 4] rfl) (hD.sub [0, 1, 2, 3, 4] (by decide) rfl) hS (Or.inr (Or.inr (Or.inl ⟨rfl, by omega, by omega, rfl, rfl, rfl, rfl, rfl⟩))) dW_line_41
      · refine ii_bipush (n := (-2)) hx hb dW_line_26 (by decide +kernel) ?_
        rw [← hQ]
        exact wr_iret (fX, fY, fN, np, l0) hx hb hr hlocks hAe (hP.sub [0, 1, 2, 3, 4] rfl) (hD.sub [0, 1, 2, 3, 4] (by decide) rfl) hS (Or.inr (Or.inl ⟨rfl, by omega, by omega, rfl, rfl, rfl, rfl, rfl⟩)) dW_line_28
    · refine ii_iconst (n := (-1)) hx hb dW_line_14 ?_
      rw [← hQ]
      exact wr_iret (fX, fY, fN, np, l0) hx hb hr hlocks hAe (hP.sub [0, 1, 2, 3, 4] rfl) (hD.sub [0, 1, 2, 3, 4] (by decide) rfl) hS (Or.inl ⟨rfl, by omega, rfl, rfl, rfl, rfl, rfl⟩) dW_line_15

def rm_c_clear : Room := { frames := 1, cells := 0, slots := 0, locals := 20 }
set_option maxHeartbeats 4000000 in
set_option maxRecDepth 100000 in
theorem c_clear (l : Launch) (D : va_G) (cA cB cS : ClassId) (wr : Nat) (cs : Nat) (rs : Nat) (ag : Nat) (oo : Nat) (cp : Nat) (aw : Nat) (pl : Nat) (ax : Nat) (ay : Nat) (an : Nat) (fX : Nat → Int) (fY : Nat → Int) (fN : Nat → Int) (np : Nat) (l0 : Nat) (sz : Nat) : Met l yW_clear wW_clear rm_c_clear (pW [.ref wr] D vwCl (vwTy cA cB cS) vwNw [(wr, .inr (0, [.int (iI (cs : Int)), .int (iI (rs : Int)), .ref ag, .ref oo, .ref cp, .ref aw, .ref pl])), (oo, .inr (1, [.ref ax, .ref ay, .ref an, .int (iI (np : Int)), .int (iI (l0 : Int))])), (ax, .inl (cA, 4096, .inl (iA fX))), (ay, .inl (cA, 4096, .inl (iA fY))), (an, .inl (cA, 4096, .inl (iA fN)))] sz) (qW (S := Unit) (fun (z : Int) (_ : Unit) => z = (np : Int)) D vwCl [(wr, .inr (0, [.int (iI (cs : Int)), .int (iI (rs : Int)), .ref ag, .ref oo, .ref cp, .ref aw, .ref pl])), (oo, .inr (1, [.ref ax, .ref ay, .ref an, .int (iI (np : Int)), .int (iI (l0 : Int))])), (ax, .inl (cA, 4096, .inl (iA fX))), (ay, .inl (cA, 4096, .inl (iA fY))), (an, .inl (cA, 4096, .inl (iA fN)))] sz (fun _ : Unit => [(wr, .inr (0, [.int (iI (cs : Int)), .int (iI (rs : Int)), .ref ag, .ref oo, .ref cp, .ref aw, .ref pl])), (oo, .inr (1, [.ref ax, .ref ay, .ref an, .int (iI 0), .int (iI 0)])), (ax, .inl (cA, 4096, .inl (iA fX))), (ay, .inl (cA, 4096, .inl (iA fY))), (an, .inl (cA, 4096, .inl (iA fN)))])) 0 0 (va_A [(wr, .inr (0, [.int (iI (cs : Int)), .int (iI (rs : Int)), .ref ag, .ref oo, .ref cp, .ref aw, .ref pl])), (oo, .inr (1, [.ref ax, .ref ay, .ref an, .int (iI (np : Int)), .int (iI (l0 : Int))])), (ax, .inl (cA, 4096, .inl (iA fX))), (ay, .inl (cA, 4096, .inl (iA fY))), (an, .inl (cA, 4096, .inl (iA fN)))] sz) := by
  refine Met.ofW (cc := bW_clear) (maxL := 2) (ret := (some .int)) (by decide +kernel) rfl ?_
  intro p e s m args below meth c s₁ B hml hv
  obtain ⟨rfl, hsz, hP, hKW, hD0⟩ := hv
  have hK := hKW.1
  have hN := hKW.2.2
  have hx := B.exec
  have hb := B.bytes
  have hr := B.returns
  have hts := atoms_spec (ws := wW_clear) B.pre
  have hown : s.vm.findClass "WindingRaster" = some m.cls := findClass_of_methodNamed B.named
  have hlocks := B.notSynchronized
  subst hsz
  have hD := hD0.self (sz := s.heap.size)
  obtain ⟨A, hAe⟩ : ∃ A, va_A [(wr, .inr (0, [.int (iI (cs : Int)), .int (iI (rs : Int)), .ref ag, .ref oo, .ref cp, .ref aw, .ref pl])), (oo, .inr (1, [.ref ax, .ref ay, .ref an, .int (iI (np : Int)), .int (iI (l0 : Int))])), (ax, .inl (cA, 4096, .inl (iA fX))), (ay, .inl (cA, 4096, .inl (iA fY))), (an, .inl (cA, 4096, .inl (iA fN)))] s.heap.size = A := ⟨_, rfl⟩
  rw [hAe] at hD
  have hA : ∀ q : Nat, s.heap.size ≤ q → A q := fun q h => by rw [← hAe]; exact Or.inr h
  have hS : va_S A s.heap s.heap [] := va_S.rf
  have hP : va_P D vwCl [(wr, .inr (0, [.int (iI (cs : Int)), .int (iI (rs : Int)), .ref ag, .ref oo, .ref cp, .ref aw, .ref pl])), (oo, .inr (1, [.ref ax, .ref ay, .ref an, .int (iI (np : Int)), .int (iI (l0 : Int))])), (ax, .inl (cA, 4096, .inl (iA fX))), (ay, .inl (cA, 4096, .inl (iA fY))), (an, .inl (cA, 4096, .inl (iA fN)))] s.heap := hP
  have in_0 : ∀ w ∈ wsW, w ∈ wW_clear := fun w h => List.mem_cons_of_mem _ (in0_W w h)
  have fl_38 := (hts _ (List.mem_cons_of_mem _ vm_72))
  have in_1 : ∀ w ∈ wsO, w ∈ wW_clear := fun w h => List.mem_cons_of_mem _ (in0_O w h)
  have fl_74 := va_Nw.use (A := [.ref wr].toArray) rfl (hN _ vn_1)
  have hl := lv_entry ([.ref wr]) (n := 2) (Nat.le_of_ble_eq_true rfl)
  rw [lg_entry_eq]
  generalize (lg_sl ([.ref wr]) ++ List.replicate (2 - (lg_sl ([.ref wr])).length) Slot.unset).toArray = ls at hl ⊢
  have hl : lv_has ls 2 [(0, .ref wr)] := hl
  generalize hQ : MQ below (qW (S := Unit) (fun (z : Int) (_ : Unit) => z = (np : Int)) D vwCl [(wr, .inr (0, [.int (iI (cs : Int)), .int (iI (rs : Int)), .ref ag, .ref oo, .ref cp, .ref aw, .ref pl])), (oo, .inr (1, [.ref ax, .ref ay, .ref an, .int (iI (np : Int)), .int (iI (l0 : Int))])), (ax, .inl (cA, 4096, .inl (iA fX))), (ay, .inl (cA, 4096, .inl (iA fY))), (an, .inl (cA, 4096, .inl (iA fN)))] s.heap.size (fun _ : Unit => [(wr, .inr (0, [.int (iI (cs : Int)), .int (iI (rs : Int)), .ref ag, .ref oo, .ref cp, .ref aw, .ref pl])), (oo, .inr (1, [.ref ax, .ref ay, .ref an, .int (iI 0), .int (iI 0)])), (ax, .inl (cA, 4096, .inl (iA fX))), (ay, .inl (cA, 4096, .inl (iA fY))), (an, .inl (cA, 4096, .inl (iA fN)))])) [.ref wr].toArray s 0 0 (va_A [(wr, .inr (0, [.int (iI (cs : Int)), .int (iI (rs : Int)), .ref ag, .ref oo, .ref cp, .ref aw, .ref pl])), (oo, .inr (1, [.ref ax, .ref ay, .ref an, .int (iI (np : Int)), .int (iI (l0 : Int))])), (ax, .inl (cA, 4096, .inl (iA fX))), (ay, .inl (cA, 4096, .inl (iA fY))), (an, .inl (cA, 4096, .inl (iA fN)))] s.heap.size) = QQ
  refine lv_aload_n hx hb dW_clear_0 rfl (lv_at hl 0 rfl) ?_
  refine va_get (ci := 0) (v := .ref oo) (C := "WindingRaster") (T := TW) (N := 7) hx hb hts in_0 hown hK hP 0 rfl rfl 3 (by decide) fl_38 (fun _ h9 => h9) rfl dW_clear_1 ?_
  refine va_getN (ci := 1) (v := .int (iI (np : Int))) (C := "WindingRaster$Outline") (T := TO) (N := 5) hx hb hts in_1 hown hK hP 1 rfl rfl 3 (by decide) fl_74 (fun _ h9 => h9) rfl dW_clear_4 ?_
  refine lv_istore_n (lv' := [(1, .int (iI (np : Int))), (0, .ref wr)]) hx hb dW_clear_7 rfl hl (by decide) rfl (fun ls hl => ?_)
  refine lv_aload_n hx hb dW_clear_8 rfl (lv_at hl 1 rfl) ?_
  refine va_get (ci := 0) (v := .ref oo) (C := "WindingRaster") (T := TW) (N := 7) hx hb hts in_0 hown hK hP 0 rfl rfl 3 (by decide) fl_38 (fun _ h9 => h9) rfl dW_clear_9 ?_
  refine cw_v (wc := [(oo, .inr (1, [.ref ax, .ref ay, .ref an, .int (iI (np : Int)), .int (iI (l0 : Int))])), (ax, .inl (cA, 4096, .inl (iA fX))), (ay, .inl (cA, 4096, .inl (iA fY))), (an, .inl (cA, 4096, .inl (iA fN)))]) (wr := [(wr, .inr (0, [.int (iI (cs : Int)), .int (iI (rs : Int)), .ref ag, .ref oo, .ref cp, .ref aw, .ref pl]))]) hP hD hS hA [1, 2, 3, 4] [0] rfl rfl (by decide) (by decide) (va_runVN (As := []) (rest := []) ⟨hx, hb, hml, hown, hts⟩ (c_forget l D cA cB cS oo ax ay an fX fY fN np l0 _) ⟨(va_cnB 0 hts (gIn vm_122) rfl rfl rfl (hN _ vn_16) (hts _ (List.mem_cons_of_mem _ vm_4)) (by decide +kernel) ⟨Nat.le_of_ble_eq_true rfl, Nat.le_of_ble_eq_true rfl⟩), (hts _ (List.mem_cons_of_mem _ vm_121)), (hts _ (List.mem_cons_of_mem _ vm_401))⟩ (pW.preV (va_recv hK hP (ci := 1) (q0 := 1) rfl rfl) (hP.sub [1, 2, 3, 4] rfl) (hD.sub [1, 2, 3, 4] (by decide) rfl) hKW) rfl rfl hl.1 rfl (lv_room (Nat.le_of_ble_eq_true rfl)) dW_clear_12 ⟨Nat.le_of_ble_eq_true rfl, Nat.le_of_ble_eq_true rfl⟩) (fun u_2 H locs hz_1 hP hD hS => ?_)
  have hP : va_P D vwCl [(wr, .inr (0, [.int (iI (cs : Int)), .int (iI (rs : Int)), .ref ag, .ref oo, .ref cp, .ref aw, .ref pl])), (oo, .inr (1, [.ref ax, .ref ay, .ref an, .int (iI 0), .int (iI 0)])), (ax, .inl (cA, 4096, .inl (iA fX))), (ay, .inl (cA, 4096, .inl (iA fY))), (an, .inl (cA, 4096, .inl (iA fN)))] H := hP
  have hD : va_D A [(wr, .inr (0, [.int (iI (cs : Int)), .int (iI (rs : Int)), .ref ag, .ref oo, .ref cp, .ref aw, .ref pl])), (oo, .inr (1, [.ref ax, .ref ay, .ref an, .int (iI 0), .int (iI 0)])), (ax, .inl (cA, 4096, .inl (iA fX))), (ay, .inl (cA, 4096, .inl (iA fY))), (an, .inl (cA, 4096, .inl (iA fN)))] := hD
  refine lv_iload_n hx hb dW_clear_15 rfl (lv_at hl 0 rfl) ?_
  rw [← hQ]
  exact wr_iret () hx hb hr hlocks hAe (hP.sub [0, 1, 2, 3, 4] rfl) (hD.sub [0, 1, 2, 3, 4] (by decide) rfl) hS rfl dW_clear_16

def rm_c_winding : Room := { frames := 3, cells := 0, slots := 0, locals := 83 }
set_option maxHeartbeats 4000000 in
set_option maxRecDepth 100000 in
theorem c_winding (l : Launch) (D : va_G) (cA cB cS : ClassId) (wr : Nat) (cs : Nat) (rs : Nat) (ag : Nat) (oo : Nat) (cp : Nat) (aw : Nat) (pl : Nat) (ax : Nat) (ay : Nat) (an : Nat) (fX : Nat → Int) (fY : Nat → Int) (fN : Nat → Int) (np : Nat) (l0 : Nat) (a1 : Int) (a2 : Int) (h1 : i32 a1) (h2 : i32 a2) (h3 : cs ≤ 256) (h4 : rs ≤ 256) (h5 : ∀ i, i < np → (-536870912 ≤ fX i ∧ fX i ≤ 536870912) ∧ (-536870912 ≤ fY i ∧ fY i ≤ 536870912)) (h6 : ∀ i, i < np → 0 ≤ fN i ∧ fN i < (np : Int)) (h7 : np ≤ 4096) : Met l yW_winding wW_winding rm_c_winding (pR [.ref wr, .int (iI a1), .int (iI a2)] D vwCl (vwTy cA cB cS) vwNw [(wr, .inr (0, [.int (iI (cs : Int)), .int (iI (rs : Int)), .ref ag, .ref oo, .ref cp, .ref aw, .ref pl])), (oo, .inr (1, [.ref ax, .ref ay, .ref an, .int (iI (np : Int)), .int (iI (l0 : Int))])), (ax, .inl (cA, 4096, .inl (iA fX))), (ay, .inl (cA, 4096, .inl (iA fY))), (an, .inl (cA, 4096, .inl (iA fN)))]) (qI (fun z => ((0 ≤ a1 ∧ a1 < (cs : Int) ∧ 0 ≤ a2 ∧ a2 < (rs : Int)) ∧ z = wiZ fX fY fN np ((a2.toNat * 65536 + 32768 : Nat) : Int) (a1.toNat : Int)) ∨ (¬ (0 ≤ a1 ∧ a1 < (cs : Int) ∧ 0 ≤ a2 ∧ a2 < (rs : Int)) ∧ z = 0))) 0 0 (fun _ => False) := by
  refine Met.ofW (cc := bW_winding) (maxL := 3) (ret := (some .int)) (by decide +kernel) rfl ?_
  intro p e s m args below meth c s₁ B hml hv
  obtain ⟨rfl, hP, hKW⟩ := hv
  have hK := hKW.1
  have hN := hKW.2.2
  have hx := B.exec
  have hb := B.bytes
  have hr := B.returns
  have hts := atoms_spec (ws := wW_winding) B.pre
  have hown : s.vm.findClass "WindingRaster" = some m.cls := findClass_of_methodNamed B.named
  have hlocks := B.notSynchronized
  have hP : va_P D vwCl [(wr, .inr (0, [.int (iI (cs : Int)), .int (iI (rs : Int)), .ref ag, .ref oo, .ref cp, .ref aw, .ref pl])), (oo, .inr (1, [.ref ax, .ref ay, .ref an, .int (iI (np : Int)), .int (iI (l0 : Int))])), (ax, .inl (cA, 4096, .inl (iA fX))), (ay, .inl (cA, 4096, .inl (iA fY))), (an, .inl (cA, 4096, .inl (iA fN)))] s.heap := hP
  have in_0 : ∀ w ∈ wsW, w ∈ wW_winding := fun w h => List.mem_cons_of_mem _ (in0_W w h)
  have fl_38 := (hts _ (List.mem_cons_of_mem _ vm_72))
  have hl := lv_entry ([.ref wr, .int (iI a1), .int (iI a2)]) (n := 3) (Nat.le_of_ble_eq_true rfl)
  rw [lg_entry_eq]
  generalize (lg_sl ([.ref wr, .int (iI a1), .int (iI a2)]) ++ List.replicate (3 - (lg_sl ([.ref wr, .int (iI a1), .int (iI a2)])).length) Slot.unset).toArray = ls at hl ⊢
  have hl : lv_has ls 3 [(0, .ref wr), (1, .int (iI a1)), (2, .int (iI a2))] := hl
  generalize hQ : MQ below (qI (fun z => ((0 ≤ a1 ∧ a1 < (cs : Int) ∧ 0 ≤ a2 ∧ a2 < (rs : Int)) ∧ z = wiZ fX fY fN np ((a2.toNat * 65536 + 32768 : Nat) : Int) (a1.toNat : Int)) ∨ (¬ (0 ≤ a1 ∧ a1 < (cs : Int) ∧ 0 ≤ a2 ∧ a2 < (rs : Int)) ∧ z = 0))) [.ref wr, .int (iI a1), .int (iI a2)].toArray s 0 0 (fun _ => False) = QQ
  refine lv_aload_n hx hb dW_winding_0 rfl (lv_at hl 0 rfl) ?_
  refine lv_iload_n hx hb dW_winding_1 rfl (lv_at hl 1 rfl) ?_
  refine lv_iload_n hx hb dW_winding_2 rfl (lv_at hl 2 rfl) ?_
  refine cs_i (va_runV (As := [.int (iI a1), .int (iI a2)]) (rest := []) ⟨hx, hb, hml, hown, hts⟩ (c_hasPixel l D cA cB cS wr cs rs ag oo cp aw pl a1 a2 (by omega) (by omega) (by omega) (by omega)) ⟨(callB_of 2 hts (gIn vm_129) rfl rfl rfl (hts _ (List.mem_cons_of_mem _ vm_1)) (hts _ (List.mem_cons_of_mem _ vm_127)) (by decide +kernel) ⟨Nat.le_of_ble_eq_true rfl, Nat.le_of_ble_eq_true rfl⟩), (hts _ (List.mem_cons_of_mem _ vm_128)), (hts _ (List.mem_cons_of_mem _ vm_402))⟩ (pR.preV (va_recv hK hP (ci := 0) (q0 := 0) rfl rfl) (hP.sub [0] rfl) hKW) rfl rfl hl.1 rfl (lv_room (Nat.le_of_ble_eq_true rfl)) dW_winding_3 ⟨Nat.le_of_ble_eq_true rfl, Nat.le_of_ble_eq_true rfl⟩) (fun z_1 hz_1 => ?_)
  refine ii_if_eq (tgt := 21) hx hb dW_winding_6 (by decide) (by omega) (fun c6 => ?_) (fun c6 => ?_)
  · refine ii_iconst (n := 0) hx hb dW_winding_21 ?_
    rw [← hQ]
    exact rd_iret hx hb hr hlocks (Or.inr ⟨by omega, rfl⟩) dW_winding_22
  · obtain ⟨kc, rfl⟩ : ∃ kc : Nat, a1 = (kc : Int) := ⟨a1.toNat, by omega⟩
    obtain ⟨kr, rfl⟩ : ∃ kr : Nat, a2 = (kr : Int) := ⟨a2.toNat, by omega⟩
    refine lv_aload_n hx hb dW_winding_9 rfl (lv_at hl 0 rfl) ?_
    refine va_get (ci := 0) (v := .ref oo) (C := "WindingRaster") (T := TW) (N := 7) hx hb hts in_0 hown hK hP 0 rfl rfl 3 (by decide) fl_38 (fun _ h9 => h9) rfl dW_winding_10 ?_
    refine lv_iload_n hx hb dW_winding_13 rfl (lv_at hl 1 rfl) ?_
    refine lv_iload_n hx hb dW_winding_14 rfl (lv_at hl 2 rfl) ?_
    refine cs_i (va_runVN (As := [.int (iI (kc : Int)), .int (iI (kr : Int))]) (rest := []) ⟨hx, hb, hml, hown, hts⟩ (c_windingAt l D cA cB cS oo ax ay an fX fY fN np l0 kc kr (by omega) (by omega) (by omega) h5 h6) ⟨(va_cnB 2 hts (gIn vm_131) rfl rfl rfl (hN _ vn_17) (hts _ (List.mem_cons_of_mem _ vm_4)) (by decide +kernel) ⟨Nat.le_of_ble_eq_true rfl, Nat.le_of_ble_eq_true rfl⟩), (hts _ (List.mem_cons_of_mem _ vm_130)), (hts _ (List.mem_cons_of_mem _ vm_403))⟩ (pR.preV (va_recv hK hP (ci := 1) (q0 := 1) rfl rfl) (hP.sub [1, 2, 3, 4] rfl) hKW) rfl rfl hl.1 rfl (lv_room (Nat.le_of_ble_eq_true rfl)) dW_winding_15 ⟨Nat.le_of_ble_eq_true rfl, Nat.le_of_ble_eq_true rfl⟩) (fun z_2 hz_2 => ?_)
    subst hz_2
    refine lv_goto (tgt := 22) hx hb dW_winding_18 (by decide) ?_
    rw [← hQ]
    exact rd_iret hx hb hr hlocks (Or.inl ⟨by omega, rfl⟩) dW_winding_22

def rm_c_gray : Room := { frames := 1, cells := 0, slots := 0, locals := 22 }
set_option maxHeartbeats 4000000 in
set_option maxRecDepth 100000 in
theorem c_gray (l : Launch) (D : va_G) (cA cB cS : ClassId) (wr : Nat) (cs : Nat) (rs : Nat) (ag : Nat) (oo : Nat) (cp : Nat) (aw : Nat) (pl : Nat) (fG : Nat → Int) (a1 : Int) (a2 : Int) (h1 : i32 a1) (h2 : i32 a2) (h3 : cs ≤ 256) (h4 : rs ≤ 256) (h5 : cs * rs ≤ 65536) : Met l yW_gray wW_gray rm_c_gray (pR [.ref wr, .int (iI a1), .int (iI a2)] D vwCl (vwTy cA cB cS) vwNw [(wr, .inr (0, [.int (iI (cs : Int)), .int (iI (rs : Int)), .ref ag, .ref oo, .ref cp, .ref aw, .ref pl])), (ag, .inl (cA, cs * rs, .inl (iA fG)))]) (qI (fun z => ((0 ≤ a1 ∧ a1 < (cs : Int) ∧ 0 ≤ a2 ∧ a2 < (rs : Int)) ∧ z = fG (a2.toNat * cs + a1.toNat)) ∨ (¬ (0 ≤ a1 ∧ a1 < (cs : Int) ∧ 0 ≤ a2 ∧ a2 < (rs : Int)) ∧ z = -1))) 0 0 (fun _ => False) := by
  refine Met.ofW (cc := bW_gray) (maxL := 3) (ret := (some .int)) (by decide +kernel) rfl ?_
  intro p e s m args below meth c s₁ B hml hv
  obtain ⟨rfl, hP, hKW⟩ := hv
  have hK := hKW.1
  have hN := hKW.2.2
  have hx := B.exec
  have hb := B.bytes
  have hr := B.returns
  have hts := atoms_spec (ws := wW_gray) B.pre
  have hown : s.vm.findClass "WindingRaster" = some m.cls := findClass_of_methodNamed B.named
  have hlocks := B.notSynchronized
  have hP : va_P D vwCl [(wr, .inr (0, [.int (iI (cs : Int)), .int (iI (rs : Int)), .ref ag, .ref oo, .ref cp, .ref aw, .ref pl])), (ag, .inl (cA, cs * rs, .inl (iA fG)))] s.heap := hP
  have in_0 : ∀ w ∈ wsW, w ∈ wW_gray := fun w h => List.mem_cons_of_mem _ (in0_W w h)
  have fl_25 := (hts _ (List.mem_cons_of_mem _ vm_71))
  have fl_18 := (hts _ (List.mem_cons_of_mem _ vm_69))
  have hl := lv_entry ([.ref wr, .int (iI a1), .int (iI a2)]) (n := 3) (Nat.le_of_ble_eq_true rfl)
  rw [lg_entry_eq]
  generalize (lg_sl ([.ref wr, .int (iI a1), .int (iI a2)]) ++ List.replicate (3 - (lg_sl ([.ref wr, .int (iI a1), .int (iI a2)])).length) Slot.unset).toArray = ls at hl ⊢
  have hl : lv_has ls 3 [(0, .ref wr), (1, .int (iI a1)), (2, .int (iI a2))] := hl
  generalize hQ : MQ below (qI (fun z => ((0 ≤ a1 ∧ a1 < (cs : Int) ∧ 0 ≤ a2 ∧ a2 < (rs : Int)) ∧ z = fG (a2.toNat * cs + a1.toNat)) ∨ (¬ (0 ≤ a1 ∧ a1 < (cs : Int) ∧ 0 ≤ a2 ∧ a2 < (rs : Int)) ∧ z = -1))) [.ref wr, .int (iI a1), .int (iI a2)].toArray s 0 0 (fun _ => False) = QQ
  refine lv_aload_n hx hb dW_gray_0 rfl (lv_at hl 0 rfl) ?_
  refine lv_iload_n hx hb dW_gray_1 rfl (lv_at hl 1 rfl) ?_
  refine lv_iload_n hx hb dW_gray_2 rfl (lv_at hl 2 rfl) ?_
  refine cs_i (va_runV (As := [.int (iI a1), .int (iI a2)]) (rest := []) ⟨hx, hb, hml, hown, hts⟩ (c_hasPixel l D cA cB cS wr cs rs ag oo cp aw pl a1 a2 (by omega) (by omega) (by omega) (by omega)) ⟨(callB_of 2 hts (gIn vm_129) rfl rfl rfl (hts _ (List.mem_cons_of_mem _ vm_1)) (hts _ (List.mem_cons_of_mem _ vm_127)) (by decide +kernel) ⟨Nat.le_of_ble_eq_true rfl, Nat.le_of_ble_eq_true rfl⟩), (hts _ (List.mem_cons_of_mem _ vm_128)), (hts _ (List.mem_cons_of_mem _ vm_402))⟩ (pR.preV (va_recv hK hP (ci := 0) (q0 := 0) rfl rfl) (hP.sub [0] rfl) hKW) rfl rfl hl.1 rfl (lv_room (Nat.le_of_ble_eq_true rfl)) dW_gray_3 ⟨Nat.le_of_ble_eq_true rfl, Nat.le_of_ble_eq_true rfl⟩) (fun z_1 hz_1 => ?_)
  refine ii_if_eq (tgt := 25) hx hb dW_gray_6 (by decide) (by omega) (fun c6 => ?_) (fun c6 => ?_)
  · refine ii_iconst (n := (-1)) hx hb dW_gray_25 ?_
    rw [← hQ]
    exact rd_iret hx hb hr hlocks (Or.inr ⟨by omega, rfl⟩) dW_gray_26
  · obtain ⟨kc, rfl⟩ : ∃ kc : Nat, a1 = (kc : Int) := ⟨a1.toNat, by omega⟩
    obtain ⟨kr, rfl⟩ : ∃ kr : Nat, a2 = (kr : Int) := ⟨a2.toNat, by omega⟩
    have hix := idx_le (cs := cs) (r := kr) (rs := rs) (by omega)
    refine lv_aload_n hx hb dW_gray_9 rfl (lv_at hl 0 rfl) ?_
    refine va_get (ci := 0) (v := .ref ag) (C := "WindingRaster") (T := TW) (N := 7) hx hb hts in_0 hown hK hP 0 rfl rfl 2 (by decide) fl_25 (fun _ h9 => h9) rfl dW_gray_10 ?_
    refine lv_iload_n hx hb dW_gray_13 rfl (lv_at hl 2 rfl) ?_
    refine lv_aload_n hx hb dW_gray_14 rfl (lv_at hl 0 rfl) ?_
    refine va_get (ci := 0) (v := .int (iI (cs : Int))) (C := "WindingRaster") (T := TW) (N := 7) hx hb hts in_0 hown hK hP 0 rfl rfl 0 (by decide) fl_18 (fun _ h9 => h9) rfl dW_gray_15 ?_
    refine ii_imul hx hb dW_gray_18 ?_
    refine ii_top (y := ((kr * cs : Nat) : Int)) (by push_cast; rfl) ?_
    refine lv_iload_n hx hb dW_gray_19 rfl (lv_at hl 1 rfl) ?_
    refine ii_iadd hx hb dW_gray_20 ?_
    refine ii_top (y := (((kr * cs) + kc : Nat) : Int)) (by push_cast; rfl) ?_
    refine ii_iald hx hb hK hP 1 0 rfl rfl ((kr * cs) + kc) rfl (by omega) (by omega) dW_gray_21 ?_
    refine lv_goto (tgt := 26) hx hb dW_gray_22 (by decide) ?_
    rw [← hQ]
    exact rd_iret hx hb hr hlocks (Or.inl ⟨by omega, rfl⟩) dW_gray_26

def rm_c_openP : Room := { frames := 2, cells := 0, slots := 0, locals := 45 }
set_option maxHeartbeats 4000000 in
set_option maxRecDepth 100000 in
theorem c_openP (l : Launch) (D : va_G) (cA cB cS : ClassId) (wr : Nat) (cs : Nat) (rs : Nat) (ag : Nat) (oo : Nat) (cp : Nat) (aw : Nat) (pl : Nat) (ai : Nat) (at_ : Nat) (fI : Nat → Int) (fS : Nat → Int) (sv : Nat) (en : Nat) (st0 : Nat) (L : List Run3) (a1 : Int) (a2 : Int) (h1 : i32 a1) (h2 : i32 a2) (h3 : cs ≤ 256) (h4 : rs ≤ 256) (h11 : segL fI st0 L) (h12 : st0 + L.length = en) (h13 : ∀ x ∈ L, runOk cs rs x) (h14 : en ≤ 24000) (h15 : sv ≤ 12) (h16 : fS sv = (st0 : Int)) : Met l yW_open wW_open rm_c_openP (pR [.ref wr, .int (iI a1), .int (iI a2)] D vwCl (vwTy cA cB cS) vwNw [(wr, .inr (0, [.int (iI (cs : Int)), .int (iI (rs : Int)), .ref ag, .ref oo, .ref cp, .ref aw, .ref pl])), (cp, .inr (2, [.ref ai, .ref at_, .int (iI (sv : Int)), .int (iI (en : Int))])), (ai, .inl (cA, 24000, .inl (iA fI))), (at_, .inl (cA, 13, .inl (iA fS)))]) (qI (fun z => ((0 ≤ a1 ∧ a1 < (cs : Int) ∧ 0 ≤ a2 ∧ a2 < (rs : Int)) ∧ ((z = 1 ∧ memL L a2.toNat a1.toNat) ∨ (z = 0 ∧ ¬ memL L a2.toNat a1.toNat))) ∨ (¬ (0 ≤ a1 ∧ a1 < (cs : Int) ∧ 0 ≤ a2 ∧ a2 < (rs : Int)) ∧ z = -1))) 0 0 (fun _ => False) := by
  refine Met.ofW (cc := bW_open) (maxL := 3) (ret := (some .int)) (by decide +kernel) rfl ?_
  intro p e s m args below meth c s₁ B hml hv
  obtain ⟨rfl, hP, hKW⟩ := hv
  have hK := hKW.1
  have hN := hKW.2.2
  have hx := B.exec
  have hb := B.bytes
  have hr := B.returns
  have hts := atoms_spec (ws := wW_open) B.pre
  have hown : s.vm.findClass "WindingRaster" = some m.cls := findClass_of_methodNamed B.named
  have hlocks := B.notSynchronized
  have hP : va_P D vwCl [(wr, .inr (0, [.int (iI (cs : Int)), .int (iI (rs : Int)), .ref ag, .ref oo, .ref cp, .ref aw, .ref pl])), (cp, .inr (2, [.ref ai, .ref at_, .int (iI (sv : Int)), .int (iI (en : Int))])), (ai, .inl (cA, 24000, .inl (iA fI))), (at_, .inl (cA, 13, .inl (iA fS)))] s.heap := hP
  have in_0 : ∀ w ∈ wsW, w ∈ wW_open := fun w h => List.mem_cons_of_mem _ (in0_W w h)
  have fl_47 := (hts _ (List.mem_cons_of_mem _ vm_73))
  have hl := lv_entry ([.ref wr, .int (iI a1), .int (iI a2)]) (n := 3) (Nat.le_of_ble_eq_true rfl)
  rw [lg_entry_eq]
  generalize (lg_sl ([.ref wr, .int (iI a1), .int (iI a2)]) ++ List.replicate (3 - (lg_sl ([.ref wr, .int (iI a1), .int (iI a2)])).length) Slot.unset).toArray = ls at hl ⊢
  have hl : lv_has ls 3 [(0, .ref wr), (1, .int (iI a1)), (2, .int (iI a2))] := hl
  generalize hQ : MQ below (qI (fun z => ((0 ≤ a1 ∧ a1 < (cs : Int) ∧ 0 ≤ a2 ∧ a2 < (rs : Int)) ∧ ((z = 1 ∧ memL L a2.toNat a1.toNat) ∨ (z = 0 ∧ ¬ memL L a2.toNat a1.toNat))) ∨ (¬ (0 ≤ a1 ∧ a1 < (cs : Int) ∧ 0 ≤ a2 ∧ a2 < (rs : Int)) ∧ z = -1))) [.ref wr, .int (iI a1), .int (iI a2)].toArray s 0 0 (fun _ => False) = QQ
  refine lv_aload_n hx hb dW_open_0 rfl (lv_at hl 0 rfl) ?_
  refine lv_iload_n hx hb dW_open_1 rfl (lv_at hl 1 rfl) ?_
  refine lv_iload_n hx hb dW_open_2 rfl (lv_at hl 2 rfl) ?_
  refine cs_i (va_runV (As := [.int (iI a1), .int (iI a2)]) (rest := []) ⟨hx, hb, hml, hown, hts⟩ (c_hasPixel l D cA cB cS wr cs rs ag oo cp aw pl a1 a2 (by omega) (by omega) (by omega) (by omega)) ⟨(callB_of 2 hts (gIn vm_129) rfl rfl rfl (hts _ (List.mem_cons_of_mem _ vm_1)) (hts _ (List.mem_cons_of_mem _ vm_127)) (by decide +kernel) ⟨Nat.le_of_ble_eq_true rfl, Nat.le_of_ble_eq_true rfl⟩), (hts _ (List.mem_cons_of_mem _ vm_128)), (hts _ (List.mem_cons_of_mem _ vm_402))⟩ (pR.preV (va_recv hK hP (ci := 0) (q0 := 0) rfl rfl) (hP.sub [0] rfl) hKW) rfl rfl hl.1 rfl (lv_room (Nat.le_of_ble_eq_true rfl)) dW_open_3 ⟨Nat.le_of_ble_eq_true rfl, Nat.le_of_ble_eq_true rfl⟩) (fun z_1 hz_1 => ?_)
  refine ii_if_ne (tgt := 11) hx hb dW_open_6 (by decide) (by omega) (fun c6 => ?_) (fun c6 => ?_)
  · obtain ⟨kc, rfl⟩ : ∃ kc : Nat, a1 = (kc : Int) := ⟨a1.toNat, by omega⟩
    obtain ⟨kr, rfl⟩ : ∃ kr : Nat, a2 = (kr : Int) := ⟨a2.toNat, by omega⟩
    refine lv_aload_n hx hb dW_open_11 rfl (lv_at hl 0 rfl) ?_
    refine va_get (ci := 0) (v := .ref cp) (C := "WindingRaster") (T := TW) (N := 7) hx hb hts in_0 hown hK hP 0 rfl rfl 4 (by decide) fl_47 (fun _ h9 => h9) rfl dW_open_12 ?_
    refine lv_iload_n hx hb dW_open_15 rfl (lv_at hl 1 rfl) ?_
    refine lv_iload_n hx hb dW_open_16 rfl (lv_at hl 2 rfl) ?_
    refine cs_i (va_runVN (As := [.int (iI (kc : Int)), .int (iI (kr : Int))]) (rest := []) ⟨hx, hb, hml, hown, hts⟩ (c_has l D cA cB cS cp ai at_ fI fS sv en st0 kc kr L cs rs h15 h16 h11 h12 h13 (by omega) (by omega) h14 (by omega)) ⟨(va_cnB 2 hts (gIn vm_231) rfl rfl rfl (hN _ vn_32) (hts _ (List.mem_cons_of_mem _ vm_5)) (by decide +kernel) ⟨Nat.le_of_ble_eq_true rfl, Nat.le_of_ble_eq_true rfl⟩), (hts _ (List.mem_cons_of_mem _ vm_230)), (hts _ (List.mem_cons_of_mem _ vm_420))⟩ (pR.preV (va_recv hK hP (ci := 2) (q0 := 1) rfl rfl) (hP.sub [1, 2, 3] rfl) hKW) rfl rfl hl.1 rfl (lv_room (Nat.le_of_ble_eq_true rfl)) dW_open_17 ⟨Nat.le_of_ble_eq_true rfl, Nat.le_of_ble_eq_true rfl⟩) (fun zo hzo => ?_)
    refine ii_if_eq (tgt := 27) hx hb dW_open_20 (by decide) (by omega) (fun c20 => ?_) (fun c20 => ?_)
    · refine ii_iconst (n := 0) hx hb dW_open_27 ?_
      rw [← hQ]
      exact rd_iret hx hb hr hlocks (Or.inl ⟨by omega, Or.inr ⟨rfl, by rcases hzo with w | w; (exfalso; omega); (exact w.2)⟩⟩) dW_open_28
    · refine ii_iconst (n := 1) hx hb dW_open_23 ?_
      refine lv_goto (tgt := 28) hx hb dW_open_24 (by decide) ?_
      rw [← hQ]
      exact rd_iret hx hb hr hlocks (Or.inl ⟨by omega, Or.inl ⟨rfl, by rcases hzo with w | w; (exact w.2); (exfalso; omega)⟩⟩) dW_open_28
  · refine ii_iconst (n := (-1)) hx hb dW_open_9 ?_
    rw [← hQ]
    exact rd_iret hx hb hr hlocks (Or.inr ⟨by omega, rfl⟩) dW_open_10

def rm_c_pixels : Room := { frames := 3, cells := 0, slots := 0, locals := 62 }
set_option maxHeartbeats 4000000 in
set_option maxRecDepth 100000 in
theorem c_pixels (l : Launch) (D : va_G) (cA cB cS : ClassId) (wr : Nat) (cs : Nat) (rs : Nat) (ag : Nat) (oo : Nat) (cp : Nat) (aw : Nat) (pl : Nat) (ai : Nat) (at_ : Nat) (fI : Nat → Int) (fS : Nat → Int) (sv : Nat) (en : Nat) (st0 : Nat) (L : List Run3) (h3 : cs ≤ 256) (h4 : rs ≤ 256) (h11 : segL fI st0 L) (h12 : st0 + L.length = en) (h13 : ∀ x ∈ L, runOk cs rs x) (h14 : en ≤ 24000) (h15 : sv ≤ 12) (h16 : fS sv = (st0 : Int)) : Met l yW_pixels wW_pixels rm_c_pixels (pR [.ref wr] D vwCl (vwTy cA cB cS) vwNw [(wr, .inr (0, [.int (iI (cs : Int)), .int (iI (rs : Int)), .ref ag, .ref oo, .ref cp, .ref aw, .ref pl])), (cp, .inr (2, [.ref ai, .ref at_, .int (iI (sv : Int)), .int (iI (en : Int))])), (ai, .inl (cA, 24000, .inl (iA fI))), (at_, .inl (cA, 13, .inl (iA fS)))]) (qI (fun z => z = ((lenS L : Nat) : Int))) 0 0 (fun _ => False) := by
  refine Met.ofW (cc := bW_pixels) (maxL := 1) (ret := (some .int)) (by decide +kernel) rfl ?_
  intro p e s m args below meth c s₁ B hml hv
  obtain ⟨rfl, hP, hKW⟩ := hv
  have hK := hKW.1
  have hN := hKW.2.2
  have hx := B.exec
  have hb := B.bytes
  have hr := B.returns
  have hts := atoms_spec (ws := wW_pixels) B.pre
  have hown : s.vm.findClass "WindingRaster" = some m.cls := findClass_of_methodNamed B.named
  have hlocks := B.notSynchronized
  have hP : va_P D vwCl [(wr, .inr (0, [.int (iI (cs : Int)), .int (iI (rs : Int)), .ref ag, .ref oo, .ref cp, .ref aw, .ref pl])), (cp, .inr (2, [.ref ai, .ref at_, .int (iI (sv : Int)), .int (iI (en : Int))])), (ai, .inl (cA, 24000, .inl (iA fI))), (at_, .inl (cA, 13, .inl (iA fS)))] s.heap := hP
  have in_0 : ∀ w ∈ wsW, w ∈ wW_pixels := fun w h => List.mem_cons_of_mem _ (in0_W w h)
  have fl_47 := (hts _ (List.mem_cons_of_mem _ vm_73))
  have hl := lv_entry ([.ref wr]) (n := 1) (Nat.le_of_ble_eq_true rfl)
  rw [lg_entry_eq]
  generalize (lg_sl ([.ref wr]) ++ List.replicate (1 - (lg_sl ([.ref wr])).length) Slot.unset).toArray = ls at hl ⊢
  have hl : lv_has ls 1 [(0, .ref wr)] := hl
  generalize hQ : MQ below (qI (fun z => z = ((lenS L : Nat) : Int))) [.ref wr].toArray s 0 0 (fun _ => False) = QQ
  refine lv_aload_n hx hb dW_pixels_0 rfl (lv_at hl 0 rfl) ?_
  refine va_get (ci := 0) (v := .ref cp) (C := "WindingRaster") (T := TW) (N := 7) hx hb hts in_0 hown hK hP 0 rfl rfl 4 (by decide) fl_47 (fun _ h9 => h9) rfl dW_pixels_1 ?_
  refine cs_i (va_runVN (As := []) (rest := []) ⟨hx, hb, hml, hown, hts⟩ (c_pixelCount l D cA cB cS cp ai at_ fI fS sv en st0 L cs rs h15 h16 h11 h12 h13 (by omega) (by omega) h14) ⟨(va_cnB 0 hts (gIn vm_208) rfl rfl rfl (hN _ vn_28) (hts _ (List.mem_cons_of_mem _ vm_5)) (by decide +kernel) ⟨Nat.le_of_ble_eq_true rfl, Nat.le_of_ble_eq_true rfl⟩), (hts _ (List.mem_cons_of_mem _ vm_207)), (hts _ (List.mem_cons_of_mem _ vm_417))⟩ (pR.preV (va_recv hK hP (ci := 2) (q0 := 1) rfl rfl) (hP.sub [1, 2, 3] rfl) hKW) rfl rfl hl.1 rfl (lv_room (Nat.le_of_ble_eq_true rfl)) dW_pixels_4 ⟨Nat.le_of_ble_eq_true rfl, Nat.le_of_ble_eq_true rfl⟩) (fun z_1 hz_1 => ?_)
  subst hz_1
  rw [← hQ]
  exact rd_iret hx hb hr hlocks rfl dW_pixels_7

def rm_c_runs : Room := { frames := 0, cells := 0, slots := 0, locals := 0 }
set_option maxHeartbeats 4000000 in
set_option maxRecDepth 100000 in
theorem c_runs (l : Launch) (D : va_G) (cA cB cS : ClassId) (wr : Nat) (cs : Nat) (rs : Nat) (ag : Nat) (oo : Nat) (cp : Nat) (aw : Nat) (pl : Nat) (ai : Nat) (at_ : Nat) (fI : Nat → Int) (fS : Nat → Int) (sv : Nat) (en : Nat) : Met l yW_runs wW_runs rm_c_runs (pR [.ref wr] D vwCl (vwTy cA cB cS) vwNw [(wr, .inr (0, [.int (iI (cs : Int)), .int (iI (rs : Int)), .ref ag, .ref oo, .ref cp, .ref aw, .ref pl])), (cp, .inr (2, [.ref ai, .ref at_, .int (iI (sv : Int)), .int (iI (en : Int))])), (ai, .inl (cA, 24000, .inl (iA fI))), (at_, .inl (cA, 13, .inl (iA fS)))]) (qI (fun z => z = (en : Int))) 0 0 (fun _ => False) := by
  refine Met.ofW (cc := bW_runs) (maxL := 1) (ret := (some .int)) (by decide +kernel) rfl ?_
  intro p e s m args below meth c s₁ B hml hv
  obtain ⟨rfl, hP, hKW⟩ := hv
  have hK := hKW.1
  have hN := hKW.2.2
  have hx := B.exec
  have hb := B.bytes
  have hr := B.returns
  have hts := atoms_spec (ws := wW_runs) B.pre
  have hown : s.vm.findClass "WindingRaster" = some m.cls := findClass_of_methodNamed B.named
  have hlocks := B.notSynchronized
  have hP : va_P D vwCl [(wr, .inr (0, [.int (iI (cs : Int)), .int (iI (rs : Int)), .ref ag, .ref oo, .ref cp, .ref aw, .ref pl])), (cp, .inr (2, [.ref ai, .ref at_, .int (iI (sv : Int)), .int (iI (en : Int))])), (ai, .inl (cA, 24000, .inl (iA fI))), (at_, .inl (cA, 13, .inl (iA fS)))] s.heap := hP
  have in_0 : ∀ w ∈ wsW, w ∈ wW_runs := fun w h => List.mem_cons_of_mem _ (in0_W w h)
  have fl_47 := (hts _ (List.mem_cons_of_mem _ vm_73))
  have in_2 : ∀ w ∈ wsC, w ∈ wW_runs := fun w h => List.mem_cons_of_mem _ (in0_C w h)
  have fl_130 := va_Nw.use (A := [.ref wr].toArray) rfl (hN _ vn_6)
  have hl := lv_entry ([.ref wr]) (n := 1) (Nat.le_of_ble_eq_true rfl)
  rw [lg_entry_eq]
  generalize (lg_sl ([.ref wr]) ++ List.replicate (1 - (lg_sl ([.ref wr])).length) Slot.unset).toArray = ls at hl ⊢
  have hl : lv_has ls 1 [(0, .ref wr)] := hl
  generalize hQ : MQ below (qI (fun z => z = (en : Int))) [.ref wr].toArray s 0 0 (fun _ => False) = QQ
  refine lv_aload_n hx hb dW_runs_0 rfl (lv_at hl 0 rfl) ?_
  refine va_get (ci := 0) (v := .ref cp) (C := "WindingRaster") (T := TW) (N := 7) hx hb hts in_0 hown hK hP 0 rfl rfl 4 (by decide) fl_47 (fun _ h9 => h9) rfl dW_runs_1 ?_
  refine va_getN (ci := 2) (v := .int (iI (en : Int))) (C := "WindingRaster$ClipPile") (T := TC) (N := 4) hx hb hts in_2 hown hK hP 1 rfl rfl 3 (by decide) fl_130 (fun _ h9 => h9) rfl dW_runs_4 ?_
  rw [← hQ]
  exact rd_iret hx hb hr hlocks rfl dW_runs_7

def rm_c_count : Room := { frames := 1, cells := 0, slots := 0, locals := 22 }
set_option maxHeartbeats 4000000 in
set_option maxRecDepth 100000 in
theorem c_count (l : Launch) (D : va_G) (cA cB cS : ClassId) (wr : Nat) (cs : Nat) (rs : Nat) (ag : Nat) (oo : Nat) (cp : Nat) (aw : Nat) (pl : Nat) (fG : Nat → Int) (a1 : Int) (a2 : Int) (h1 : i32 a1) (h2 : i32 a2) (h3 : cs ≤ 256) (h4 : rs ≤ 256) (h5 : cs * rs ≤ 65536) (h7 : 0 < cs) (h8 : ∀ p, p < cs * rs → 0 ≤ fG p ∧ fG p ≤ 255) : Met l yW_count wW_count rm_c_count (pR [.ref wr, .int (iI a1), .int (iI a2)] D vwCl (vwTy cA cB cS) vwNw [(wr, .inr (0, [.int (iI (cs : Int)), .int (iI (rs : Int)), .ref ag, .ref oo, .ref cp, .ref aw, .ref pl])), (ag, .inl (cA, cs * rs, .inl (iA fG)))]) (qI (fun z => ((0 ≤ a1 ∧ a1 < (rs : Int)) ∧ z = sm (fun k => if fG (a1.toNat * cs + k) = a2 then 1 else 0) cs) ∨ (¬ (0 ≤ a1 ∧ a1 < (rs : Int)) ∧ z = -1))) 0 0 (fun _ => False) := by
  refine Met.ofW (cc := bW_count) (maxL := 5) (ret := (some .int)) (by decide +kernel) rfl ?_
  intro p e s m args below meth c s₁ B hml hv
  obtain ⟨rfl, hP, hKW⟩ := hv
  have hK := hKW.1
  have hN := hKW.2.2
  have hx := B.exec
  have hb := B.bytes
  have hr := B.returns
  have hts := atoms_spec (ws := wW_count) B.pre
  have hown : s.vm.findClass "WindingRaster" = some m.cls := findClass_of_methodNamed B.named
  have hlocks := B.notSynchronized
  have hP : va_P D vwCl [(wr, .inr (0, [.int (iI (cs : Int)), .int (iI (rs : Int)), .ref ag, .ref oo, .ref cp, .ref aw, .ref pl])), (ag, .inl (cA, cs * rs, .inl (iA fG)))] s.heap := hP
  have in_0 : ∀ w ∈ wsW, w ∈ wW_count := fun w h => List.mem_cons_of_mem _ (in0_W w h)
  have fl_18 := (hts _ (List.mem_cons_of_mem _ vm_69))
  have fl_25 := (hts _ (List.mem_cons_of_mem _ vm_71))
  have hl := lv_entry ([.ref wr, .int (iI a1), .int (iI a2)]) (n := 5) (Nat.le_of_ble_eq_true rfl)
  rw [lg_entry_eq]
  generalize (lg_sl ([.ref wr, .int (iI a1), .int (iI a2)]) ++ List.replicate (5 - (lg_sl ([.ref wr, .int (iI a1), .int (iI a2)])).length) Slot.unset).toArray = ls at hl ⊢
  have hl : lv_has ls 5 [(0, .ref wr), (1, .int (iI a1)), (2, .int (iI a2))] := hl
  generalize hQ : MQ below (qI (fun z => ((0 ≤ a1 ∧ a1 < (rs : Int)) ∧ z = sm (fun k => if fG (a1.toNat * cs + k) = a2 then 1 else 0) cs) ∨ (¬ (0 ≤ a1 ∧ a1 < (rs : Int)) ∧ z = -1))) [.ref wr, .int (iI a1), .int (iI a2)].toArray s 0 0 (fun _ => False) = QQ
  refine lv_aload_n hx hb dW_count_0 rfl (lv_at hl 0 rfl) ?_
  refine ii_iconst (n := 0) hx hb dW_count_1 ?_
  refine lv_iload_n hx hb dW_count_2 rfl (lv_at hl 1 rfl) ?_
  refine cs_i (va_runV (As := [.int (iI 0), .int (iI a1)]) (rest := []) ⟨hx, hb, hml, hown, hts⟩ (c_hasPixel l D cA cB cS wr cs rs ag oo cp aw pl 0 a1 (by omega) (by omega) (by omega) (by omega)) ⟨(callB_of 2 hts (gIn vm_129) rfl rfl rfl (hts _ (List.mem_cons_of_mem _ vm_1)) (hts _ (List.mem_cons_of_mem _ vm_127)) (by decide +kernel) ⟨Nat.le_of_ble_eq_true rfl, Nat.le_of_ble_eq_true rfl⟩), (hts _ (List.mem_cons_of_mem _ vm_128)), (hts _ (List.mem_cons_of_mem _ vm_402))⟩ (pR.preV (va_recv hK hP (ci := 0) (q0 := 0) rfl rfl) (hP.sub [0] rfl) hKW) rfl rfl hl.1 rfl (lv_room (Nat.le_of_ble_eq_true rfl)) dW_count_3 ⟨Nat.le_of_ble_eq_true rfl, Nat.le_of_ble_eq_true rfl⟩) (fun z_1 hz_1 => ?_)
  refine ii_if_ne (tgt := 11) hx hb dW_count_6 (by decide) (by omega) (fun c6 => ?_) (fun c6 => ?_)
  · obtain ⟨kr, hkr⟩ : ∃ kr : Nat, a1 = (kr : Int) := ⟨a1.toNat, by omega⟩
    rw [hkr] at hl
    have hix := idx_le (cs := cs) (r := kr) (rs := rs) (by omega)
    refine ii_iconst (n := 0) hx hb dW_count_11 ?_
    refine lv_istore_n (lv' := [(3, .int (iI 0)), (0, .ref wr), (1, .int (iI (kr : Int))), (2, .int (iI a2))]) hx hb dW_count_12 rfl hl (by decide) rfl (fun ls hl => ?_)
    refine ii_iconst (n := 0) hx hb dW_count_13 ?_
    refine lv_istore (lv' := [(4, .int (iI 0)), (3, .int (iI 0)), (0, .ref wr), (1, .int (iI (kr : Int))), (2, .int (iI a2))]) hx hb dW_count_14 hl (by decide) rfl (fun ls hl => ?_)
    have lp16 : ∀ (n_ : Nat) (k : Nat) (fo : Nat), (k ≤ cs) → ((fo : Int) = sm (fun k => if fG (kr * cs + k) = a2 then 1 else 0) k) → (cs - k) < n_ → ∀ ls : Array Slot, lv_has ls 5 [(4, .int (iI (k : Int))), (3, .int (iI (fo : Int))), (0, .ref wr), (1, .int (iI (kr : Int))), (2, .int (iI a2))] → W p l e (headSpec wW_count rm_c_count).room s m [.ref wr, .int (iI a1), .int (iI a2)].toArray below meth c s.heap [] 0 0 QQ (F0 m 16 ls []) := by
      intro n_
      induction n_ with
      | zero =>
        intro k fo k1 k2 hm_
        exact absurd hm_ (Nat.not_lt_zero _)
      | succ n_ ih_lp16 =>
        intro k fo k1 k2 hm_lp16 ls hl
        refine lv_iload hx hb dW_count_16 (lv_at hl 0 rfl) ?_
        refine lv_aload_n hx hb dW_count_18 rfl (lv_at hl 2 rfl) ?_
        refine va_get (ci := 0) (v := .int (iI (cs : Int))) (C := "WindingRaster") (T := TW) (N := 7) hx hb hts in_0 hown hK hP 0 rfl rfl 0 (by decide) fl_18 (fun _ h9 => h9) rfl dW_count_19 ?_
        refine ii_icmp_ge (tgt := 52) hx hb dW_count_22 (by decide) (by omega) (by omega) (fun c22 => ?_) (fun c22 => ?_)
        · refine lv_iload_n hx hb dW_count_52 rfl (lv_at hl 1 rfl) ?_
          rw [← hQ]
          exact rd_iret hx hb hr hlocks (Or.inl ⟨by omega, by rw [show a1.toNat = kr by omega, k2, show k = cs by omega]⟩) dW_count_53
        · have g8 := h8 (kr * cs + k) (by omega)
          refine lv_aload_n hx hb dW_count_25 rfl (lv_at hl 2 rfl) ?_
          refine va_get (ci := 0) (v := .ref ag) (C := "WindingRaster") (T := TW) (N := 7) hx hb hts in_0 hown hK hP 0 rfl rfl 2 (by decide) fl_25 (fun _ h9 => h9) rfl dW_count_26 ?_
          refine lv_iload_n hx hb dW_count_29 rfl (lv_at hl 3 rfl) ?_
          refine lv_aload_n hx hb dW_count_30 rfl (lv_at hl 2 rfl) ?_
          refine va_get (ci := 0) (v := .int (iI (cs : Int))) (C := "WindingRaster") (T := TW) (N := 7) hx hb hts in_0 hown hK hP 0 rfl rfl 0 (by decide) fl_18 (fun _ h9 => h9) rfl dW_count_31 ?_
          refine ii_imul hx hb dW_count_34 ?_
          refine ii_top (y := ((kr * cs : Nat) : Int)) (by push_cast; rfl) ?_
          refine lv_iload hx hb dW_count_35 (lv_at hl 0 rfl) ?_
          refine ii_iadd hx hb dW_count_37 ?_
          refine ii_top (y := (((kr * cs) + k : Nat) : Int)) (by push_cast; rfl) ?_
          refine ii_iald hx hb hK hP 1 0 rfl rfl ((kr * cs) + k) rfl (by omega) (by omega) dW_count_38 ?_
          refine lv_iload_n hx hb dW_count_39 rfl (lv_at hl 4 rfl) ?_
          refine ii_icmp_ne (tgt := 46) hx hb dW_count_40 (by decide) (by omega) (by omega) (fun c40 => ?_) (fun c40 => ?_)
          · refine lv_iinc (v := iI ((k + 1 : Nat) : Int)) (lv' := [(4, .int (iI ((k + 1 : Nat) : Int))), (3, .int (iI (fo : Int))), (0, .ref wr), (1, .int (iI (kr : Int))), (2, .int (iI a2))]) hx hb dW_count_46 hl (k := 0) rfl (iI_inc _ 1 (by omega)) (by decide) rfl (fun ls hl => ?_)
            refine lv_goto (tgt := 16) hx hb dW_count_49 (by decide) ?_
            exact ih_lp16 (k + 1) fo (by omega) (by show _ = sm _ k + _; rw [← k2]; dsimp only; rw [if_neg (by omega)]; omega) (by omega) _ (lv_sub hl [0, 1, 2, 3, 4] rfl)
          · refine lv_iinc (v := iI ((fo + 1 : Nat) : Int)) (lv' := [(3, .int (iI ((fo + 1 : Nat) : Int))), (4, .int (iI (k : Int))), (0, .ref wr), (1, .int (iI (kr : Int))), (2, .int (iI a2))]) hx hb dW_count_43 hl (k := 1) rfl (iI_inc _ 1 (by omega)) (by decide) rfl (fun ls hl => ?_)
            refine lv_iinc (v := iI ((k + 1 : Nat) : Int)) (lv' := [(4, .int (iI ((k + 1 : Nat) : Int))), (3, .int (iI ((fo + 1 : Nat) : Int))), (0, .ref wr), (1, .int (iI (kr : Int))), (2, .int (iI a2))]) hx hb dW_count_46 hl (k := 1) rfl (iI_inc _ 1 (by omega)) (by decide) rfl (fun ls hl => ?_)
            refine lv_goto (tgt := 16) hx hb dW_count_49 (by decide) ?_
            exact ih_lp16 (k + 1) (fo + 1) (by omega) (by show _ = sm _ k + _; rw [← k2]; dsimp only; rw [if_pos (by omega)]; omega) (by omega) _ (lv_sub hl [0, 1, 2, 3, 4] rfl)
    exact lp16 (cs - 0 + 1) 0 0 (by omega) rfl (Nat.lt_succ_self _) _ (lv_sub hl [0, 1, 2, 3, 4] rfl)
  · refine ii_iconst (n := (-1)) hx hb dW_count_9 ?_
    rw [← hQ]
    exact rd_iret hx hb hr hlocks (Or.inr ⟨by omega, rfl⟩) dW_count_10

def rm_c_flood : Room := { frames := 4, cells := 0, slots := 0, locals := 91 }
set_option maxHeartbeats 4000000 in
set_option maxRecDepth 100000 in
theorem c_flood (l : Launch) (D : va_G) (cA cB cS : ClassId) (wr : Nat) (cs : Nat) (rs : Nat) (ag : Nat) (oo : Nat) (cp : Nat) (aw : Nat) (pl : Nat) (fG : Nat → Int) (ai : Nat) (at_ : Nat) (fI : Nat → Int) (fS : Nat → Int) (sv : Nat) (en : Nat) (st0 : Nat) (L : List Run3) (a1 : Int) (h1 : i32 a1) (h3 : cs ≤ 256) (h4 : rs ≤ 256) (h5 : cs * rs ≤ 65536) (h11 : segL fI st0 L) (h12 : st0 + L.length = en) (h13 : ∀ x ∈ L, runOk cs rs x) (h14 : en ≤ 24000) (h15 : sv ≤ 12) (h16 : fS sv = (st0 : Int)) (sz : Nat) : Met l yW_flood wW_flood rm_c_flood (pW [.ref wr, .int (iI a1)] D vwCl (vwTy cA cB cS) vwNw [(wr, .inr (0, [.int (iI (cs : Int)), .int (iI (rs : Int)), .ref ag, .ref oo, .ref cp, .ref aw, .ref pl])), (ag, .inl (cA, cs * rs, .inl (iA fG))), (cp, .inr (2, [.ref ai, .ref at_, .int (iI (sv : Int)), .int (iI (en : Int))])), (ai, .inl (cA, 24000, .inl (iA fI))), (at_, .inl (cA, 13, .inl (iA fS)))] sz) (qW (S := (Nat → Int)) (fun (z : Int) (fG1 : (Nat → Int)) => (z = -1 ∧ ¬ (0 ≤ a1 ∧ a1 ≤ 255) ∧ fG1 = fG) ∨ ((0 ≤ a1 ∧ a1 ≤ 255) ∧ z = ((lenS L : Nat) : Int) ∧ ∀ p, fG1 p = paL cs a1 L fG p)) D vwCl [(wr, .inr (0, [.int (iI (cs : Int)), .int (iI (rs : Int)), .ref ag, .ref oo, .ref cp, .ref aw, .ref pl])), (ag, .inl (cA, cs * rs, .inl (iA fG))), (cp, .inr (2, [.ref ai, .ref at_, .int (iI (sv : Int)), .int (iI (en : Int))])), (ai, .inl (cA, 24000, .inl (iA fI))), (at_, .inl (cA, 13, .inl (iA fS)))] sz (fun fG1 : (Nat → Int) => [(wr, .inr (0, [.int (iI (cs : Int)), .int (iI (rs : Int)), .ref ag, .ref oo, .ref cp, .ref aw, .ref pl])), (ag, .inl (cA, cs * rs, .inl (iA fG1))), (cp, .inr (2, [.ref ai, .ref at_, .int (iI (sv : Int)), .int (iI (en : Int))])), (ai, .inl (cA, 24000, .inl (iA fI))), (at_, .inl (cA, 13, .inl (iA fS)))])) 0 0 (va_A [(wr, .inr (0, [.int (iI (cs : Int)), .int (iI (rs : Int)), .ref ag, .ref oo, .ref cp, .ref aw, .ref pl])), (ag, .inl (cA, cs * rs, .inl (iA fG))), (cp, .inr (2, [.ref ai, .ref at_, .int (iI (sv : Int)), .int (iI (en : Int))])), (ai, .inl (cA, 24000, .inl (iA fI))), (at_, .inl (cA, 13, .inl (iA fS)))] sz) := by
  refine Met.ofW (cc := bW_flood) (maxL := 2) (ret := (some .int)) (by decide +kernel) rfl ?_
  intro p e s m args below meth c s₁ B hml hv
  obtain ⟨rfl, hsz, hP, hKW, hD0⟩ := hv
  have hK := hKW.1
  have hN := hKW.2.2
  have hx := B.exec
  have hb := B.bytes
  have hr := B.returns
  have hts := atoms_spec (ws := wW_flood) B.pre
  have hown : s.vm.findClass "WindingRaster" = some m.cls := findClass_of_methodNamed B.named
  have hlocks := B.notSynchronized
  subst hsz
  have hD := hD0.self (sz := s.heap.size)
  obtain ⟨A, hAe⟩ : ∃ A, va_A [(wr, .inr (0, [.int (iI (cs : Int)), .int (iI (rs : Int)), .ref ag, .ref oo, .ref cp, .ref aw, .ref pl])), (ag, .inl (cA, cs * rs, .inl (iA fG))), (cp, .inr (2, [.ref ai, .ref at_, .int (iI (sv : Int)), .int (iI (en : Int))])), (ai, .inl (cA, 24000, .inl (iA fI))), (at_, .inl (cA, 13, .inl (iA fS)))] s.heap.size = A := ⟨_, rfl⟩
  rw [hAe] at hD
  have hA : ∀ q : Nat, s.heap.size ≤ q → A q := fun q h => by rw [← hAe]; exact Or.inr h
  have hS : va_S A s.heap s.heap [] := va_S.rf
  have hP : va_P D vwCl [(wr, .inr (0, [.int (iI (cs : Int)), .int (iI (rs : Int)), .ref ag, .ref oo, .ref cp, .ref aw, .ref pl])), (ag, .inl (cA, cs * rs, .inl (iA fG))), (cp, .inr (2, [.ref ai, .ref at_, .int (iI (sv : Int)), .int (iI (en : Int))])), (ai, .inl (cA, 24000, .inl (iA fI))), (at_, .inl (cA, 13, .inl (iA fS)))] s.heap := hP
  have in_0 : ∀ w ∈ wsW, w ∈ wW_flood := fun w h => List.mem_cons_of_mem _ (in0_W w h)
  have fl_47 := (hts _ (List.mem_cons_of_mem _ vm_73))
  have in_2 : ∀ w ∈ wsC, w ∈ wW_flood := fun w h => List.mem_cons_of_mem _ (in0_C w h)
  have fl_133 := va_Nw.use (A := [.ref wr, .int (iI a1)].toArray) rfl (hN _ vn_4)
  have fl_130 := va_Nw.use (A := [.ref wr, .int (iI a1)].toArray) rfl (hN _ vn_6)
  have hl := lv_entry ([.ref wr, .int (iI a1)]) (n := 2) (Nat.le_of_ble_eq_true rfl)
  rw [lg_entry_eq]
  generalize (lg_sl ([.ref wr, .int (iI a1)]) ++ List.replicate (2 - (lg_sl ([.ref wr, .int (iI a1)])).length) Slot.unset).toArray = ls at hl ⊢
  have hl : lv_has ls 2 [(0, .ref wr), (1, .int (iI a1))] := hl
  generalize hQ : MQ below (qW (S := (Nat → Int)) (fun (z : Int) (fG1 : (Nat → Int)) => (z = -1 ∧ ¬ (0 ≤ a1 ∧ a1 ≤ 255) ∧ fG1 = fG) ∨ ((0 ≤ a1 ∧ a1 ≤ 255) ∧ z = ((lenS L : Nat) : Int) ∧ ∀ p, fG1 p = paL cs a1 L fG p)) D vwCl [(wr, .inr (0, [.int (iI (cs : Int)), .int (iI (rs : Int)), .ref ag, .ref oo, .ref cp, .ref aw, .ref pl])), (ag, .inl (cA, cs * rs, .inl (iA fG))), (cp, .inr (2, [.ref ai, .ref at_, .int (iI (sv : Int)), .int (iI (en : Int))])), (ai, .inl (cA, 24000, .inl (iA fI))), (at_, .inl (cA, 13, .inl (iA fS)))] s.heap.size (fun fG1 : (Nat → Int) => [(wr, .inr (0, [.int (iI (cs : Int)), .int (iI (rs : Int)), .ref ag, .ref oo, .ref cp, .ref aw, .ref pl])), (ag, .inl (cA, cs * rs, .inl (iA fG1))), (cp, .inr (2, [.ref ai, .ref at_, .int (iI (sv : Int)), .int (iI (en : Int))])), (ai, .inl (cA, 24000, .inl (iA fI))), (at_, .inl (cA, 13, .inl (iA fS)))])) [.ref wr, .int (iI a1)].toArray s 0 0 (va_A [(wr, .inr (0, [.int (iI (cs : Int)), .int (iI (rs : Int)), .ref ag, .ref oo, .ref cp, .ref aw, .ref pl])), (ag, .inl (cA, cs * rs, .inl (iA fG))), (cp, .inr (2, [.ref ai, .ref at_, .int (iI (sv : Int)), .int (iI (en : Int))])), (ai, .inl (cA, 24000, .inl (iA fI))), (at_, .inl (cA, 13, .inl (iA fS)))] s.heap.size) = QQ
  refine lv_iload_n hx hb dW_flood_0 rfl (lv_at hl 1 rfl) ?_
  refine cs_i (va_runS (As := [.int (iI a1)]) (rest := []) ⟨hx, hb, hml, hown, hts⟩ (c_isGray l D cA cB cS a1 (by omega)) ⟨(callB_of 1 hts (gIn vm_158) rfl rfl rfl (hts _ (List.mem_cons_of_mem _ vm_1)) (hts _ (List.mem_cons_of_mem _ vm_156)) (by decide +kernel) ⟨Nat.le_of_ble_eq_true rfl, Nat.le_of_ble_eq_true rfl⟩), (hts _ (List.mem_cons_of_mem _ vm_157))⟩ (pR.pre (hP.sub [] rfl) hKW) rfl rfl hl.1 rfl (lv_room (Nat.le_of_ble_eq_true rfl)) dW_flood_1 ⟨Nat.le_of_ble_eq_true rfl, Nat.le_of_ble_eq_true rfl⟩) (fun z_1 hz_1 => ?_)
  refine ii_if_ne (tgt := 9) hx hb dW_flood_4 (by decide) (by omega) (fun c4 => ?_) (fun c4 => ?_)
  · refine lv_aload_n hx hb dW_flood_9 rfl (lv_at hl 0 rfl) ?_
    refine lv_aload_n hx hb dW_flood_10 rfl (lv_at hl 0 rfl) ?_
    refine va_get (ci := 0) (v := .ref cp) (C := "WindingRaster") (T := TW) (N := 7) hx hb hts in_0 hown hK hP 0 rfl rfl 4 (by decide) fl_47 (fun _ h9 => h9) rfl dW_flood_11 ?_
    refine va_getN (ci := 2) (v := .ref ai) (C := "WindingRaster$ClipPile") (T := TC) (N := 4) hx hb hts in_2 hown hK hP 2 rfl rfl 0 (by decide) fl_133 (fun _ h9 => h9) rfl dW_flood_14 ?_
    refine lv_aload_n hx hb dW_flood_17 rfl (lv_at hl 0 rfl) ?_
    refine va_get (ci := 0) (v := .ref cp) (C := "WindingRaster") (T := TW) (N := 7) hx hb hts in_0 hown hK hP 0 rfl rfl 4 (by decide) fl_47 (fun _ h9 => h9) rfl dW_flood_18 ?_
    refine cs_i (va_runVN (As := []) (rest := [.ref ai, .ref wr]) ⟨hx, hb, hml, hown, hts⟩ (c_start l D cA cB cS cp ai at_ fI fS sv en st0 h15 h16) ⟨(va_cnB 0 hts (gIn vm_163) rfl rfl rfl (hN _ vn_18) (hts _ (List.mem_cons_of_mem _ vm_5)) (by decide +kernel) ⟨Nat.le_of_ble_eq_true rfl, Nat.le_of_ble_eq_true rfl⟩), (hts _ (List.mem_cons_of_mem _ vm_162)), (hts _ (List.mem_cons_of_mem _ vm_408))⟩ (pR.preV (va_recv hK hP (ci := 2) (q0 := 2) rfl rfl) (hP.sub [2, 3, 4] rfl) hKW) rfl rfl hl.1 rfl (lv_room (Nat.le_of_ble_eq_true rfl)) dW_flood_21 ⟨Nat.le_of_ble_eq_true rfl, Nat.le_of_ble_eq_true rfl⟩) (fun z_2 hz_2 => ?_)
    subst hz_2
    refine lv_aload_n hx hb dW_flood_24 rfl (lv_at hl 0 rfl) ?_
    refine va_get (ci := 0) (v := .ref cp) (C := "WindingRaster") (T := TW) (N := 7) hx hb hts in_0 hown hK hP 0 rfl rfl 4 (by decide) fl_47 (fun _ h9 => h9) rfl dW_flood_25 ?_
    refine va_getN (ci := 2) (v := .int (iI (en : Int))) (C := "WindingRaster$ClipPile") (T := TC) (N := 4) hx hb hts in_2 hown hK hP 2 rfl rfl 3 (by decide) fl_130 (fun _ h9 => h9) rfl dW_flood_28 ?_
    refine lv_iload_n hx hb dW_flood_31 rfl (lv_at hl 1 rfl) ?_
    refine cw_i (wc := [(wr, .inr (0, [.int (iI (cs : Int)), .int (iI (rs : Int)), .ref ag, .ref oo, .ref cp, .ref aw, .ref pl])), (ai, .inl (cA, 24000, .inl (iA fI))), (ag, .inl (cA, cs * rs, .inl (iA fG)))]) (wr := [(cp, .inr (2, [.ref ai, .ref at_, .int (iI (sv : Int)), .int (iI (en : Int))])), (at_, .inl (cA, 13, .inl (iA fS)))]) hP hD hS hA [0, 3, 1] [2, 4] rfl rfl (by decide) (by decide) (va_runV (As := [.ref ai, .int (iI (st0 : Int)), .int (iI (en : Int)), .int (iI a1)]) (rest := []) ⟨hx, hb, hml, hown, hts⟩ (c_paint l D cA cB cS wr cs rs ag oo cp aw pl ai 24000 fI fG st0 en a1 L h11 h12 h13 (by omega) (by omega) (by omega) (by omega) (by omega) _) ⟨(callB_of 4 hts (gIn vm_186) rfl rfl rfl (hts _ (List.mem_cons_of_mem _ vm_1)) (hts _ (List.mem_cons_of_mem _ vm_184)) (by decide +kernel) ⟨Nat.le_of_ble_eq_true rfl, Nat.le_of_ble_eq_true rfl⟩), (hts _ (List.mem_cons_of_mem _ vm_185)), (hts _ (List.mem_cons_of_mem _ vm_413))⟩ (pW.preV (va_recv hK hP (ci := 0) (q0 := 0) rfl rfl) (hP.sub [0, 3, 1] rfl) (hD.sub [0, 3, 1] (by decide) rfl) hKW) rfl rfl hl.1 rfl (lv_room (Nat.le_of_ble_eq_true rfl)) dW_flood_32 ⟨Nat.le_of_ble_eq_true rfl, Nat.le_of_ble_eq_true rfl⟩) (fun zp u_3 H locs hzp hP hD hS => ?_)
    obtain ⟨fG1, rfl⟩ : ∃ z_, z_ = u_3 := ⟨_, rfl⟩
    try dsimp only at hzp
    have hP : va_P D vwCl [(cp, .inr (2, [.ref ai, .ref at_, .int (iI (sv : Int)), .int (iI (en : Int))])), (at_, .inl (cA, 13, .inl (iA fS))), (wr, .inr (0, [.int (iI (cs : Int)), .int (iI (rs : Int)), .ref ag, .ref oo, .ref cp, .ref aw, .ref pl])), (ai, .inl (cA, 24000, .inl (iA fI))), (ag, .inl (cA, cs * rs, .inl (iA fG1)))] H := hP
    have hD : va_D A [(cp, .inr (2, [.ref ai, .ref at_, .int (iI (sv : Int)), .int (iI (en : Int))])), (at_, .inl (cA, 13, .inl (iA fS))), (wr, .inr (0, [.int (iI (cs : Int)), .int (iI (rs : Int)), .ref ag, .ref oo, .ref cp, .ref aw, .ref pl])), (ai, .inl (cA, 24000, .inl (iA fI))), (ag, .inl (cA, cs * rs, .inl (iA fG1)))] := hD
    rw [← hQ]
    exact wr_iret fG1 hx hb hr hlocks hAe (hP.sub [2, 4, 0, 3, 1] rfl) (hD.sub [2, 4, 0, 3, 1] (by decide) rfl) hS (Or.inr ⟨by omega, hzp⟩) dW_flood_35
  · refine ii_iconst (n := (-1)) hx hb dW_flood_7 ?_
    rw [← hQ]
    exact wr_iret fG hx hb hr hlocks hAe (hP.sub [0, 1, 2, 3, 4] rfl) (hD.sub [0, 1, 2, 3, 4] (by decide) rfl) hS (Or.inl ⟨rfl, by omega, rfl⟩) dW_flood_8

def rm_c_fill : Room := { frames := 4, cells := 0, slots := 0, locals := 109 }
set_option maxHeartbeats 4000000 in
set_option maxRecDepth 100000 in
theorem c_fill (l : Launch) (D : va_G) (cA cB cS : ClassId) (wr : Nat) (cs : Nat) (rs : Nat) (ag : Nat) (oo : Nat) (cp : Nat) (aw : Nat) (pl : Nat) (fG : Nat → Int) (ax : Nat) (ay : Nat) (an : Nat) (fX : Nat → Int) (fY : Nat → Int) (fN : Nat → Int) (np : Nat) (l0 : Nat) (ai : Nat) (at_ : Nat) (fI : Nat → Int) (fS : Nat → Int) (sv : Nat) (en : Nat) (fW : Nat → Int) (ap : Nat) (fP : Nat → Int) (pn : Nat) (pm : Nat) (st0 : Nat) (L : List Run3) (a1 : Int) (a2 : Int) (h1 : i32 a1) (h3 : cs ≤ 256) (h4 : rs ≤ 256) (h5 : cs * rs ≤ 65536) (h6 : ∀ i, i < np → (-536870912 ≤ fX i ∧ fX i ≤ 536870912) ∧ (-536870912 ≤ fY i ∧ fY i ≤ 536870912)) (h7 : ∀ i, i < np → 0 ≤ fN i ∧ fN i < (np : Int)) (h8 : np ≤ 4096) (h9 : 0 < cs) (h10 : (cutA (gW fX fY fN np a1) L).length ≤ pm) (h17 : pm < 2147483648) (h11 : segL fI st0 L) (h12 : st0 + L.length = en) (h13 : ∀ x ∈ L, runOk cs rs x) (h14 : en ≤ 24000) (h15 : sv ≤ 12) (h16 : fS sv = (st0 : Int)) (h2 : i32 a2) (h18 : ∀ x ∈ cutA (gW fX fY fN np a1) L, runOk cs rs x) (sz : Nat) : Met l yW_fill wW_fill rm_c_fill (pW [.ref wr, .int (iI a1), .int (iI a2)] D vwCl (vwTy cA cB cS) vwNw [(wr, .inr (0, [.int (iI (cs : Int)), .int (iI (rs : Int)), .ref ag, .ref oo, .ref cp, .ref aw, .ref pl])), (ag, .inl (cA, cs * rs, .inl (iA fG))), (oo, .inr (1, [.ref ax, .ref ay, .ref an, .int (iI (np : Int)), .int (iI (l0 : Int))])), (ax, .inl (cA, 4096, .inl (iA fX))), (ay, .inl (cA, 4096, .inl (iA fY))), (an, .inl (cA, 4096, .inl (iA fN))), (cp, .inr (2, [.ref ai, .ref at_, .int (iI (sv : Int)), .int (iI (en : Int))])), (ai, .inl (cA, 24000, .inl (iA fI))), (at_, .inl (cA, 13, .inl (iA fS))), (aw, .inl (cA, cs, .inl (iA fW))), (pl, .inr (3, [.ref ap, .int (iI (pn : Int))])), (ap, .inl (cA, pm, .inl (iA fP)))] sz) (qW (S := (Nat → Int) × (Nat → Int) × (Nat → Int) × Nat) (fun (z : Int) (u : (Nat → Int) × (Nat → Int) × (Nat → Int) × Nat) => (z = -1 ∧ ¬ ((a1 = 0 ∨ a1 = 1) ∧ 0 ≤ a2 ∧ a2 ≤ 255) ∧ u.1 = fG) ∨ (((a1 = 0 ∨ a1 = 1) ∧ 0 ≤ a2 ∧ a2 ≤ 255) ∧ z = ((lenS (cutA (gW fX fY fN np a1) L) : Nat) : Int) ∧ ∀ p, u.1 p = paL cs a2 (cutA (gW fX fY fN np a1) L) fG p)) D vwCl [(wr, .inr (0, [.int (iI (cs : Int)), .int (iI (rs : Int)), .ref ag, .ref oo, .ref cp, .ref aw, .ref pl])), (ag, .inl (cA, cs * rs, .inl (iA fG))), (oo, .inr (1, [.ref ax, .ref ay, .ref an, .int (iI (np : Int)), .int (iI (l0 : Int))])), (ax, .inl (cA, 4096, .inl (iA fX))), (ay, .inl (cA, 4096, .inl (iA fY))), (an, .inl (cA, 4096, .inl (iA fN))), (cp, .inr (2, [.ref ai, .ref at_, .int (iI (sv : Int)), .int (iI (en : Int))])), (ai, .inl (cA, 24000, .inl (iA fI))), (at_, .inl (cA, 13, .inl (iA fS))), (aw, .inl (cA, cs, .inl (iA fW))), (pl, .inr (3, [.ref ap, .int (iI (pn : Int))])), (ap, .inl (cA, pm, .inl (iA fP)))] sz (fun u : (Nat → Int) × (Nat → Int) × (Nat → Int) × Nat => [(wr, .inr (0, [.int (iI (cs : Int)), .int (iI (rs : Int)), .ref ag, .ref oo, .ref cp, .ref aw, .ref pl])), (ag, .inl (cA, cs * rs, .inl (iA u.1))), (oo, .inr (1, [.ref ax, .ref ay, .ref an, .int (iI (np : Int)), .int (iI (l0 : Int))])), (ax, .inl (cA, 4096, .inl (iA fX))), (ay, .inl (cA, 4096, .inl (iA fY))), (an, .inl (cA, 4096, .inl (iA fN))), (cp, .inr (2, [.ref ai, .ref at_, .int (iI (sv : Int)), .int (iI (en : Int))])), (ai, .inl (cA, 24000, .inl (iA fI))), (at_, .inl (cA, 13, .inl (iA fS))), (aw, .inl (cA, cs, .inl (iA u.2.1))), (pl, .inr (3, [.ref ap, .int (iI ((u.2.2.2 : Nat) : Int))])), (ap, .inl (cA, pm, .inl (iA u.2.2.1)))])) 0 0 (va_A [(wr, .inr (0, [.int (iI (cs : Int)), .int (iI (rs : Int)), .ref ag, .ref oo, .ref cp, .ref aw, .ref pl])), (ag, .inl (cA, cs * rs, .inl (iA fG))), (oo, .inr (1, [.ref ax, .ref ay, .ref an, .int (iI (np : Int)), .int (iI (l0 : Int))])), (ax, .inl (cA, 4096, .inl (iA fX))), (ay, .inl (cA, 4096, .inl (iA fY))), (an, .inl (cA, 4096, .inl (iA fN))), (cp, .inr (2, [.ref ai, .ref at_, .int (iI (sv : Int)), .int (iI (en : Int))])), (ai, .inl (cA, 24000, .inl (iA fI))), (at_, .inl (cA, 13, .inl (iA fS))), (aw, .inl (cA, cs, .inl (iA fW))), (pl, .inr (3, [.ref ap, .int (iI (pn : Int))])), (ap, .inl (cA, pm, .inl (iA fP)))] sz) := by
  refine Met.ofW (cc := bW_fill) (maxL := 3) (ret := (some .int)) (by decide +kernel) rfl ?_
  intro p e s m args below meth c s₁ B hml hv
  obtain ⟨rfl, hsz, hP, hKW, hD0⟩ := hv
  have hK := hKW.1
  have hN := hKW.2.2
  have hx := B.exec
  have hb := B.bytes
  have hr := B.returns
  have hts := atoms_spec (ws := wW_fill) B.pre
  have hown : s.vm.findClass "WindingRaster" = some m.cls := findClass_of_methodNamed B.named
  have hlocks := B.notSynchronized
  subst hsz
  have hD := hD0.self (sz := s.heap.size)
  obtain ⟨A, hAe⟩ : ∃ A, va_A [(wr, .inr (0, [.int (iI (cs : Int)), .int (iI (rs : Int)), .ref ag, .ref oo, .ref cp, .ref aw, .ref pl])), (ag, .inl (cA, cs * rs, .inl (iA fG))), (oo, .inr (1, [.ref ax, .ref ay, .ref an, .int (iI (np : Int)), .int (iI (l0 : Int))])), (ax, .inl (cA, 4096, .inl (iA fX))), (ay, .inl (cA, 4096, .inl (iA fY))), (an, .inl (cA, 4096, .inl (iA fN))), (cp, .inr (2, [.ref ai, .ref at_, .int (iI (sv : Int)), .int (iI (en : Int))])), (ai, .inl (cA, 24000, .inl (iA fI))), (at_, .inl (cA, 13, .inl (iA fS))), (aw, .inl (cA, cs, .inl (iA fW))), (pl, .inr (3, [.ref ap, .int (iI (pn : Int))])), (ap, .inl (cA, pm, .inl (iA fP)))] s.heap.size = A := ⟨_, rfl⟩
  rw [hAe] at hD
  have hA : ∀ q : Nat, s.heap.size ≤ q → A q := fun q h => by rw [← hAe]; exact Or.inr h
  have hS : va_S A s.heap s.heap [] := va_S.rf
  have hP : va_P D vwCl [(wr, .inr (0, [.int (iI (cs : Int)), .int (iI (rs : Int)), .ref ag, .ref oo, .ref cp, .ref aw, .ref pl])), (ag, .inl (cA, cs * rs, .inl (iA fG))), (oo, .inr (1, [.ref ax, .ref ay, .ref an, .int (iI (np : Int)), .int (iI (l0 : Int))])), (ax, .inl (cA, 4096, .inl (iA fX))), (ay, .inl (cA, 4096, .inl (iA fY))), (an, .inl (cA, 4096, .inl (iA fN))), (cp, .inr (2, [.ref ai, .ref at_, .int (iI (sv : Int)), .int (iI (en : Int))])), (ai, .inl (cA, 24000, .inl (iA fI))), (at_, .inl (cA, 13, .inl (iA fS))), (aw, .inl (cA, cs, .inl (iA fW))), (pl, .inr (3, [.ref ap, .int (iI (pn : Int))])), (ap, .inl (cA, pm, .inl (iA fP)))] s.heap := hP
  have in_0 : ∀ w ∈ wsW, w ∈ wW_fill := fun w h => List.mem_cons_of_mem _ (in0_W w h)
  have fl_59 := (hts _ (List.mem_cons_of_mem _ vm_75))
  have in_3 : ∀ w ∈ wsL, w ∈ wW_fill := fun w h => List.mem_cons_of_mem _ (in0_L w h)
  have fl_102 := va_Nw.use (A := [.ref wr, .int (iI a1), .int (iI a2)].toArray) rfl (hN _ vn_9)
  have fl_105 := va_Nw.use (A := [.ref wr, .int (iI a1), .int (iI a2)].toArray) rfl (hN _ vn_11)
  have hl := lv_entry ([.ref wr, .int (iI a1), .int (iI a2)]) (n := 3) (Nat.le_of_ble_eq_true rfl)
  rw [lg_entry_eq]
  generalize (lg_sl ([.ref wr, .int (iI a1), .int (iI a2)]) ++ List.replicate (3 - (lg_sl ([.ref wr, .int (iI a1), .int (iI a2)])).length) Slot.unset).toArray = ls at hl ⊢
  have hl : lv_has ls 3 [(0, .ref wr), (1, .int (iI a1)), (2, .int (iI a2))] := hl
  generalize hQ : MQ below (qW (S := (Nat → Int) × (Nat → Int) × (Nat → Int) × Nat) (fun (z : Int) (u : (Nat → Int) × (Nat → Int) × (Nat → Int) × Nat) => (z = -1 ∧ ¬ ((a1 = 0 ∨ a1 = 1) ∧ 0 ≤ a2 ∧ a2 ≤ 255) ∧ u.1 = fG) ∨ (((a1 = 0 ∨ a1 = 1) ∧ 0 ≤ a2 ∧ a2 ≤ 255) ∧ z = ((lenS (cutA (gW fX fY fN np a1) L) : Nat) : Int) ∧ ∀ p, u.1 p = paL cs a2 (cutA (gW fX fY fN np a1) L) fG p)) D vwCl [(wr, .inr (0, [.int (iI (cs : Int)), .int (iI (rs : Int)), .ref ag, .ref oo, .ref cp, .ref aw, .ref pl])), (ag, .inl (cA, cs * rs, .inl (iA fG))), (oo, .inr (1, [.ref ax, .ref ay, .ref an, .int (iI (np : Int)), .int (iI (l0 : Int))])), (ax, .inl (cA, 4096, .inl (iA fX))), (ay, .inl (cA, 4096, .inl (iA fY))), (an, .inl (cA, 4096, .inl (iA fN))), (cp, .inr (2, [.ref ai, .ref at_, .int (iI (sv : Int)), .int (iI (en : Int))])), (ai, .inl (cA, 24000, .inl (iA fI))), (at_, .inl (cA, 13, .inl (iA fS))), (aw, .inl (cA, cs, .inl (iA fW))), (pl, .inr (3, [.ref ap, .int (iI (pn : Int))])), (ap, .inl (cA, pm, .inl (iA fP)))] s.heap.size (fun u : (Nat → Int) × (Nat → Int) × (Nat → Int) × Nat => [(wr, .inr (0, [.int (iI (cs : Int)), .int (iI (rs : Int)), .ref ag, .ref oo, .ref cp, .ref aw, .ref pl])), (ag, .inl (cA, cs * rs, .inl (iA u.1))), (oo, .inr (1, [.ref ax, .ref ay, .ref an, .int (iI (np : Int)), .int (iI (l0 : Int))])), (ax, .inl (cA, 4096, .inl (iA fX))), (ay, .inl (cA, 4096, .inl (iA fY))), (an, .inl (cA, 4096, .inl (iA fN))), (cp, .inr (2, [.ref ai, .ref at_, .int (iI (sv : Int)), .int (iI (en : Int))])), (ai, .inl (cA, 24000, .inl (iA fI))), (at_, .inl (cA, 13, .inl (iA fS))), (aw, .inl (cA, cs, .inl (iA u.2.1))), (pl, .inr (3, [.ref ap, .int (iI ((u.2.2.2 : Nat) : Int))])), (ap, .inl (cA, pm, .inl (iA u.2.2.1)))])) [.ref wr, .int (iI a1), .int (iI a2)].toArray s 0 0 (va_A [(wr, .inr (0, [.int (iI (cs : Int)), .int (iI (rs : Int)), .ref ag, .ref oo, .ref cp, .ref aw, .ref pl])), (ag, .inl (cA, cs * rs, .inl (iA fG))), (oo, .inr (1, [.ref ax, .ref ay, .ref an, .int (iI (np : Int)), .int (iI (l0 : Int))])), (ax, .inl (cA, 4096, .inl (iA fX))), (ay, .inl (cA, 4096, .inl (iA fY))), (an, .inl (cA, 4096, .inl (iA fN))), (cp, .inr (2, [.ref ai, .ref at_, .int (iI (sv : Int)), .int (iI (en : Int))])), (ai, .inl (cA, 24000, .inl (iA fI))), (at_, .inl (cA, 13, .inl (iA fS))), (aw, .inl (cA, cs, .inl (iA fW))), (pl, .inr (3, [.ref ap, .int (iI (pn : Int))])), (ap, .inl (cA, pm, .inl (iA fP)))] s.heap.size) = QQ
  refine lv_iload_n hx hb dW_fill_0 rfl (lv_at hl 1 rfl) ?_
  refine cs_i (va_runS (As := [.int (iI a1)]) (rest := []) ⟨hx, hb, hml, hown, hts⟩ (c_isRule l D cA cB cS a1 (by omega)) ⟨(callB_of 1 hts (gIn vm_155) rfl rfl rfl (hts _ (List.mem_cons_of_mem _ vm_1)) (hts _ (List.mem_cons_of_mem _ vm_153)) (by decide +kernel) ⟨Nat.le_of_ble_eq_true rfl, Nat.le_of_ble_eq_true rfl⟩), (hts _ (List.mem_cons_of_mem _ vm_154))⟩ (pR.pre (hP.sub [] rfl) hKW) rfl rfl hl.1 rfl (lv_room (Nat.le_of_ble_eq_true rfl)) dW_fill_1 ⟨Nat.le_of_ble_eq_true rfl, Nat.le_of_ble_eq_true rfl⟩) (fun z_1 hz_1 => ?_)
  refine ii_if_eq (tgt := 14) hx hb dW_fill_4 (by decide) (by omega) (fun c4 => ?_) (fun c4 => ?_)
  · refine ii_iconst (n := (-1)) hx hb dW_fill_14 ?_
    rw [← hQ]
    exact wr_iret (fG, fW, fP, pn) hx hb hr hlocks hAe (hP.sub [0, 1, 2, 3, 4, 5, 6, 7, 8, 9, 10, 11] rfl) (hD.sub [0, 1, 2, 3, 4, 5, 6, 7, 8, 9, 10, 11] (by decide) rfl) hS (Or.inl ⟨rfl, by omega, rfl⟩) dW_fill_15
  · refine lv_iload_n hx hb dW_fill_7 rfl (lv_at hl 2 rfl) ?_
    refine cs_i (va_runS (As := [.int (iI a2)]) (rest := []) ⟨hx, hb, hml, hown, hts⟩ (c_isGray l D cA cB cS a2 (by omega)) ⟨(callB_of 1 hts (gIn vm_158) rfl rfl rfl (hts _ (List.mem_cons_of_mem _ vm_1)) (hts _ (List.mem_cons_of_mem _ vm_156)) (by decide +kernel) ⟨Nat.le_of_ble_eq_true rfl, Nat.le_of_ble_eq_true rfl⟩), (hts _ (List.mem_cons_of_mem _ vm_157))⟩ (pR.pre (hP.sub [] rfl) hKW) rfl rfl hl.1 rfl (lv_room (Nat.le_of_ble_eq_true rfl)) dW_fill_8 ⟨Nat.le_of_ble_eq_true rfl, Nat.le_of_ble_eq_true rfl⟩) (fun z_2 hz_2 => ?_)
    refine ii_if_ne (tgt := 16) hx hb dW_fill_11 (by decide) (by omega) (fun c11 => ?_) (fun c11 => ?_)
    · refine lv_aload_n hx hb dW_fill_16 rfl (lv_at hl 0 rfl) ?_
      refine lv_iload_n hx hb dW_fill_17 rfl (lv_at hl 1 rfl) ?_
      refine cw_v (wc := [(wr, .inr (0, [.int (iI (cs : Int)), .int (iI (rs : Int)), .ref ag, .ref oo, .ref cp, .ref aw, .ref pl])), (oo, .inr (1, [.ref ax, .ref ay, .ref an, .int (iI (np : Int)), .int (iI (l0 : Int))])), (ax, .inl (cA, 4096, .inl (iA fX))), (ay, .inl (cA, 4096, .inl (iA fY))), (an, .inl (cA, 4096, .inl (iA fN))), (cp, .inr (2, [.ref ai, .ref at_, .int (iI (sv : Int)), .int (iI (en : Int))])), (ai, .inl (cA, 24000, .inl (iA fI))), (at_, .inl (cA, 13, .inl (iA fS))), (aw, .inl (cA, cs, .inl (iA fW))), (pl, .inr (3, [.ref ap, .int (iI (pn : Int))])), (ap, .inl (cA, pm, .inl (iA fP)))]) (wr := [(ag, .inl (cA, cs * rs, .inl (iA fG)))]) hP hD hS hA [0, 2, 3, 4, 5, 6, 7, 8, 9, 10, 11] [1] rfl rfl (by decide) (by decide) (va_runV (As := [.int (iI a1)]) (rest := []) ⟨hx, hb, hml, hown, hts⟩ (c_cutClip l D cA cB cS wr cs rs ag oo cp aw pl ax ay an fX fY fN np l0 ai at_ fI fS sv en fW ap fP pn pm st0 a1 L h15 h16 h11 h12 h13 h3 h4 h14 h8 h6 h7 h10 h17 (by omega) (by omega) _) ⟨(callB_of 1 hts (gIn vm_161) rfl rfl rfl (hts _ (List.mem_cons_of_mem _ vm_1)) (hts _ (List.mem_cons_of_mem _ vm_159)) (by decide +kernel) ⟨Nat.le_of_ble_eq_true rfl, Nat.le_of_ble_eq_true rfl⟩), (hts _ (List.mem_cons_of_mem _ vm_160)), (hts _ (List.mem_cons_of_mem _ vm_407))⟩ (pW.preV (va_recv hK hP (ci := 0) (q0 := 0) rfl rfl) (hP.sub [0, 2, 3, 4, 5, 6, 7, 8, 9, 10, 11] rfl) (hD.sub [0, 2, 3, 4, 5, 6, 7, 8, 9, 10, 11] (by decide) rfl) hKW) rfl rfl hl.1 rfl (lv_room (Nat.le_of_ble_eq_true rfl)) dW_fill_18 ⟨Nat.le_of_ble_eq_true rfl, Nat.le_of_ble_eq_true rfl⟩) (fun u_3 H locs hzc hP hD hS => ?_)
      obtain ⟨fW1, fP1, pn1⟩ := u_3
      try dsimp only at hzc
      have hP : va_P D vwCl [(ag, .inl (cA, cs * rs, .inl (iA fG))), (wr, .inr (0, [.int (iI (cs : Int)), .int (iI (rs : Int)), .ref ag, .ref oo, .ref cp, .ref aw, .ref pl])), (oo, .inr (1, [.ref ax, .ref ay, .ref an, .int (iI (np : Int)), .int (iI (l0 : Int))])), (ax, .inl (cA, 4096, .inl (iA fX))), (ay, .inl (cA, 4096, .inl (iA fY))), (an, .inl (cA, 4096, .inl (iA fN))), (cp, .inr (2, [.ref ai, .ref at_, .int (iI (sv : Int)), .int (iI (en : Int))])), (ai, .inl (cA, 24000, .inl (iA fI))), (at_, .inl (cA, 13, .inl (iA fS))), (aw, .inl (cA, cs, .inl (iA fW1))), (pl, .inr (3, [.ref ap, .int (iI (pn1 : Int))])), (ap, .inl (cA, pm, .inl (iA fP1)))] H := hP
      have hD : va_D A [(ag, .inl (cA, cs * rs, .inl (iA fG))), (wr, .inr (0, [.int (iI (cs : Int)), .int (iI (rs : Int)), .ref ag, .ref oo, .ref cp, .ref aw, .ref pl])), (oo, .inr (1, [.ref ax, .ref ay, .ref an, .int (iI (np : Int)), .int (iI (l0 : Int))])), (ax, .inl (cA, 4096, .inl (iA fX))), (ay, .inl (cA, 4096, .inl (iA fY))), (an, .inl (cA, 4096, .inl (iA fN))), (cp, .inr (2, [.ref ai, .ref at_, .int (iI (sv : Int)), .int (iI (en : Int))])), (ai, .inl (cA, 24000, .inl (iA fI))), (at_, .inl (cA, 13, .inl (iA fS))), (aw, .inl (cA, cs, .inl (iA fW1))), (pl, .inr (3, [.ref ap, .int (iI (pn1 : Int))])), (ap, .inl (cA, pm, .inl (iA fP1)))] := hD
      have hpm : pn1 ≤ pm := by rw [← hzc.2]; exact h10
      refine lv_aload_n hx hb dW_fill_21 rfl (lv_at hl 0 rfl) ?_
      refine lv_aload_n hx hb dW_fill_22 rfl (lv_at hl 0 rfl) ?_
      refine va_get (ci := 0) (v := .ref pl) (C := "WindingRaster") (T := TW) (N := 7) hx hb hts in_0 hown hK hP 1 rfl rfl 6 (by decide) fl_59 (fun _ h9 => h9) rfl dW_fill_23 ?_
      refine va_getN (ci := 3) (v := .ref ap) (C := "WindingRaster$RunList") (T := TL) (N := 2) hx hb hts in_3 hown hK hP 10 rfl rfl 0 (by decide) fl_102 (fun _ h9 => h9) rfl dW_fill_26 ?_
      refine ii_iconst (n := 0) hx hb dW_fill_29 ?_
      refine lv_aload_n hx hb dW_fill_30 rfl (lv_at hl 0 rfl) ?_
      refine va_get (ci := 0) (v := .ref pl) (C := "WindingRaster") (T := TW) (N := 7) hx hb hts in_0 hown hK hP 1 rfl rfl 6 (by decide) fl_59 (fun _ h9 => h9) rfl dW_fill_31 ?_
      refine va_getN (ci := 3) (v := .int (iI (pn1 : Int))) (C := "WindingRaster$RunList") (T := TL) (N := 2) hx hb hts in_3 hown hK hP 10 rfl rfl 1 (by decide) fl_105 (fun _ h9 => h9) rfl dW_fill_34 ?_
      refine lv_iload_n hx hb dW_fill_37 rfl (lv_at hl 2 rfl) ?_
      refine cw_i (wc := [(wr, .inr (0, [.int (iI (cs : Int)), .int (iI (rs : Int)), .ref ag, .ref oo, .ref cp, .ref aw, .ref pl])), (ap, .inl (cA, pm, .inl (iA fP1))), (ag, .inl (cA, cs * rs, .inl (iA fG)))]) (wr := [(oo, .inr (1, [.ref ax, .ref ay, .ref an, .int (iI (np : Int)), .int (iI (l0 : Int))])), (ax, .inl (cA, 4096, .inl (iA fX))), (ay, .inl (cA, 4096, .inl (iA fY))), (an, .inl (cA, 4096, .inl (iA fN))), (cp, .inr (2, [.ref ai, .ref at_, .int (iI (sv : Int)), .int (iI (en : Int))])), (ai, .inl (cA, 24000, .inl (iA fI))), (at_, .inl (cA, 13, .inl (iA fS))), (aw, .inl (cA, cs, .inl (iA fW1))), (pl, .inr (3, [.ref ap, .int (iI (pn1 : Int))]))]) hP hD hS hA [1, 11, 0] [2, 3, 4, 5, 6, 7, 8, 9, 10] rfl rfl (by decide) (by decide) (va_runV (As := [.ref ap, .int (iI 0), .int (iI (pn1 : Int)), .int (iI a2)]) (rest := []) ⟨hx, hb, hml, hown, hts⟩ (c_paint l D cA cB cS wr cs rs ag oo cp aw pl ap pm fP1 fG 0 pn1 a2 (cutA (gW fX fY fN np a1) L) hzc.1 (by rw [hzc.2]; omega) h18 (by omega) (by omega) (by omega) (by omega) (by omega) _) ⟨(callB_of 4 hts (gIn vm_186) rfl rfl rfl (hts _ (List.mem_cons_of_mem _ vm_1)) (hts _ (List.mem_cons_of_mem _ vm_184)) (by decide +kernel) ⟨Nat.le_of_ble_eq_true rfl, Nat.le_of_ble_eq_true rfl⟩), (hts _ (List.mem_cons_of_mem _ vm_185)), (hts _ (List.mem_cons_of_mem _ vm_413))⟩ (pW.preV (va_recv hK hP (ci := 0) (q0 := 1) rfl rfl) (hP.sub [1, 11, 0] rfl) (hD.sub [1, 11, 0] (by decide) rfl) hKW) rfl rfl hl.1 rfl (lv_room (Nat.le_of_ble_eq_true rfl)) dW_fill_38 ⟨Nat.le_of_ble_eq_true rfl, Nat.le_of_ble_eq_true rfl⟩) (fun zp u_4 H locs hzp hP hD hS => ?_)
      obtain ⟨fG1, rfl⟩ : ∃ z_, z_ = u_4 := ⟨_, rfl⟩
      try dsimp only at hzp
      have hP : va_P D vwCl [(oo, .inr (1, [.ref ax, .ref ay, .ref an, .int (iI (np : Int)), .int (iI (l0 : Int))])), (ax, .inl (cA, 4096, .inl (iA fX))), (ay, .inl (cA, 4096, .inl (iA fY))), (an, .inl (cA, 4096, .inl (iA fN))), (cp, .inr (2, [.ref ai, .ref at_, .int (iI (sv : Int)), .int (iI (en : Int))])), (ai, .inl (cA, 24000, .inl (iA fI))), (at_, .inl (cA, 13, .inl (iA fS))), (aw, .inl (cA, cs, .inl (iA fW1))), (pl, .inr (3, [.ref ap, .int (iI (pn1 : Int))])), (wr, .inr (0, [.int (iI (cs : Int)), .int (iI (rs : Int)), .ref ag, .ref oo, .ref cp, .ref aw, .ref pl])), (ap, .inl (cA, pm, .inl (iA fP1))), (ag, .inl (cA, cs * rs, .inl (iA fG1)))] H := hP
      have hD : va_D A [(oo, .inr (1, [.ref ax, .ref ay, .ref an, .int (iI (np : Int)), .int (iI (l0 : Int))])), (ax, .inl (cA, 4096, .inl (iA fX))), (ay, .inl (cA, 4096, .inl (iA fY))), (an, .inl (cA, 4096, .inl (iA fN))), (cp, .inr (2, [.ref ai, .ref at_, .int (iI (sv : Int)), .int (iI (en : Int))])), (ai, .inl (cA, 24000, .inl (iA fI))), (at_, .inl (cA, 13, .inl (iA fS))), (aw, .inl (cA, cs, .inl (iA fW1))), (pl, .inr (3, [.ref ap, .int (iI (pn1 : Int))])), (wr, .inr (0, [.int (iI (cs : Int)), .int (iI (rs : Int)), .ref ag, .ref oo, .ref cp, .ref aw, .ref pl])), (ap, .inl (cA, pm, .inl (iA fP1))), (ag, .inl (cA, cs * rs, .inl (iA fG1)))] := hD
      rw [← hQ]
      exact wr_iret (fG1, fW1, fP1, pn1) hx hb hr hlocks hAe (hP.sub [9, 11, 0, 1, 2, 3, 4, 5, 6, 7, 8, 10] rfl) (hD.sub [9, 11, 0, 1, 2, 3, 4, 5, 6, 7, 8, 10] (by decide) rfl) hS (Or.inr ⟨by omega, hzp⟩) dW_fill_41
    · refine ii_iconst (n := (-1)) hx hb dW_fill_14 ?_
      rw [← hQ]
      exact wr_iret (fG, fW, fP, pn) hx hb hr hlocks hAe (hP.sub [0, 1, 2, 3, 4, 5, 6, 7, 8, 9, 10, 11] rfl) (hD.sub [0, 1, 2, 3, 4, 5, 6, 7, 8, 9, 10, 11] (by decide) rfl) hS (Or.inl ⟨rfl, by omega, rfl⟩) dW_fill_15

def rm_c_clip : Room := { frames := 4, cells := 0, slots := 0, locals := 109 }
set_option maxHeartbeats 4000000 in
set_option maxRecDepth 100000 in
theorem c_clip (l : Launch) (D : va_G) (cA cB cS : ClassId) (wr : Nat) (cs : Nat) (rs : Nat) (ag : Nat) (oo : Nat) (cp : Nat) (aw : Nat) (pl : Nat) (ax : Nat) (ay : Nat) (an : Nat) (fX : Nat → Int) (fY : Nat → Int) (fN : Nat → Int) (np : Nat) (l0 : Nat) (ai : Nat) (at_ : Nat) (fI : Nat → Int) (fS : Nat → Int) (sv : Nat) (en : Nat) (fW : Nat → Int) (ap : Nat) (fP : Nat → Int) (pn : Nat) (pm : Nat) (st0 : Nat) (L : List Run3) (a1 : Int) (h1 : i32 a1) (h3 : cs ≤ 256) (h4 : rs ≤ 256) (h6 : ∀ i, i < np → (-536870912 ≤ fX i ∧ fX i ≤ 536870912) ∧ (-536870912 ≤ fY i ∧ fY i ≤ 536870912)) (h7 : ∀ i, i < np → 0 ≤ fN i ∧ fN i < (np : Int)) (h8 : np ≤ 4096) (h9 : 0 < cs) (h10 : (cutA (gW fX fY fN np a1) L).length ≤ pm) (h17 : pm < 2147483648) (h11 : segL fI st0 L) (h12 : st0 + L.length = en) (h13 : ∀ x ∈ L, runOk cs rs x) (h14 : en ≤ 24000) (h15 : sv ≤ 12) (h16 : fS sv = (st0 : Int)) (h18 : ∀ x ∈ cutA (gW fX fY fN np a1) L, runOk cs rs x) (sz : Nat) : Met l yW_clip wW_clip rm_c_clip (pW [.ref wr, .int (iI a1)] D vwCl (vwTy cA cB cS) vwNw [(wr, .inr (0, [.int (iI (cs : Int)), .int (iI (rs : Int)), .ref ag, .ref oo, .ref cp, .ref aw, .ref pl])), (oo, .inr (1, [.ref ax, .ref ay, .ref an, .int (iI (np : Int)), .int (iI (l0 : Int))])), (ax, .inl (cA, 4096, .inl (iA fX))), (ay, .inl (cA, 4096, .inl (iA fY))), (an, .inl (cA, 4096, .inl (iA fN))), (cp, .inr (2, [.ref ai, .ref at_, .int (iI (sv : Int)), .int (iI (en : Int))])), (ai, .inl (cA, 24000, .inl (iA fI))), (at_, .inl (cA, 13, .inl (iA fS))), (aw, .inl (cA, cs, .inl (iA fW))), (pl, .inr (3, [.ref ap, .int (iI (pn : Int))])), (ap, .inl (cA, pm, .inl (iA fP)))] sz) (qW (S := (Nat → Int) × Nat × (Nat → Int) × (Nat → Int) × Nat) (fun (z : Int) (u : (Nat → Int) × Nat × (Nat → Int) × (Nat → Int) × Nat) => (z = -1 ∧ ¬ (a1 = 0 ∨ a1 = 1) ∧ u.1 = fI ∧ u.2.1 = en) ∨ ((a1 = 0 ∨ a1 = 1) ∧ z = -3 ∧ 24000 < st0 + (cutA (gW fX fY fN np a1) L).length ∧ u.1 = fI ∧ u.2.1 = en) ∨ ((a1 = 0 ∨ a1 = 1) ∧ st0 + (cutA (gW fX fY fN np a1) L).length ≤ 24000 ∧ z = ((lenS (cutA (gW fX fY fN np a1) L) : Nat) : Int) ∧ u.2.1 = st0 + (cutA (gW fX fY fN np a1) L).length ∧ segL u.1 st0 (cutA (gW fX fY fN np a1) L) ∧ ∀ k, k < st0 → u.1 k = fI k)) D vwCl [(wr, .inr (0, [.int (iI (cs : Int)), .int (iI (rs : Int)), .ref ag, .ref oo, .ref cp, .ref aw, .ref pl])), (oo, .inr (1, [.ref ax, .ref ay, .ref an, .int (iI (np : Int)), .int (iI (l0 : Int))])), (ax, .inl (cA, 4096, .inl (iA fX))), (ay, .inl (cA, 4096, .inl (iA fY))), (an, .inl (cA, 4096, .inl (iA fN))), (cp, .inr (2, [.ref ai, .ref at_, .int (iI (sv : Int)), .int (iI (en : Int))])), (ai, .inl (cA, 24000, .inl (iA fI))), (at_, .inl (cA, 13, .inl (iA fS))), (aw, .inl (cA, cs, .inl (iA fW))), (pl, .inr (3, [.ref ap, .int (iI (pn : Int))])), (ap, .inl (cA, pm, .inl (iA fP)))] sz (fun u : (Nat → Int) × Nat × (Nat → Int) × (Nat → Int) × Nat => [(wr, .inr (0, [.int (iI (cs : Int)), .int (iI (rs : Int)), .ref ag, .ref oo, .ref cp, .ref aw, .ref pl])), (oo, .inr (1, [.ref ax, .ref ay, .ref an, .int (iI (np : Int)), .int (iI (l0 : Int))])), (ax, .inl (cA, 4096, .inl (iA fX))), (ay, .inl (cA, 4096, .inl (iA fY))), (an, .inl (cA, 4096, .inl (iA fN))), (cp, .inr (2, [.ref ai, .ref at_, .int (iI (sv : Int)), .int (iI ((u.2.1 : Nat) : Int))])), (ai, .inl (cA, 24000, .inl (iA u.1))), (at_, .inl (cA, 13, .inl (iA fS))), (aw, .inl (cA, cs, .inl (iA u.2.2.1))), (pl, .inr (3, [.ref ap, .int (iI ((u.2.2.2.2 : Nat) : Int))])), (ap, .inl (cA, pm, .inl (iA u.2.2.2.1)))])) 0 0 (va_A [(wr, .inr (0, [.int (iI (cs : Int)), .int (iI (rs : Int)), .ref ag, .ref oo, .ref cp, .ref aw, .ref pl])), (oo, .inr (1, [.ref ax, .ref ay, .ref an, .int (iI (np : Int)), .int (iI (l0 : Int))])), (ax, .inl (cA, 4096, .inl (iA fX))), (ay, .inl (cA, 4096, .inl (iA fY))), (an, .inl (cA, 4096, .inl (iA fN))), (cp, .inr (2, [.ref ai, .ref at_, .int (iI (sv : Int)), .int (iI (en : Int))])), (ai, .inl (cA, 24000, .inl (iA fI))), (at_, .inl (cA, 13, .inl (iA fS))), (aw, .inl (cA, cs, .inl (iA fW))), (pl, .inr (3, [.ref ap, .int (iI (pn : Int))])), (ap, .inl (cA, pm, .inl (iA fP)))] sz) := by
  refine Met.ofW (cc := bW_clip) (maxL := 2) (ret := (some .int)) (by decide +kernel) rfl ?_
  intro p e s m args below meth c s₁ B hml hv
  obtain ⟨rfl, hsz, hP, hKW, hD0⟩ := hv
  have hK := hKW.1
  have hN := hKW.2.2
  have hx := B.exec
  have hb := B.bytes
  have hr := B.returns
  have hts := atoms_spec (ws := wW_clip) B.pre
  have hown : s.vm.findClass "WindingRaster" = some m.cls := findClass_of_methodNamed B.named
  have hlocks := B.notSynchronized
  subst hsz
  have hD := hD0.self (sz := s.heap.size)
  obtain ⟨A, hAe⟩ : ∃ A, va_A [(wr, .inr (0, [.int (iI (cs : Int)), .int (iI (rs : Int)), .ref ag, .ref oo, .ref cp, .ref aw, .ref pl])), (oo, .inr (1, [.ref ax, .ref ay, .ref an, .int (iI (np : Int)), .int (iI (l0 : Int))])), (ax, .inl (cA, 4096, .inl (iA fX))), (ay, .inl (cA, 4096, .inl (iA fY))), (an, .inl (cA, 4096, .inl (iA fN))), (cp, .inr (2, [.ref ai, .ref at_, .int (iI (sv : Int)), .int (iI (en : Int))])), (ai, .inl (cA, 24000, .inl (iA fI))), (at_, .inl (cA, 13, .inl (iA fS))), (aw, .inl (cA, cs, .inl (iA fW))), (pl, .inr (3, [.ref ap, .int (iI (pn : Int))])), (ap, .inl (cA, pm, .inl (iA fP)))] s.heap.size = A := ⟨_, rfl⟩
  rw [hAe] at hD
  have hA : ∀ q : Nat, s.heap.size ≤ q → A q := fun q h => by rw [← hAe]; exact Or.inr h
  have hS : va_S A s.heap s.heap [] := va_S.rf
  have hP : va_P D vwCl [(wr, .inr (0, [.int (iI (cs : Int)), .int (iI (rs : Int)), .ref ag, .ref oo, .ref cp, .ref aw, .ref pl])), (oo, .inr (1, [.ref ax, .ref ay, .ref an, .int (iI (np : Int)), .int (iI (l0 : Int))])), (ax, .inl (cA, 4096, .inl (iA fX))), (ay, .inl (cA, 4096, .inl (iA fY))), (an, .inl (cA, 4096, .inl (iA fN))), (cp, .inr (2, [.ref ai, .ref at_, .int (iI (sv : Int)), .int (iI (en : Int))])), (ai, .inl (cA, 24000, .inl (iA fI))), (at_, .inl (cA, 13, .inl (iA fS))), (aw, .inl (cA, cs, .inl (iA fW))), (pl, .inr (3, [.ref ap, .int (iI (pn : Int))])), (ap, .inl (cA, pm, .inl (iA fP)))] s.heap := hP
  have in_0 : ∀ w ∈ wsW, w ∈ wW_clip := fun w h => List.mem_cons_of_mem _ (in0_W w h)
  have fl_47 := (hts _ (List.mem_cons_of_mem _ vm_73))
  have fl_59 := (hts _ (List.mem_cons_of_mem _ vm_75))
  have hl := lv_entry ([.ref wr, .int (iI a1)]) (n := 2) (Nat.le_of_ble_eq_true rfl)
  rw [lg_entry_eq]
  generalize (lg_sl ([.ref wr, .int (iI a1)]) ++ List.replicate (2 - (lg_sl ([.ref wr, .int (iI a1)])).length) Slot.unset).toArray = ls at hl ⊢
  have hl : lv_has ls 2 [(0, .ref wr), (1, .int (iI a1))] := hl
  generalize hQ : MQ below (qW (S := (Nat → Int) × Nat × (Nat → Int) × (Nat → Int) × Nat) (fun (z : Int) (u : (Nat → Int) × Nat × (Nat → Int) × (Nat → Int) × Nat) => (z = -1 ∧ ¬ (a1 = 0 ∨ a1 = 1) ∧ u.1 = fI ∧ u.2.1 = en) ∨ ((a1 = 0 ∨ a1 = 1) ∧ z = -3 ∧ 24000 < st0 + (cutA (gW fX fY fN np a1) L).length ∧ u.1 = fI ∧ u.2.1 = en) ∨ ((a1 = 0 ∨ a1 = 1) ∧ st0 + (cutA (gW fX fY fN np a1) L).length ≤ 24000 ∧ z = ((lenS (cutA (gW fX fY fN np a1) L) : Nat) : Int) ∧ u.2.1 = st0 + (cutA (gW fX fY fN np a1) L).length ∧ segL u.1 st0 (cutA (gW fX fY fN np a1) L) ∧ ∀ k, k < st0 → u.1 k = fI k)) D vwCl [(wr, .inr (0, [.int (iI (cs : Int)), .int (iI (rs : Int)), .ref ag, .ref oo, .ref cp, .ref aw, .ref pl])), (oo, .inr (1, [.ref ax, .ref ay, .ref an, .int (iI (np : Int)), .int (iI (l0 : Int))])), (ax, .inl (cA, 4096, .inl (iA fX))), (ay, .inl (cA, 4096, .inl (iA fY))), (an, .inl (cA, 4096, .inl (iA fN))), (cp, .inr (2, [.ref ai, .ref at_, .int (iI (sv : Int)), .int (iI (en : Int))])), (ai, .inl (cA, 24000, .inl (iA fI))), (at_, .inl (cA, 13, .inl (iA fS))), (aw, .inl (cA, cs, .inl (iA fW))), (pl, .inr (3, [.ref ap, .int (iI (pn : Int))])), (ap, .inl (cA, pm, .inl (iA fP)))] s.heap.size (fun u : (Nat → Int) × Nat × (Nat → Int) × (Nat → Int) × Nat => [(wr, .inr (0, [.int (iI (cs : Int)), .int (iI (rs : Int)), .ref ag, .ref oo, .ref cp, .ref aw, .ref pl])), (oo, .inr (1, [.ref ax, .ref ay, .ref an, .int (iI (np : Int)), .int (iI (l0 : Int))])), (ax, .inl (cA, 4096, .inl (iA fX))), (ay, .inl (cA, 4096, .inl (iA fY))), (an, .inl (cA, 4096, .inl (iA fN))), (cp, .inr (2, [.ref ai, .ref at_, .int (iI (sv : Int)), .int (iI ((u.2.1 : Nat) : Int))])), (ai, .inl (cA, 24000, .inl (iA u.1))), (at_, .inl (cA, 13, .inl (iA fS))), (aw, .inl (cA, cs, .inl (iA u.2.2.1))), (pl, .inr (3, [.ref ap, .int (iI ((u.2.2.2.2 : Nat) : Int))])), (ap, .inl (cA, pm, .inl (iA u.2.2.2.1)))])) [.ref wr, .int (iI a1)].toArray s 0 0 (va_A [(wr, .inr (0, [.int (iI (cs : Int)), .int (iI (rs : Int)), .ref ag, .ref oo, .ref cp, .ref aw, .ref pl])), (oo, .inr (1, [.ref ax, .ref ay, .ref an, .int (iI (np : Int)), .int (iI (l0 : Int))])), (ax, .inl (cA, 4096, .inl (iA fX))), (ay, .inl (cA, 4096, .inl (iA fY))), (an, .inl (cA, 4096, .inl (iA fN))), (cp, .inr (2, [.ref ai, .ref at_, .int (iI (sv : Int)), .int (iI (en : Int))])), (ai, .inl (cA, 24000, .inl (iA fI))), (at_, .inl (cA, 13, .inl (iA fS))), (aw, .inl (cA, cs, .inl (iA fW))), (pl, .inr (3, [.ref ap, .int (iI (pn : Int))])), (ap, .inl (cA, pm, .inl (iA fP)))] s.heap.size) = QQ
  refine lv_iload_n hx hb dW_clip_0 rfl (lv_at hl 1 rfl) ?_
  refine cs_i (va_runS (As := [.int (iI a1)]) (rest := []) ⟨hx, hb, hml, hown, hts⟩ (c_isRule l D cA cB cS a1 (by omega)) ⟨(callB_of 1 hts (gIn vm_155) rfl rfl rfl (hts _ (List.mem_cons_of_mem _ vm_1)) (hts _ (List.mem_cons_of_mem _ vm_153)) (by decide +kernel) ⟨Nat.le_of_ble_eq_true rfl, Nat.le_of_ble_eq_true rfl⟩), (hts _ (List.mem_cons_of_mem _ vm_154))⟩ (pR.pre (hP.sub [] rfl) hKW) rfl rfl hl.1 rfl (lv_room (Nat.le_of_ble_eq_true rfl)) dW_clip_1 ⟨Nat.le_of_ble_eq_true rfl, Nat.le_of_ble_eq_true rfl⟩) (fun z_1 hz_1 => ?_)
  refine ii_if_ne (tgt := 9) hx hb dW_clip_4 (by decide) (by omega) (fun c4 => ?_) (fun c4 => ?_)
  · refine lv_aload_n hx hb dW_clip_9 rfl (lv_at hl 0 rfl) ?_
    refine lv_iload_n hx hb dW_clip_10 rfl (lv_at hl 1 rfl) ?_
    refine cw_v (wc := [(wr, .inr (0, [.int (iI (cs : Int)), .int (iI (rs : Int)), .ref ag, .ref oo, .ref cp, .ref aw, .ref pl])), (oo, .inr (1, [.ref ax, .ref ay, .ref an, .int (iI (np : Int)), .int (iI (l0 : Int))])), (ax, .inl (cA, 4096, .inl (iA fX))), (ay, .inl (cA, 4096, .inl (iA fY))), (an, .inl (cA, 4096, .inl (iA fN))), (cp, .inr (2, [.ref ai, .ref at_, .int (iI (sv : Int)), .int (iI (en : Int))])), (ai, .inl (cA, 24000, .inl (iA fI))), (at_, .inl (cA, 13, .inl (iA fS))), (aw, .inl (cA, cs, .inl (iA fW))), (pl, .inr (3, [.ref ap, .int (iI (pn : Int))])), (ap, .inl (cA, pm, .inl (iA fP)))]) (wr := []) hP hD hS hA [0, 1, 2, 3, 4, 5, 6, 7, 8, 9, 10] [] rfl rfl (by decide) (by decide) (va_runV (As := [.int (iI a1)]) (rest := []) ⟨hx, hb, hml, hown, hts⟩ (c_cutClip l D cA cB cS wr cs rs ag oo cp aw pl ax ay an fX fY fN np l0 ai at_ fI fS sv en fW ap fP pn pm st0 a1 L h15 h16 h11 h12 h13 h3 h4 h14 h8 h6 h7 h10 h17 (by omega) (by omega) _) ⟨(callB_of 1 hts (gIn vm_161) rfl rfl rfl (hts _ (List.mem_cons_of_mem _ vm_1)) (hts _ (List.mem_cons_of_mem _ vm_159)) (by decide +kernel) ⟨Nat.le_of_ble_eq_true rfl, Nat.le_of_ble_eq_true rfl⟩), (hts _ (List.mem_cons_of_mem _ vm_160)), (hts _ (List.mem_cons_of_mem _ vm_407))⟩ (pW.preV (va_recv hK hP (ci := 0) (q0 := 0) rfl rfl) (hP.sub [0, 1, 2, 3, 4, 5, 6, 7, 8, 9, 10] rfl) (hD.sub [0, 1, 2, 3, 4, 5, 6, 7, 8, 9, 10] (by decide) rfl) hKW) rfl rfl hl.1 rfl (lv_room (Nat.le_of_ble_eq_true rfl)) dW_clip_11 ⟨Nat.le_of_ble_eq_true rfl, Nat.le_of_ble_eq_true rfl⟩) (fun u_2 H locs hzc hP hD hS => ?_)
    obtain ⟨fW1, fP1, pn1⟩ := u_2
    try dsimp only at hzc
    have hP : va_P D vwCl [(wr, .inr (0, [.int (iI (cs : Int)), .int (iI (rs : Int)), .ref ag, .ref oo, .ref cp, .ref aw, .ref pl])), (oo, .inr (1, [.ref ax, .ref ay, .ref an, .int (iI (np : Int)), .int (iI (l0 : Int))])), (ax, .inl (cA, 4096, .inl (iA fX))), (ay, .inl (cA, 4096, .inl (iA fY))), (an, .inl (cA, 4096, .inl (iA fN))), (cp, .inr (2, [.ref ai, .ref at_, .int (iI (sv : Int)), .int (iI (en : Int))])), (ai, .inl (cA, 24000, .inl (iA fI))), (at_, .inl (cA, 13, .inl (iA fS))), (aw, .inl (cA, cs, .inl (iA fW1))), (pl, .inr (3, [.ref ap, .int (iI (pn1 : Int))])), (ap, .inl (cA, pm, .inl (iA fP1)))] H := hP
    have hD : va_D A [(wr, .inr (0, [.int (iI (cs : Int)), .int (iI (rs : Int)), .ref ag, .ref oo, .ref cp, .ref aw, .ref pl])), (oo, .inr (1, [.ref ax, .ref ay, .ref an, .int (iI (np : Int)), .int (iI (l0 : Int))])), (ax, .inl (cA, 4096, .inl (iA fX))), (ay, .inl (cA, 4096, .inl (iA fY))), (an, .inl (cA, 4096, .inl (iA fN))), (cp, .inr (2, [.ref ai, .ref at_, .int (iI (sv : Int)), .int (iI (en : Int))])), (ai, .inl (cA, 24000, .inl (iA fI))), (at_, .inl (cA, 13, .inl (iA fS))), (aw, .inl (cA, cs, .inl (iA fW1))), (pl, .inr (3, [.ref ap, .int (iI (pn1 : Int))])), (ap, .inl (cA, pm, .inl (iA fP1)))] := hD
    have hpm : pn1 ≤ pm := by rw [← hzc.2]; exact h10
    have hst : st0 ≤ 24000 := by omega
    refine lv_aload_n hx hb dW_clip_14 rfl (lv_at hl 0 rfl) ?_
    refine va_get (ci := 0) (v := .ref cp) (C := "WindingRaster") (T := TW) (N := 7) hx hb hts in_0 hown hK hP 0 rfl rfl 4 (by decide) fl_47 (fun _ h9 => h9) rfl dW_clip_15 ?_
    refine lv_aload_n hx hb dW_clip_18 rfl (lv_at hl 0 rfl) ?_
    refine va_get (ci := 0) (v := .ref pl) (C := "WindingRaster") (T := TW) (N := 7) hx hb hts in_0 hown hK hP 0 rfl rfl 6 (by decide) fl_59 (fun _ h9 => h9) rfl dW_clip_19 ?_
    refine cw_i (wc := [(cp, .inr (2, [.ref ai, .ref at_, .int (iI (sv : Int)), .int (iI (en : Int))])), (ai, .inl (cA, 24000, .inl (iA fI))), (at_, .inl (cA, 13, .inl (iA fS))), (pl, .inr (3, [.ref ap, .int (iI (pn1 : Int))])), (ap, .inl (cA, pm, .inl (iA fP1)))]) (wr := [(wr, .inr (0, [.int (iI (cs : Int)), .int (iI (rs : Int)), .ref ag, .ref oo, .ref cp, .ref aw, .ref pl])), (oo, .inr (1, [.ref ax, .ref ay, .ref an, .int (iI (np : Int)), .int (iI (l0 : Int))])), (ax, .inl (cA, 4096, .inl (iA fX))), (ay, .inl (cA, 4096, .inl (iA fY))), (an, .inl (cA, 4096, .inl (iA fN))), (aw, .inl (cA, cs, .inl (iA fW1)))]) hP hD hS hA [5, 6, 7, 9, 10] [0, 1, 2, 3, 4, 8] rfl rfl (by decide) (by decide) (va_runVN (As := [.ref pl]) (rest := []) ⟨hx, hb, hml, hown, hts⟩ (c_replace l D cA cB cS cp ai at_ fI fS sv en pl ap fP1 pn1 pm st0 h15 h16 (by omega) (by omega) (by omega) _) ⟨(va_cnB 1 hts (gIn vm_199) rfl rfl rfl (hN _ vn_27) (hts _ (List.mem_cons_of_mem _ vm_5)) (by decide +kernel) ⟨Nat.le_of_ble_eq_true rfl, Nat.le_of_ble_eq_true rfl⟩), (hts _ (List.mem_cons_of_mem _ vm_198)), (hts _ (List.mem_cons_of_mem _ vm_415))⟩ (pW.preV (va_recv hK hP (ci := 2) (q0 := 5) rfl rfl) (hP.sub [5, 6, 7, 9, 10] rfl) (hD.sub [5, 6, 7, 9, 10] (by decide) rfl) hKW) rfl rfl hl.1 rfl (lv_room (Nat.le_of_ble_eq_true rfl)) dW_clip_22 ⟨Nat.le_of_ble_eq_true rfl, Nat.le_of_ble_eq_true rfl⟩) (fun zr u_3 H locs hzr hP hD hS => ?_)
    obtain ⟨fI1, en1⟩ := u_3
    try dsimp only at hzr
    have hP : va_P D vwCl [(wr, .inr (0, [.int (iI (cs : Int)), .int (iI (rs : Int)), .ref ag, .ref oo, .ref cp, .ref aw, .ref pl])), (oo, .inr (1, [.ref ax, .ref ay, .ref an, .int (iI (np : Int)), .int (iI (l0 : Int))])), (ax, .inl (cA, 4096, .inl (iA fX))), (ay, .inl (cA, 4096, .inl (iA fY))), (an, .inl (cA, 4096, .inl (iA fN))), (aw, .inl (cA, cs, .inl (iA fW1))), (cp, .inr (2, [.ref ai, .ref at_, .int (iI (sv : Int)), .int (iI (en1 : Int))])), (ai, .inl (cA, 24000, .inl (iA fI1))), (at_, .inl (cA, 13, .inl (iA fS))), (pl, .inr (3, [.ref ap, .int (iI (pn1 : Int))])), (ap, .inl (cA, pm, .inl (iA fP1)))] H := hP
    have hD : va_D A [(wr, .inr (0, [.int (iI (cs : Int)), .int (iI (rs : Int)), .ref ag, .ref oo, .ref cp, .ref aw, .ref pl])), (oo, .inr (1, [.ref ax, .ref ay, .ref an, .int (iI (np : Int)), .int (iI (l0 : Int))])), (ax, .inl (cA, 4096, .inl (iA fX))), (ay, .inl (cA, 4096, .inl (iA fY))), (an, .inl (cA, 4096, .inl (iA fN))), (aw, .inl (cA, cs, .inl (iA fW1))), (cp, .inr (2, [.ref ai, .ref at_, .int (iI (sv : Int)), .int (iI (en1 : Int))])), (ai, .inl (cA, 24000, .inl (iA fI1))), (at_, .inl (cA, 13, .inl (iA fS))), (pl, .inr (3, [.ref ap, .int (iI (pn1 : Int))])), (ap, .inl (cA, pm, .inl (iA fP1)))] := hD
    refine ii_if_eq (tgt := 38) hx hb dW_clip_25 (by decide) (by omega) (fun c25 => ?_) (fun c25 => ?_)
    · obtain ⟨r1, r2, r3, r4⟩ : 24000 < st0 + pn1 ∧ fI1 = fI ∧ en1 = en ∧ True := by
        rcases hzr with ⟨w1, w2, w3, w4⟩ | ⟨w1, w2, w3, w4⟩
        · exact ⟨w2, w3, w4, trivial⟩
        · exfalso; omega
      have hz2 := hzc.2
      refine ii_bipush (n := (-3)) hx hb dW_clip_38 (by decide +kernel) ?_
      rw [← hQ]
      exact wr_iret (fI1, en1, fW1, fP1, pn1) hx hb hr hlocks hAe (hP.sub [0, 1, 2, 3, 4, 6, 7, 8, 5, 9, 10] rfl) (hD.sub [0, 1, 2, 3, 4, 6, 7, 8, 5, 9, 10] (by decide) rfl) hS (Or.inr (Or.inl ⟨by omega, rfl, by omega, r2, r3⟩)) dW_clip_40
    · obtain ⟨r1, r2, r3⟩ : st0 + pn1 ≤ 24000 ∧ fI1 = va_cpy fP1 fI 0 st0 pn1 ∧ en1 = st0 + pn1 := by
        rcases hzr with ⟨w1, w2, w3, w4⟩ | ⟨w1, w2, w3, w4⟩
        · exfalso; omega
        · exact ⟨w2, w3, w4⟩
      have hz2 := hzc.2
      have hsg : segL fI1 st0 (cutA (gW fX fY fN np a1) L) := by
        refine segL_move _ 0 st0 (fun k hk => ?_) hzc.1
        rw [r2, pk_cpy_in (by omega) (by omega)]
        congr 1
        omega
      refine lv_aload_n hx hb dW_clip_28 rfl (lv_at hl 0 rfl) ?_
      refine va_get (ci := 0) (v := .ref cp) (C := "WindingRaster") (T := TW) (N := 7) hx hb hts in_0 hown hK hP 0 rfl rfl 4 (by decide) fl_47 (fun _ h9 => h9) rfl dW_clip_29 ?_
      refine cs_i (va_runVN (As := []) (rest := []) ⟨hx, hb, hml, hown, hts⟩ (c_pixelCount l D cA cB cS cp ai at_ fI1 fS sv en1 st0 (cutA (gW fX fY fN np a1) L) cs rs h15 h16 hsg (by omega) h18 (by omega) (by omega) (by omega)) ⟨(va_cnB 0 hts (gIn vm_208) rfl rfl rfl (hN _ vn_28) (hts _ (List.mem_cons_of_mem _ vm_5)) (by decide +kernel) ⟨Nat.le_of_ble_eq_true rfl, Nat.le_of_ble_eq_true rfl⟩), (hts _ (List.mem_cons_of_mem _ vm_207)), (hts _ (List.mem_cons_of_mem _ vm_417))⟩ (pR.preV (va_recv hK hP (ci := 2) (q0 := 6) rfl rfl) (hP.sub [6, 7, 8] rfl) hKW) rfl rfl hl.1 rfl (lv_room (Nat.le_of_ble_eq_true rfl)) dW_clip_32 ⟨Nat.le_of_ble_eq_true rfl, Nat.le_of_ble_eq_true rfl⟩) (fun z_4 hz_4 => ?_)
      subst hz_4
      refine lv_goto (tgt := 40) hx hb dW_clip_35 (by decide) ?_
      rw [← hQ]
      exact wr_iret (fI1, en1, fW1, fP1, pn1) hx hb hr hlocks hAe (hP.sub [0, 1, 2, 3, 4, 6, 7, 8, 5, 9, 10] rfl) (hD.sub [0, 1, 2, 3, 4, 6, 7, 8, 5, 9, 10] (by decide) rfl) hS (Or.inr (Or.inr ⟨by omega, by omega, rfl, by dsimp only; omega, hsg, fun k hk => by dsimp only; rw [r2, pk_cpy_out (by omega)]⟩)) dW_clip_40
  · refine ii_iconst (n := (-1)) hx hb dW_clip_7 ?_
    rw [← hQ]
    exact wr_iret (fI, en, fW, fP, pn) hx hb hr hlocks hAe (hP.sub [0, 1, 2, 3, 4, 5, 6, 7, 8, 9, 10] rfl) (hD.sub [0, 1, 2, 3, 4, 5, 6, 7, 8, 9, 10] (by decide) rfl) hS (Or.inl ⟨rfl, by omega, rfl, rfl⟩) dW_clip_8

def rm_c_save : Room := { frames := 3, cells := 0, slots := 0, locals := 93 }
set_option maxHeartbeats 4000000 in
set_option maxRecDepth 100000 in
theorem c_save (l : Launch) (D : va_G) (cA cB cS : ClassId) (wr : Nat) (cs : Nat) (rs : Nat) (ag : Nat) (oo : Nat) (cp : Nat) (aw : Nat) (pl : Nat) (ai : Nat) (at_ : Nat) (fI : Nat → Int) (fS : Nat → Int) (sv : Nat) (en : Nat) (st0 : Nat) (h1 : sv ≤ 12) (h2 : fS sv = (st0 : Int)) (h3 : st0 ≤ en) (h4 : en ≤ 24000) (sz : Nat) : Met l yW_save wW_save rm_c_save (pW [.ref wr] D vwCl (vwTy cA cB cS) vwNw [(wr, .inr (0, [.int (iI (cs : Int)), .int (iI (rs : Int)), .ref ag, .ref oo, .ref cp, .ref aw, .ref pl])), (cp, .inr (2, [.ref ai, .ref at_, .int (iI (sv : Int)), .int (iI (en : Int))])), (ai, .inl (cA, 24000, .inl (iA fI))), (at_, .inl (cA, 13, .inl (iA fS)))] sz) (qW (S := (Nat → Int) × (Nat → Int) × Nat × Nat) (fun (z : Int) (u : (Nat → Int) × (Nat → Int) × Nat × Nat) => (z = -3 ∧ (12 ≤ sv ∨ 24000 < en + (en - st0)) ∧ u.1 = fI ∧ u.2.1 = fS ∧ u.2.2.1 = sv ∧ u.2.2.2 = en) ∨ (z = ((sv + 1 : Nat) : Int) ∧ sv < 12 ∧ en + (en - st0) ≤ 24000 ∧ u.1 = va_cpy fI fI st0 en (en - st0) ∧ u.2.1 = uZ fS (sv + 1) (en : Int) ∧ u.2.2.1 = sv + 1 ∧ u.2.2.2 = en + (en - st0))) D vwCl [(wr, .inr (0, [.int (iI (cs : Int)), .int (iI (rs : Int)), .ref ag, .ref oo, .ref cp, .ref aw, .ref pl])), (cp, .inr (2, [.ref ai, .ref at_, .int (iI (sv : Int)), .int (iI (en : Int))])), (ai, .inl (cA, 24000, .inl (iA fI))), (at_, .inl (cA, 13, .inl (iA fS)))] sz (fun u : (Nat → Int) × (Nat → Int) × Nat × Nat => [(wr, .inr (0, [.int (iI (cs : Int)), .int (iI (rs : Int)), .ref ag, .ref oo, .ref cp, .ref aw, .ref pl])), (cp, .inr (2, [.ref ai, .ref at_, .int (iI ((u.2.2.1 : Nat) : Int)), .int (iI ((u.2.2.2 : Nat) : Int))])), (ai, .inl (cA, 24000, .inl (iA u.1))), (at_, .inl (cA, 13, .inl (iA u.2.1)))])) 0 0 (va_A [(wr, .inr (0, [.int (iI (cs : Int)), .int (iI (rs : Int)), .ref ag, .ref oo, .ref cp, .ref aw, .ref pl])), (cp, .inr (2, [.ref ai, .ref at_, .int (iI (sv : Int)), .int (iI (en : Int))])), (ai, .inl (cA, 24000, .inl (iA fI))), (at_, .inl (cA, 13, .inl (iA fS)))] sz) := by
  refine Met.ofW (cc := bW_save) (maxL := 1) (ret := (some .int)) (by decide +kernel) rfl ?_
  intro p e s m args below meth c s₁ B hml hv
  obtain ⟨rfl, hsz, hP, hKW, hD0⟩ := hv
  have hK := hKW.1
  have hN := hKW.2.2
  have hx := B.exec
  have hb := B.bytes
  have hr := B.returns
  have hts := atoms_spec (ws := wW_save) B.pre
  have hown : s.vm.findClass "WindingRaster" = some m.cls := findClass_of_methodNamed B.named
  have hlocks := B.notSynchronized
  subst hsz
  have hD := hD0.self (sz := s.heap.size)
  obtain ⟨A, hAe⟩ : ∃ A, va_A [(wr, .inr (0, [.int (iI (cs : Int)), .int (iI (rs : Int)), .ref ag, .ref oo, .ref cp, .ref aw, .ref pl])), (cp, .inr (2, [.ref ai, .ref at_, .int (iI (sv : Int)), .int (iI (en : Int))])), (ai, .inl (cA, 24000, .inl (iA fI))), (at_, .inl (cA, 13, .inl (iA fS)))] s.heap.size = A := ⟨_, rfl⟩
  rw [hAe] at hD
  have hA : ∀ q : Nat, s.heap.size ≤ q → A q := fun q h => by rw [← hAe]; exact Or.inr h
  have hS : va_S A s.heap s.heap [] := va_S.rf
  have hP : va_P D vwCl [(wr, .inr (0, [.int (iI (cs : Int)), .int (iI (rs : Int)), .ref ag, .ref oo, .ref cp, .ref aw, .ref pl])), (cp, .inr (2, [.ref ai, .ref at_, .int (iI (sv : Int)), .int (iI (en : Int))])), (ai, .inl (cA, 24000, .inl (iA fI))), (at_, .inl (cA, 13, .inl (iA fS)))] s.heap := hP
  have in_0 : ∀ w ∈ wsW, w ∈ wW_save := fun w h => List.mem_cons_of_mem _ (in0_W w h)
  have fl_47 := (hts _ (List.mem_cons_of_mem _ vm_73))
  have in_2 : ∀ w ∈ wsC, w ∈ wW_save := fun w h => List.mem_cons_of_mem _ (in0_C w h)
  have fl_121 := va_Nw.use (A := [.ref wr].toArray) rfl (hN _ vn_5)
  have hl := lv_entry ([.ref wr]) (n := 1) (Nat.le_of_ble_eq_true rfl)
  rw [lg_entry_eq]
  generalize (lg_sl ([.ref wr]) ++ List.replicate (1 - (lg_sl ([.ref wr])).length) Slot.unset).toArray = ls at hl ⊢
  have hl : lv_has ls 1 [(0, .ref wr)] := hl
  generalize hQ : MQ below (qW (S := (Nat → Int) × (Nat → Int) × Nat × Nat) (fun (z : Int) (u : (Nat → Int) × (Nat → Int) × Nat × Nat) => (z = -3 ∧ (12 ≤ sv ∨ 24000 < en + (en - st0)) ∧ u.1 = fI ∧ u.2.1 = fS ∧ u.2.2.1 = sv ∧ u.2.2.2 = en) ∨ (z = ((sv + 1 : Nat) : Int) ∧ sv < 12 ∧ en + (en - st0) ≤ 24000 ∧ u.1 = va_cpy fI fI st0 en (en - st0) ∧ u.2.1 = uZ fS (sv + 1) (en : Int) ∧ u.2.2.1 = sv + 1 ∧ u.2.2.2 = en + (en - st0))) D vwCl [(wr, .inr (0, [.int (iI (cs : Int)), .int (iI (rs : Int)), .ref ag, .ref oo, .ref cp, .ref aw, .ref pl])), (cp, .inr (2, [.ref ai, .ref at_, .int (iI (sv : Int)), .int (iI (en : Int))])), (ai, .inl (cA, 24000, .inl (iA fI))), (at_, .inl (cA, 13, .inl (iA fS)))] s.heap.size (fun u : (Nat → Int) × (Nat → Int) × Nat × Nat => [(wr, .inr (0, [.int (iI (cs : Int)), .int (iI (rs : Int)), .ref ag, .ref oo, .ref cp, .ref aw, .ref pl])), (cp, .inr (2, [.ref ai, .ref at_, .int (iI ((u.2.2.1 : Nat) : Int)), .int (iI ((u.2.2.2 : Nat) : Int))])), (ai, .inl (cA, 24000, .inl (iA u.1))), (at_, .inl (cA, 13, .inl (iA u.2.1)))])) [.ref wr].toArray s 0 0 (va_A [(wr, .inr (0, [.int (iI (cs : Int)), .int (iI (rs : Int)), .ref ag, .ref oo, .ref cp, .ref aw, .ref pl])), (cp, .inr (2, [.ref ai, .ref at_, .int (iI (sv : Int)), .int (iI (en : Int))])), (ai, .inl (cA, 24000, .inl (iA fI))), (at_, .inl (cA, 13, .inl (iA fS)))] s.heap.size) = QQ
  refine lv_aload_n hx hb dW_save_0 rfl (lv_at hl 0 rfl) ?_
  refine va_get (ci := 0) (v := .ref cp) (C := "WindingRaster") (T := TW) (N := 7) hx hb hts in_0 hown hK hP 0 rfl rfl 4 (by decide) fl_47 (fun _ h9 => h9) rfl dW_save_1 ?_
  refine cw_i (wc := [(cp, .inr (2, [.ref ai, .ref at_, .int (iI (sv : Int)), .int (iI (en : Int))])), (ai, .inl (cA, 24000, .inl (iA fI))), (at_, .inl (cA, 13, .inl (iA fS)))]) (wr := [(wr, .inr (0, [.int (iI (cs : Int)), .int (iI (rs : Int)), .ref ag, .ref oo, .ref cp, .ref aw, .ref pl]))]) hP hD hS hA [1, 2, 3] [0] rfl rfl (by decide) (by decide) (va_runVN (As := []) (rest := []) ⟨hx, hb, hml, hown, hts⟩ (c_push l D cA cB cS cp ai at_ fI fS sv en st0 (by omega) h2 (by omega) (by omega) _) ⟨(va_cnB 0 hts (gIn vm_215) rfl rfl rfl (hN _ vn_30) (hts _ (List.mem_cons_of_mem _ vm_5)) (by decide +kernel) ⟨Nat.le_of_ble_eq_true rfl, Nat.le_of_ble_eq_true rfl⟩), (hts _ (List.mem_cons_of_mem _ vm_214)), (hts _ (List.mem_cons_of_mem _ vm_418))⟩ (pW.preV (va_recv hK hP (ci := 2) (q0 := 1) rfl rfl) (hP.sub [1, 2, 3] rfl) (hD.sub [1, 2, 3] (by decide) rfl) hKW) rfl rfl hl.1 rfl (lv_room (Nat.le_of_ble_eq_true rfl)) dW_save_4 ⟨Nat.le_of_ble_eq_true rfl, Nat.le_of_ble_eq_true rfl⟩) (fun zp u_1 H locs hzp hP hD hS => ?_)
  obtain ⟨fI1, fS1, sv1, en1⟩ := u_1
  try dsimp only at hzp
  have hP : va_P D vwCl [(wr, .inr (0, [.int (iI (cs : Int)), .int (iI (rs : Int)), .ref ag, .ref oo, .ref cp, .ref aw, .ref pl])), (cp, .inr (2, [.ref ai, .ref at_, .int (iI (sv1 : Int)), .int (iI (en1 : Int))])), (ai, .inl (cA, 24000, .inl (iA fI1))), (at_, .inl (cA, 13, .inl (iA fS1)))] H := hP
  have hD : va_D A [(wr, .inr (0, [.int (iI (cs : Int)), .int (iI (rs : Int)), .ref ag, .ref oo, .ref cp, .ref aw, .ref pl])), (cp, .inr (2, [.ref ai, .ref at_, .int (iI (sv1 : Int)), .int (iI (en1 : Int))])), (ai, .inl (cA, 24000, .inl (iA fI1))), (at_, .inl (cA, 13, .inl (iA fS1)))] := hD
  refine ii_if_eq (tgt := 20) hx hb dW_save_7 (by decide) (by omega) (fun c7 => ?_) (fun c7 => ?_)
  · refine ii_bipush (n := (-3)) hx hb dW_save_20 (by decide +kernel) ?_
    rw [← hQ]
    exact wr_iret (fI1, fS1, sv1, en1) hx hb hr hlocks hAe (hP.sub [0, 1, 2, 3] rfl) (hD.sub [0, 1, 2, 3] (by decide) rfl) hS (Or.inl ⟨rfl, by rcases hzp with w | w; (exact w.2); (exfalso; omega)⟩) dW_save_22
  · refine lv_aload_n hx hb dW_save_10 rfl (lv_at hl 0 rfl) ?_
    refine va_get (ci := 0) (v := .ref cp) (C := "WindingRaster") (T := TW) (N := 7) hx hb hts in_0 hown hK hP 0 rfl rfl 4 (by decide) fl_47 (fun _ h9 => h9) rfl dW_save_11 ?_
    refine va_getN (ci := 2) (v := .int (iI (sv1 : Int))) (C := "WindingRaster$ClipPile") (T := TC) (N := 4) hx hb hts in_2 hown hK hP 1 rfl rfl 2 (by decide) fl_121 (fun _ h9 => h9) rfl dW_save_14 ?_
    refine lv_goto (tgt := 22) hx hb dW_save_17 (by decide) ?_
    rw [← hQ]
    exact wr_iret (fI1, fS1, sv1, en1) hx hb hr hlocks hAe (hP.sub [0, 1, 2, 3] rfl) (hD.sub [0, 1, 2, 3] (by decide) rfl) hS (Or.inr (by rcases hzp with w | w; (exfalso; omega); (exact ⟨by rw [w.2.2.2.2.2.1], w.2⟩))) dW_save_22

def rm_c_restore : Room := { frames := 2, cells := 0, slots := 0, locals := 40 }
set_option maxHeartbeats 4000000 in
set_option maxRecDepth 100000 in
theorem c_restore (l : Launch) (D : va_G) (cA cB cS : ClassId) (wr : Nat) (cs : Nat) (rs : Nat) (ag : Nat) (oo : Nat) (cp : Nat) (aw : Nat) (pl : Nat) (ai : Nat) (at_ : Nat) (fI : Nat → Int) (fS : Nat → Int) (sv : Nat) (en : Nat) (st0 : Nat) (h1 : sv ≤ 12) (h2 : fS sv = (st0 : Int)) (sz : Nat) : Met l yW_restore wW_restore rm_c_restore (pW [.ref wr] D vwCl (vwTy cA cB cS) vwNw [(wr, .inr (0, [.int (iI (cs : Int)), .int (iI (rs : Int)), .ref ag, .ref oo, .ref cp, .ref aw, .ref pl])), (cp, .inr (2, [.ref ai, .ref at_, .int (iI (sv : Int)), .int (iI (en : Int))])), (ai, .inl (cA, 24000, .inl (iA fI))), (at_, .inl (cA, 13, .inl (iA fS)))] sz) (qW (S := Nat × Nat) (fun (z : Int) (u : Nat × Nat) => (z = -2 ∧ sv = 0 ∧ u.1 = sv ∧ u.2 = en) ∨ (z = ((sv - 1 : Nat) : Int) ∧ 0 < sv ∧ u.1 = sv - 1 ∧ u.2 = st0)) D vwCl [(wr, .inr (0, [.int (iI (cs : Int)), .int (iI (rs : Int)), .ref ag, .ref oo, .ref cp, .ref aw, .ref pl])), (cp, .inr (2, [.ref ai, .ref at_, .int (iI (sv : Int)), .int (iI (en : Int))])), (ai, .inl (cA, 24000, .inl (iA fI))), (at_, .inl (cA, 13, .inl (iA fS)))] sz (fun u : Nat × Nat => [(wr, .inr (0, [.int (iI (cs : Int)), .int (iI (rs : Int)), .ref ag, .ref oo, .ref cp, .ref aw, .ref pl])), (cp, .inr (2, [.ref ai, .ref at_, .int (iI ((u.1 : Nat) : Int)), .int (iI ((u.2 : Nat) : Int))])), (ai, .inl (cA, 24000, .inl (iA fI))), (at_, .inl (cA, 13, .inl (iA fS)))])) 0 0 (va_A [(wr, .inr (0, [.int (iI (cs : Int)), .int (iI (rs : Int)), .ref ag, .ref oo, .ref cp, .ref aw, .ref pl])), (cp, .inr (2, [.ref ai, .ref at_, .int (iI (sv : Int)), .int (iI (en : Int))])), (ai, .inl (cA, 24000, .inl (iA fI))), (at_, .inl (cA, 13, .inl (iA fS)))] sz) := by
  refine Met.ofW (cc := bW_restore) (maxL := 1) (ret := (some .int)) (by decide +kernel) rfl ?_
  intro p e s m args below meth c s₁ B hml hv
  obtain ⟨rfl, hsz, hP, hKW, hD0⟩ := hv
  have hK := hKW.1
  have hN := hKW.2.2
  have hx := B.exec
  have hb := B.bytes
  have hr := B.returns
  have hts := atoms_spec (ws := wW_restore) B.pre
  have hown : s.vm.findClass "WindingRaster" = some m.cls := findClass_of_methodNamed B.named
  have hlocks := B.notSynchronized
  subst hsz
  have hD := hD0.self (sz := s.heap.size)
  obtain ⟨A, hAe⟩ : ∃ A, va_A [(wr, .inr (0, [.int (iI (cs : Int)), .int (iI (rs : Int)), .ref ag, .ref oo, .ref cp, .ref aw, .ref pl])), (cp, .inr (2, [.ref ai, .ref at_, .int (iI (sv : Int)), .int (iI (en : Int))])), (ai, .inl (cA, 24000, .inl (iA fI))), (at_, .inl (cA, 13, .inl (iA fS)))] s.heap.size = A := ⟨_, rfl⟩
  rw [hAe] at hD
  have hA : ∀ q : Nat, s.heap.size ≤ q → A q := fun q h => by rw [← hAe]; exact Or.inr h
  have hS : va_S A s.heap s.heap [] := va_S.rf
  have hP : va_P D vwCl [(wr, .inr (0, [.int (iI (cs : Int)), .int (iI (rs : Int)), .ref ag, .ref oo, .ref cp, .ref aw, .ref pl])), (cp, .inr (2, [.ref ai, .ref at_, .int (iI (sv : Int)), .int (iI (en : Int))])), (ai, .inl (cA, 24000, .inl (iA fI))), (at_, .inl (cA, 13, .inl (iA fS)))] s.heap := hP
  have in_0 : ∀ w ∈ wsW, w ∈ wW_restore := fun w h => List.mem_cons_of_mem _ (in0_W w h)
  have fl_47 := (hts _ (List.mem_cons_of_mem _ vm_73))
  have in_2 : ∀ w ∈ wsC, w ∈ wW_restore := fun w h => List.mem_cons_of_mem _ (in0_C w h)
  have fl_121 := va_Nw.use (A := [.ref wr].toArray) rfl (hN _ vn_5)
  have hl := lv_entry ([.ref wr]) (n := 1) (Nat.le_of_ble_eq_true rfl)
  rw [lg_entry_eq]
  generalize (lg_sl ([.ref wr]) ++ List.replicate (1 - (lg_sl ([.ref wr])).length) Slot.unset).toArray = ls at hl ⊢
  have hl : lv_has ls 1 [(0, .ref wr)] := hl
  generalize hQ : MQ below (qW (S := Nat × Nat) (fun (z : Int) (u : Nat × Nat) => (z = -2 ∧ sv = 0 ∧ u.1 = sv ∧ u.2 = en) ∨ (z = ((sv - 1 : Nat) : Int) ∧ 0 < sv ∧ u.1 = sv - 1 ∧ u.2 = st0)) D vwCl [(wr, .inr (0, [.int (iI (cs : Int)), .int (iI (rs : Int)), .ref ag, .ref oo, .ref cp, .ref aw, .ref pl])), (cp, .inr (2, [.ref ai, .ref at_, .int (iI (sv : Int)), .int (iI (en : Int))])), (ai, .inl (cA, 24000, .inl (iA fI))), (at_, .inl (cA, 13, .inl (iA fS)))] s.heap.size (fun u : Nat × Nat => [(wr, .inr (0, [.int (iI (cs : Int)), .int (iI (rs : Int)), .ref ag, .ref oo, .ref cp, .ref aw, .ref pl])), (cp, .inr (2, [.ref ai, .ref at_, .int (iI ((u.1 : Nat) : Int)), .int (iI ((u.2 : Nat) : Int))])), (ai, .inl (cA, 24000, .inl (iA fI))), (at_, .inl (cA, 13, .inl (iA fS)))])) [.ref wr].toArray s 0 0 (va_A [(wr, .inr (0, [.int (iI (cs : Int)), .int (iI (rs : Int)), .ref ag, .ref oo, .ref cp, .ref aw, .ref pl])), (cp, .inr (2, [.ref ai, .ref at_, .int (iI (sv : Int)), .int (iI (en : Int))])), (ai, .inl (cA, 24000, .inl (iA fI))), (at_, .inl (cA, 13, .inl (iA fS)))] s.heap.size) = QQ
  refine lv_aload_n hx hb dW_restore_0 rfl (lv_at hl 0 rfl) ?_
  refine va_get (ci := 0) (v := .ref cp) (C := "WindingRaster") (T := TW) (N := 7) hx hb hts in_0 hown hK hP 0 rfl rfl 4 (by decide) fl_47 (fun _ h9 => h9) rfl dW_restore_1 ?_
  refine cw_i (wc := [(cp, .inr (2, [.ref ai, .ref at_, .int (iI (sv : Int)), .int (iI (en : Int))])), (ai, .inl (cA, 24000, .inl (iA fI))), (at_, .inl (cA, 13, .inl (iA fS)))]) (wr := [(wr, .inr (0, [.int (iI (cs : Int)), .int (iI (rs : Int)), .ref ag, .ref oo, .ref cp, .ref aw, .ref pl]))]) hP hD hS hA [1, 2, 3] [0] rfl rfl (by decide) (by decide) (va_runVN (As := []) (rest := []) ⟨hx, hb, hml, hown, hts⟩ (c_pop l D cA cB cS cp ai at_ fI fS sv en st0 (by omega) h2 _) ⟨(va_cnB 0 hts (gIn vm_221) rfl rfl rfl (hN _ vn_31) (hts _ (List.mem_cons_of_mem _ vm_5)) (by decide +kernel) ⟨Nat.le_of_ble_eq_true rfl, Nat.le_of_ble_eq_true rfl⟩), (hts _ (List.mem_cons_of_mem _ vm_220)), (hts _ (List.mem_cons_of_mem _ vm_419))⟩ (pW.preV (va_recv hK hP (ci := 2) (q0 := 1) rfl rfl) (hP.sub [1, 2, 3] rfl) (hD.sub [1, 2, 3] (by decide) rfl) hKW) rfl rfl hl.1 rfl (lv_room (Nat.le_of_ble_eq_true rfl)) dW_restore_4 ⟨Nat.le_of_ble_eq_true rfl, Nat.le_of_ble_eq_true rfl⟩) (fun zp u_1 H locs hzp hP hD hS => ?_)
  obtain ⟨sv1, en1⟩ := u_1
  try dsimp only at hzp
  have hP : va_P D vwCl [(wr, .inr (0, [.int (iI (cs : Int)), .int (iI (rs : Int)), .ref ag, .ref oo, .ref cp, .ref aw, .ref pl])), (cp, .inr (2, [.ref ai, .ref at_, .int (iI (sv1 : Int)), .int (iI (en1 : Int))])), (ai, .inl (cA, 24000, .inl (iA fI))), (at_, .inl (cA, 13, .inl (iA fS)))] H := hP
  have hD : va_D A [(wr, .inr (0, [.int (iI (cs : Int)), .int (iI (rs : Int)), .ref ag, .ref oo, .ref cp, .ref aw, .ref pl])), (cp, .inr (2, [.ref ai, .ref at_, .int (iI (sv1 : Int)), .int (iI (en1 : Int))])), (ai, .inl (cA, 24000, .inl (iA fI))), (at_, .inl (cA, 13, .inl (iA fS)))] := hD
  refine ii_if_eq (tgt := 20) hx hb dW_restore_7 (by decide) (by omega) (fun c7 => ?_) (fun c7 => ?_)
  · refine ii_bipush (n := (-2)) hx hb dW_restore_20 (by decide +kernel) ?_
    rw [← hQ]
    exact wr_iret (sv1, en1) hx hb hr hlocks hAe (hP.sub [0, 1, 2, 3] rfl) (hD.sub [0, 1, 2, 3] (by decide) rfl) hS (Or.inl ⟨rfl, by rcases hzp with w | w; (exact w.2); (exfalso; omega)⟩) dW_restore_22
  · refine lv_aload_n hx hb dW_restore_10 rfl (lv_at hl 0 rfl) ?_
    refine va_get (ci := 0) (v := .ref cp) (C := "WindingRaster") (T := TW) (N := 7) hx hb hts in_0 hown hK hP 0 rfl rfl 4 (by decide) fl_47 (fun _ h9 => h9) rfl dW_restore_11 ?_
    refine va_getN (ci := 2) (v := .int (iI (sv1 : Int))) (C := "WindingRaster$ClipPile") (T := TC) (N := 4) hx hb hts in_2 hown hK hP 1 rfl rfl 2 (by decide) fl_121 (fun _ h9 => h9) rfl dW_restore_14 ?_
    refine lv_goto (tgt := 22) hx hb dW_restore_17 (by decide) ?_
    rw [← hQ]
    exact wr_iret (sv1, en1) hx hb hr hlocks hAe (hP.sub [0, 1, 2, 3] rfl) (hD.sub [0, 1, 2, 3] (by decide) rfl) hS (Or.inr (by rcases hzp with w | w; (exfalso; omega); (exact ⟨by rw [w.2.2.1], w.2⟩))) dW_restore_22
