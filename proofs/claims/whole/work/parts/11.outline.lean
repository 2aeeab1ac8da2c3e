def rm_c_isFull : Room := { frames := 0, cells := 0, slots := 0, locals := 0 }
set_option maxHeartbeats 4000000 in
set_option maxRecDepth 100000 in
theorem c_isFull (l : Launch) (D : va_G) (cA cB cS : ClassId) (oo : Nat) (ax : Nat) (ay : Nat) (an : Nat) (fX : Nat → Int) (fY : Nat → Int) (fN : Nat → Int) (np : Nat) (l0 : Nat) (h1 : np ≤ 4096) : Met l yO_isFull wO_isFull rm_c_isFull (pR [.ref oo] D vwCl (vwTy cA cB cS) vwNw [(oo, .inr (1, [.ref ax, .ref ay, .ref an, .int (iI (np : Int)), .int (iI (l0 : Int))])), (ax, .inl (cA, 4096, .inl (iA fX))), (ay, .inl (cA, 4096, .inl (iA fY))), (an, .inl (cA, 4096, .inl (iA fN)))]) (qI (fun z => (z = 1 ∧ (4096 ≤ np)) ∨ (z = 0 ∧ ¬ (4096 ≤ np)))) 0 0 (fun _ => False) := by
  refine Met.ofW (cc := bO_isFull) (maxL := 1) (ret := (some .boolean)) (by decide +kernel) rfl ?_
  intro p e s m args below meth c s₁ B hml hv
  obtain ⟨rfl, hP, hKW⟩ := hv
  have hK := hKW.1
  have hN := hKW.2.2
  have hx := B.exec
  have hb := B.bytes
  have hr := B.returns
  have hts := atoms_spec (ws := wO_isFull) B.pre
  have hown : s.vm.findClass "WindingRaster$Outline" = some m.cls := findClass_of_methodNamed B.named
  have hlocks := B.notSynchronized
  have hP : va_P D vwCl [(oo, .inr (1, [.ref ax, .ref ay, .ref an, .int (iI (np : Int)), .int (iI (l0 : Int))])), (ax, .inl (cA, 4096, .inl (iA fX))), (ay, .inl (cA, 4096, .inl (iA fY))), (an, .inl (cA, 4096, .inl (iA fN)))] s.heap := hP
  have in_1 : ∀ w ∈ wsO, w ∈ wO_isFull := fun w h => List.mem_cons_of_mem _ (in0_O w h)
  have fl_21 := (hts _ (List.mem_cons_of_mem _ vm_35))
  have hl := lv_entry ([.ref oo]) (n := 1) (Nat.le_of_ble_eq_true rfl)
  rw [lg_entry_eq]
  generalize (lg_sl ([.ref oo]) ++ List.replicate (1 - (lg_sl ([.ref oo])).length) Slot.unset).toArray = ls at hl ⊢
  have hl : lv_has ls 1 [(0, .ref oo)] := hl
  generalize hQ : MQ below (qI (fun z => (z = 1 ∧ (4096 ≤ np)) ∨ (z = 0 ∧ ¬ (4096 ≤ np)))) [.ref oo].toArray s 0 0 (fun _ => False) = QQ
  refine lv_aload_n hx hb dO_isFull_0 rfl (lv_at hl 0 rfl) ?_
  refine va_get (ci := 1) (v := .int (iI (np : Int))) (C := "WindingRaster$Outline") (T := TO) (N := 5) hx hb hts in_1 hown hK hP 0 rfl rfl 3 (by decide) fl_21 (fun _ h9 => h9) rfl dO_isFull_1 ?_
  refine ii_sipush (n := 4096) hx hb dO_isFull_4 (by decide +kernel) ?_
  refine ii_icmp_lt (tgt := 14) hx hb dO_isFull_7 (by decide) (by omega) (by omega) (fun c7 => ?_) (fun c7 => ?_)
  · refine ii_iconst (n := 0) hx hb dO_isFull_14 ?_
    rw [← hQ]
    exact rd_zret hx hb hr hlocks (nar_b (by omega)) (by omega) dO_isFull_15
  · refine ii_iconst (n := 1) hx hb dO_isFull_10 ?_
    refine lv_goto (tgt := 15) hx hb dO_isFull_11 (by decide) ?_
    rw [← hQ]
    exact rd_zret hx hb hr hlocks (nar_b (by omega)) (by omega) dO_isFull_15

def rm_c_hasLine : Room := { frames := 0, cells := 0, slots := 0, locals := 0 }
set_option maxHeartbeats 4000000 in
set_option maxRecDepth 100000 in
theorem c_hasLine (l : Launch) (D : va_G) (cA cB cS : ClassId) (oo : Nat) (ax : Nat) (ay : Nat) (an : Nat) (fX : Nat → Int) (fY : Nat → Int) (fN : Nat → Int) (np : Nat) (l0 : Nat) (h1 : np ≤ 4096) : Met l yO_hasLine wO_hasLine rm_c_hasLine (pR [.ref oo] D vwCl (vwTy cA cB cS) vwNw [(oo, .inr (1, [.ref ax, .ref ay, .ref an, .int (iI (np : Int)), .int (iI (l0 : Int))])), (ax, .inl (cA, 4096, .inl (iA fX))), (ay, .inl (cA, 4096, .inl (iA fY))), (an, .inl (cA, 4096, .inl (iA fN)))]) (qI (fun z => (z = 1 ∧ (0 < np)) ∨ (z = 0 ∧ ¬ (0 < np)))) 0 0 (fun _ => False) := by
  refine Met.ofW (cc := bO_hasLine) (maxL := 1) (ret := (some .boolean)) (by decide +kernel) rfl ?_
  intro p e s m args below meth c s₁ B hml hv
  obtain ⟨rfl, hP, hKW⟩ := hv
  have hK := hKW.1
  have hN := hKW.2.2
  have hx := B.exec
  have hb := B.bytes
  have hr := B.returns
  have hts := atoms_spec (ws := wO_hasLine) B.pre
  have hown : s.vm.findClass "WindingRaster$Outline" = some m.cls := findClass_of_methodNamed B.named
  have hlocks := B.notSynchronized
  have hP : va_P D vwCl [(oo, .inr (1, [.ref ax, .ref ay, .ref an, .int (iI (np : Int)), .int (iI (l0 : Int))])), (ax, .inl (cA, 4096, .inl (iA fX))), (ay, .inl (cA, 4096, .inl (iA fY))), (an, .inl (cA, 4096, .inl (iA fN)))] s.heap := hP
  have in_1 : ∀ w ∈ wsO, w ∈ wO_hasLine := fun w h => List.mem_cons_of_mem _ (in0_O w h)
  have fl_21 := (hts _ (List.mem_cons_of_mem _ vm_35))
  have hl := lv_entry ([.ref oo]) (n := 1) (Nat.le_of_ble_eq_true rfl)
  rw [lg_entry_eq]
  generalize (lg_sl ([.ref oo]) ++ List.replicate (1 - (lg_sl ([.ref oo])).length) Slot.unset).toArray = ls at hl ⊢
  have hl : lv_has ls 1 [(0, .ref oo)] := hl
  generalize hQ : MQ below (qI (fun z => (z = 1 ∧ (0 < np)) ∨ (z = 0 ∧ ¬ (0 < np)))) [.ref oo].toArray s 0 0 (fun _ => False) = QQ
  refine lv_aload_n hx hb dO_hasLine_0 rfl (lv_at hl 0 rfl) ?_
  refine va_get (ci := 1) (v := .int (iI (np : Int))) (C := "WindingRaster$Outline") (T := TO) (N := 5) hx hb hts in_1 hown hK hP 0 rfl rfl 3 (by decide) fl_21 (fun _ h9 => h9) rfl dO_hasLine_1 ?_
  refine ii_if_le (tgt := 11) hx hb dO_hasLine_4 (by decide) (by omega) (fun c4 => ?_) (fun c4 => ?_)
  · refine ii_iconst (n := 0) hx hb dO_hasLine_11 ?_
    rw [← hQ]
    exact rd_zret hx hb hr hlocks (nar_b (by omega)) (by omega) dO_hasLine_12
  · refine ii_iconst (n := 1) hx hb dO_hasLine_7 ?_
    refine lv_goto (tgt := 12) hx hb dO_hasLine_8 (by decide) ?_
    rw [← hQ]
    exact rd_zret hx hb hr hlocks (nar_b (by omega)) (by omega) dO_hasLine_12

def rm_c_addPoint : Room := { frames := 1, cells := 0, slots := 0, locals := 20 }
set_option maxHeartbeats 4000000 in
set_option maxRecDepth 100000 in
theorem c_addPoint (l : Launch) (D : va_G) (cA cB cS : ClassId) (oo : Nat) (ax : Nat) (ay : Nat) (an : Nat) (fX : Nat → Int) (fY : Nat → Int) (fN : Nat → Int) (np : Nat) (l0 : Nat) (a1 : Int) (a2 : Int) (h1 : np < 4096) (sz : Nat) : Met l yO_addPoint wO_addPoint rm_c_addPoint (pW [.ref oo, .int (iI a1), .int (iI a2)] D vwCl (vwTy cA cB cS) vwNw [(oo, .inr (1, [.ref ax, .ref ay, .ref an, .int (iI (np : Int)), .int (iI (l0 : Int))])), (ax, .inl (cA, 4096, .inl (iA fX))), (ay, .inl (cA, 4096, .inl (iA fY))), (an, .inl (cA, 4096, .inl (iA fN)))] sz) (qV (S := Unit) (fun _ : Unit => True) D vwCl [(oo, .inr (1, [.ref ax, .ref ay, .ref an, .int (iI (np : Int)), .int (iI (l0 : Int))])), (ax, .inl (cA, 4096, .inl (iA fX))), (ay, .inl (cA, 4096, .inl (iA fY))), (an, .inl (cA, 4096, .inl (iA fN)))] sz (fun _ : Unit => [(oo, .inr (1, [.ref ax, .ref ay, .ref an, .int (iI ((np + 1 : Nat) : Int)), .int (iI (l0 : Int))])), (ax, .inl (cA, 4096, .inl (iA (uZ fX np a1)))), (ay, .inl (cA, 4096, .inl (iA (uZ fY np a2)))), (an, .inl (cA, 4096, .inl (iA (uZ fN np (l0 : Int)))))])) 0 0 (va_A [(oo, .inr (1, [.ref ax, .ref ay, .ref an, .int (iI (np : Int)), .int (iI (l0 : Int))])), (ax, .inl (cA, 4096, .inl (iA fX))), (ay, .inl (cA, 4096, .inl (iA fY))), (an, .inl (cA, 4096, .inl (iA fN)))] sz) := by
  refine Met.ofW (cc := bO_addPoint) (maxL := 3) (ret := none) (by decide +kernel) rfl ?_
  intro p e s m args below meth c s₁ B hml hv
  obtain ⟨rfl, hsz, hP, hKW, hD0⟩ := hv
  have hK := hKW.1
  have hN := hKW.2.2
  have hx := B.exec
  have hb := B.bytes
  have hr := B.returns
  have hts := atoms_spec (ws := wO_addPoint) B.pre
  have hown : s.vm.findClass "WindingRaster$Outline" = some m.cls := findClass_of_methodNamed B.named
  have hlocks := B.notSynchronized
  subst hsz
  have hD := hD0.self (sz := s.heap.size)
  obtain ⟨A, hAe⟩ : ∃ A, va_A [(oo, .inr (1, [.ref ax, .ref ay, .ref an, .int (iI (np : Int)), .int (iI (l0 : Int))])), (ax, .inl (cA, 4096, .inl (iA fX))), (ay, .inl (cA, 4096, .inl (iA fY))), (an, .inl (cA, 4096, .inl (iA fN)))] s.heap.size = A := ⟨_, rfl⟩
  rw [hAe] at hD
  have hA : ∀ q : Nat, s.heap.size ≤ q → A q := fun q h => by rw [← hAe]; exact Or.inr h
  have hS : va_S A s.heap s.heap [] := va_S.rf
  have hP : va_P D vwCl [(oo, .inr (1, [.ref ax, .ref ay, .ref an, .int (iI (np : Int)), .int (iI (l0 : Int))])), (ax, .inl (cA, 4096, .inl (iA fX))), (ay, .inl (cA, 4096, .inl (iA fY))), (an, .inl (cA, 4096, .inl (iA fN)))] s.heap := hP
  have in_1 : ∀ w ∈ wsO, w ∈ wO_addPoint := fun w h => List.mem_cons_of_mem _ (in0_O w h)
  have fl_9 := (hts _ (List.mem_cons_of_mem _ vm_32))
  have fl_21 := (hts _ (List.mem_cons_of_mem _ vm_35))
  have fl_15 := (hts _ (List.mem_cons_of_mem _ vm_33))
  have fl_18 := (hts _ (List.mem_cons_of_mem _ vm_34))
  have fl_25 := (hts _ (List.mem_cons_of_mem _ vm_36))
  have hl := lv_entry ([.ref oo, .int (iI a1), .int (iI a2)]) (n := 3) (Nat.le_of_ble_eq_true rfl)
  rw [lg_entry_eq]
  generalize (lg_sl ([.ref oo, .int (iI a1), .int (iI a2)]) ++ List.replicate (3 - (lg_sl ([.ref oo, .int (iI a1), .int (iI a2)])).length) Slot.unset).toArray = ls at hl ⊢
  have hl : lv_has ls 3 [(0, .ref oo), (1, .int (iI a1)), (2, .int (iI a2))] := hl
  generalize hQ : MQ below (qV (S := Unit) (fun _ : Unit => True) D vwCl [(oo, .inr (1, [.ref ax, .ref ay, .ref an, .int (iI (np : Int)), .int (iI (l0 : Int))])), (ax, .inl (cA, 4096, .inl (iA fX))), (ay, .inl (cA, 4096, .inl (iA fY))), (an, .inl (cA, 4096, .inl (iA fN)))] s.heap.size (fun _ : Unit => [(oo, .inr (1, [.ref ax, .ref ay, .ref an, .int (iI ((np + 1 : Nat) : Int)), .int (iI (l0 : Int))])), (ax, .inl (cA, 4096, .inl (iA (uZ fX np a1)))), (ay, .inl (cA, 4096, .inl (iA (uZ fY np a2)))), (an, .inl (cA, 4096, .inl (iA (uZ fN np (l0 : Int)))))])) [.ref oo, .int (iI a1), .int (iI a2)].toArray s 0 0 (va_A [(oo, .inr (1, [.ref ax, .ref ay, .ref an, .int (iI (np : Int)), .int (iI (l0 : Int))])), (ax, .inl (cA, 4096, .inl (iA fX))), (ay, .inl (cA, 4096, .inl (iA fY))), (an, .inl (cA, 4096, .inl (iA fN)))] s.heap.size) = QQ
  refine lv_aload_n hx hb dO_addPoint_0 rfl (lv_at hl 0 rfl) ?_
  refine cs_i (va_runV (As := []) (rest := []) ⟨hx, hb, hml, hown, hts⟩ (c_isFull l D cA cB cS oo ax ay an fX fY fN np l0 (by omega)) ⟨(callB_of 0 hts (gIn vm_101) rfl rfl rfl (hts _ (List.mem_cons_of_mem _ vm_4)) (hts _ (List.mem_cons_of_mem _ vm_107)) (by decide +kernel) ⟨Nat.le_of_ble_eq_true rfl, Nat.le_of_ble_eq_true rfl⟩), (hts _ (List.mem_cons_of_mem _ vm_100)), (hts _ (List.mem_cons_of_mem _ vm_396))⟩ (pR.preV (va_recv hK hP (ci := 1) (q0 := 0) rfl rfl) (hP.sub [0, 1, 2, 3] rfl) hKW) rfl rfl hl.1 rfl (lv_room (Nat.le_of_ble_eq_true rfl)) dO_addPoint_1 ⟨Nat.le_of_ble_eq_true rfl, Nat.le_of_ble_eq_true rfl⟩) (fun z_1 hz_1 => ?_)
  refine ii_if_ne (tgt := 50) hx hb dO_addPoint_4 (by decide) (by omega) (fun c4 => ?_) (fun c4 => ?_)
  · exfalso; omega
  · refine lv_aload_n hx hb dO_addPoint_7 rfl (lv_at hl 0 rfl) ?_
    refine va_get (ci := 1) (v := .ref ax) (C := "WindingRaster$Outline") (T := TO) (N := 5) hx hb hts in_1 hown hK hP 0 rfl rfl 0 (by decide) fl_9 (fun _ h9 => h9) rfl dO_addPoint_8 ?_
    refine lv_aload_n hx hb dO_addPoint_11 rfl (lv_at hl 0 rfl) ?_
    refine va_get (ci := 1) (v := .int (iI (np : Int))) (C := "WindingRaster$Outline") (T := TO) (N := 5) hx hb hts in_1 hown hK hP 0 rfl rfl 3 (by decide) fl_21 (fun _ h9 => h9) rfl dO_addPoint_12 ?_
    refine lv_iload_n hx hb dO_addPoint_15 rfl (lv_at hl 1 rfl) ?_
    refine ii_iast hx hb hK hP hD hS 1 0 rfl rfl np rfl (by omega) (by omega) dO_addPoint_16 (fun H locs hP hD hS => ?_)
    have hP : va_P D vwCl [(oo, .inr (1, [.ref ax, .ref ay, .ref an, .int (iI (np : Int)), .int (iI (l0 : Int))])), (ax, .inl (cA, 4096, .inl (iA (uZ fX np a1)))), (ay, .inl (cA, 4096, .inl (iA fY))), (an, .inl (cA, 4096, .inl (iA fN)))] H := hP
    have hD : va_D A [(oo, .inr (1, [.ref ax, .ref ay, .ref an, .int (iI (np : Int)), .int (iI (l0 : Int))])), (ax, .inl (cA, 4096, .inl (iA (uZ fX np a1)))), (ay, .inl (cA, 4096, .inl (iA fY))), (an, .inl (cA, 4096, .inl (iA fN)))] := hD
    refine lv_aload_n hx hb dO_addPoint_17 rfl (lv_at hl 0 rfl) ?_
    refine va_get (ci := 1) (v := .ref ay) (C := "WindingRaster$Outline") (T := TO) (N := 5) hx hb hts in_1 hown hK hP 0 rfl rfl 1 (by decide) fl_15 (fun _ h9 => h9) rfl dO_addPoint_18 ?_
    refine lv_aload_n hx hb dO_addPoint_21 rfl (lv_at hl 0 rfl) ?_
    refine va_get (ci := 1) (v := .int (iI (np : Int))) (C := "WindingRaster$Outline") (T := TO) (N := 5) hx hb hts in_1 hown hK hP 0 rfl rfl 3 (by decide) fl_21 (fun _ h9 => h9) rfl dO_addPoint_22 ?_
    refine lv_iload_n hx hb dO_addPoint_25 rfl (lv_at hl 2 rfl) ?_
    refine ii_iast hx hb hK hP hD hS 2 0 rfl rfl np rfl (by omega) (by omega) dO_addPoint_26 (fun H locs hP hD hS => ?_)
    have hP : va_P D vwCl [(oo, .inr (1, [.ref ax, .ref ay, .ref an, .int (iI (np : Int)), .int (iI (l0 : Int))])), (ax, .inl (cA, 4096, .inl (iA (uZ fX np a1)))), (ay, .inl (cA, 4096, .inl (iA (uZ fY np a2)))), (an, .inl (cA, 4096, .inl (iA fN)))] H := hP
    have hD : va_D A [(oo, .inr (1, [.ref ax, .ref ay, .ref an, .int (iI (np : Int)), .int (iI (l0 : Int))])), (ax, .inl (cA, 4096, .inl (iA (uZ fX np a1)))), (ay, .inl (cA, 4096, .inl (iA (uZ fY np a2)))), (an, .inl (cA, 4096, .inl (iA fN)))] := hD
    refine lv_aload_n hx hb dO_addPoint_27 rfl (lv_at hl 0 rfl) ?_
    refine va_get (ci := 1) (v := .ref an) (C := "WindingRaster$Outline") (T := TO) (N := 5) hx hb hts in_1 hown hK hP 0 rfl rfl 2 (by decide) fl_18 (fun _ h9 => h9) rfl dO_addPoint_28 ?_
    refine lv_aload_n hx hb dO_addPoint_31 rfl (lv_at hl 0 rfl) ?_
    refine va_get (ci := 1) (v := .int (iI (np : Int))) (C := "WindingRaster$Outline") (T := TO) (N := 5) hx hb hts in_1 hown hK hP 0 rfl rfl 3 (by decide) fl_21 (fun _ h9 => h9) rfl dO_addPoint_32 ?_
    refine lv_aload_n hx hb dO_addPoint_35 rfl (lv_at hl 0 rfl) ?_
    refine va_get (ci := 1) (v := .int (iI (l0 : Int))) (C := "WindingRaster$Outline") (T := TO) (N := 5) hx hb hts in_1 hown hK hP 0 rfl rfl 4 (by decide) fl_25 (fun _ h9 => h9) rfl dO_addPoint_36 ?_
    refine ii_iast hx hb hK hP hD hS 3 0 rfl rfl np rfl (by omega) (by omega) dO_addPoint_39 (fun H locs hP hD hS => ?_)
    have hP : va_P D vwCl [(oo, .inr (1, [.ref ax, .ref ay, .ref an, .int (iI (np : Int)), .int (iI (l0 : Int))])), (ax, .inl (cA, 4096, .inl (iA (uZ fX np a1)))), (ay, .inl (cA, 4096, .inl (iA (uZ fY np a2)))), (an, .inl (cA, 4096, .inl (iA (uZ fN np (l0 : Int)))))] H := hP
    have hD : va_D A [(oo, .inr (1, [.ref ax, .ref ay, .ref an, .int (iI (np : Int)), .int (iI (l0 : Int))])), (ax, .inl (cA, 4096, .inl (iA (uZ fX np a1)))), (ay, .inl (cA, 4096, .inl (iA (uZ fY np a2)))), (an, .inl (cA, 4096, .inl (iA (uZ fN np (l0 : Int)))))] := hD
    refine lv_aload_n hx hb dO_addPoint_40 rfl (lv_at hl 0 rfl) ?_
    refine lv_dup hx hb dO_addPoint_41 rfl ?_
    refine va_get (ci := 1) (v := .int (iI (np : Int))) (C := "WindingRaster$Outline") (T := TO) (N := 5) hx hb hts in_1 hown hK hP 0 rfl rfl 3 (by decide) fl_21 (fun _ h9 => h9) rfl dO_addPoint_42 ?_
    refine ii_iconst (n := 1) hx hb dO_addPoint_45 ?_
    refine ii_iadd hx hb dO_addPoint_46 ?_
    refine ii_top (y := ((np + 1 : Nat) : Int)) (by push_cast; rfl) ?_
    refine va_put (ci := 1) (v := .int (iI ((np + 1 : Nat) : Int))) (ty := .int) (C := "WindingRaster$Outline") (T := TO) (N := 5) hx hb hts in_1 tO tO_ok nO hown hK hP hD hS 0 rfl rfl 3 (by decide) fl_21 (fun _ h9 => h9) rfl (by decide +kernel) rfl rfl (Nat.le_of_ble_eq_true rfl) dO_addPoint_47 (fun H locs hP hD hS => ?_)
    have hP : va_P D vwCl [(oo, .inr (1, [.ref ax, .ref ay, .ref an, .int (iI ((np + 1 : Nat) : Int)), .int (iI (l0 : Int))])), (ax, .inl (cA, 4096, .inl (iA (uZ fX np a1)))), (ay, .inl (cA, 4096, .inl (iA (uZ fY np a2)))), (an, .inl (cA, 4096, .inl (iA (uZ fN np (l0 : Int)))))] H := hP
    have hD : va_D A [(oo, .inr (1, [.ref ax, .ref ay, .ref an, .int (iI ((np + 1 : Nat) : Int)), .int (iI (l0 : Int))])), (ax, .inl (cA, 4096, .inl (iA (uZ fX np a1)))), (ay, .inl (cA, 4096, .inl (iA (uZ fY np a2)))), (an, .inl (cA, 4096, .inl (iA (uZ fN np (l0 : Int)))))] := hD
    rw [← hQ]
    exact wr_vret () hx hb hr hlocks hAe (hP.sub [0, 1, 2, 3] rfl) (hD.sub [0, 1, 2, 3] (by decide) rfl) hS trivial dO_addPoint_50

def rm_c_begin : Room := { frames := 2, cells := 0, slots := 0, locals := 42 }
set_option maxHeartbeats 4000000 in
set_option maxRecDepth 100000 in
theorem c_begin (l : Launch) (D : va_G) (cA cB cS : ClassId) (oo : Nat) (ax : Nat) (ay : Nat) (an : Nat) (fX : Nat → Int) (fY : Nat → Int) (fN : Nat → Int) (np : Nat) (l0 : Nat) (a1 : Int) (a2 : Int) (h1 : np < 4096) (sz : Nat) : Met l yO_begin wO_begin rm_c_begin (pW [.ref oo, .int (iI a1), .int (iI a2)] D vwCl (vwTy cA cB cS) vwNw [(oo, .inr (1, [.ref ax, .ref ay, .ref an, .int (iI (np : Int)), .int (iI (l0 : Int))])), (ax, .inl (cA, 4096, .inl (iA fX))), (ay, .inl (cA, 4096, .inl (iA fY))), (an, .inl (cA, 4096, .inl (iA fN)))] sz) (qV (S := Unit) (fun _ : Unit => True) D vwCl [(oo, .inr (1, [.ref ax, .ref ay, .ref an, .int (iI (np : Int)), .int (iI (l0 : Int))])), (ax, .inl (cA, 4096, .inl (iA fX))), (ay, .inl (cA, 4096, .inl (iA fY))), (an, .inl (cA, 4096, .inl (iA fN)))] sz (fun _ : Unit => [(oo, .inr (1, [.ref ax, .ref ay, .ref an, .int (iI ((np + 1 : Nat) : Int)), .int (iI (np : Int))])), (ax, .inl (cA, 4096, .inl (iA (uZ fX np a1)))), (ay, .inl (cA, 4096, .inl (iA (uZ fY np a2)))), (an, .inl (cA, 4096, .inl (iA (uZ fN np (np : Int)))))])) 0 0 (va_A [(oo, .inr (1, [.ref ax, .ref ay, .ref an, .int (iI (np : Int)), .int (iI (l0 : Int))])), (ax, .inl (cA, 4096, .inl (iA fX))), (ay, .inl (cA, 4096, .inl (iA fY))), (an, .inl (cA, 4096, .inl (iA fN)))] sz) := by
  refine Met.ofW (cc := bO_begin) (maxL := 3) (ret := none) (by decide +kernel) rfl ?_
  intro p e s m args below meth c s₁ B hml hv
  obtain ⟨rfl, hsz, hP, hKW, hD0⟩ := hv
  have hK := hKW.1
  have hN := hKW.2.2
  have hx := B.exec
  have hb := B.bytes
  have hr := B.returns
  have hts := atoms_spec (ws := wO_begin) B.pre
  have hown : s.vm.findClass "WindingRaster$Outline" = some m.cls := findClass_of_methodNamed B.named
  have hlocks := B.notSynchronized
  subst hsz
  have hD := hD0.self (sz := s.heap.size)
  obtain ⟨A, hAe⟩ : ∃ A, va_A [(oo, .inr (1, [.ref ax, .ref ay, .ref an, .int (iI (np : Int)), .int (iI (l0 : Int))])), (ax, .inl (cA, 4096, .inl (iA fX))), (ay, .inl (cA, 4096, .inl (iA fY))), (an, .inl (cA, 4096, .inl (iA fN)))] s.heap.size = A := ⟨_, rfl⟩
  rw [hAe] at hD
  have hA : ∀ q : Nat, s.heap.size ≤ q → A q := fun q h => by rw [← hAe]; exact Or.inr h
  have hS : va_S A s.heap s.heap [] := va_S.rf
  have hP : va_P D vwCl [(oo, .inr (1, [.ref ax, .ref ay, .ref an, .int (iI (np : Int)), .int (iI (l0 : Int))])), (ax, .inl (cA, 4096, .inl (iA fX))), (ay, .inl (cA, 4096, .inl (iA fY))), (an, .inl (cA, 4096, .inl (iA fN)))] s.heap := hP
  have in_1 : ∀ w ∈ wsO, w ∈ wO_begin := fun w h => List.mem_cons_of_mem _ (in0_O w h)
  have fl_21 := (hts _ (List.mem_cons_of_mem _ vm_35))
  have fl_25 := (hts _ (List.mem_cons_of_mem _ vm_36))
  have hl := lv_entry ([.ref oo, .int (iI a1), .int (iI a2)]) (n := 3) (Nat.le_of_ble_eq_true rfl)
  rw [lg_entry_eq]
  generalize (lg_sl ([.ref oo, .int (iI a1), .int (iI a2)]) ++ List.replicate (3 - (lg_sl ([.ref oo, .int (iI a1), .int (iI a2)])).length) Slot.unset).toArray = ls at hl ⊢
  have hl : lv_has ls 3 [(0, .ref oo), (1, .int (iI a1)), (2, .int (iI a2))] := hl
  generalize hQ : MQ below (qV (S := Unit) (fun _ : Unit => True) D vwCl [(oo, .inr (1, [.ref ax, .ref ay, .ref an, .int (iI (np : Int)), .int (iI (l0 : Int))])), (ax, .inl (cA, 4096, .inl (iA fX))), (ay, .inl (cA, 4096, .inl (iA fY))), (an, .inl (cA, 4096, .inl (iA fN)))] s.heap.size (fun _ : Unit => [(oo, .inr (1, [.ref ax, .ref ay, .ref an, .int (iI ((np + 1 : Nat) : Int)), .int (iI (np : Int))])), (ax, .inl (cA, 4096, .inl (iA (uZ fX np a1)))), (ay, .inl (cA, 4096, .inl (iA (uZ fY np a2)))), (an, .inl (cA, 4096, .inl (iA (uZ fN np (np : Int)))))])) [.ref oo, .int (iI a1), .int (iI a2)].toArray s 0 0 (va_A [(oo, .inr (1, [.ref ax, .ref ay, .ref an, .int (iI (np : Int)), .int (iI (l0 : Int))])), (ax, .inl (cA, 4096, .inl (iA fX))), (ay, .inl (cA, 4096, .inl (iA fY))), (an, .inl (cA, 4096, .inl (iA fN)))] s.heap.size) = QQ
  refine lv_aload_n hx hb dO_begin_0 rfl (lv_at hl 0 rfl) ?_
  refine lv_aload_n hx hb dO_begin_1 rfl (lv_at hl 0 rfl) ?_
  refine va_get (ci := 1) (v := .int (iI (np : Int))) (C := "WindingRaster$Outline") (T := TO) (N := 5) hx hb hts in_1 hown hK hP 0 rfl rfl 3 (by decide) fl_21 (fun _ h9 => h9) rfl dO_begin_2 ?_
  refine va_put (ci := 1) (v := .int (iI (np : Int))) (ty := .int) (C := "WindingRaster$Outline") (T := TO) (N := 5) hx hb hts in_1 tO tO_ok nO hown hK hP hD hS 0 rfl rfl 4 (by decide) fl_25 (fun _ h9 => h9) rfl (by decide +kernel) rfl rfl (Nat.le_of_ble_eq_true rfl) dO_begin_5 (fun H locs hP hD hS => ?_)
  have hP : va_P D vwCl [(oo, .inr (1, [.ref ax, .ref ay, .ref an, .int (iI (np : Int)), .int (iI (np : Int))])), (ax, .inl (cA, 4096, .inl (iA fX))), (ay, .inl (cA, 4096, .inl (iA fY))), (an, .inl (cA, 4096, .inl (iA fN)))] H := hP
  have hD : va_D A [(oo, .inr (1, [.ref ax, .ref ay, .ref an, .int (iI (np : Int)), .int (iI (np : Int))])), (ax, .inl (cA, 4096, .inl (iA fX))), (ay, .inl (cA, 4096, .inl (iA fY))), (an, .inl (cA, 4096, .inl (iA fN)))] := hD
  refine lv_aload_n hx hb dO_begin_8 rfl (lv_at hl 0 rfl) ?_
  refine lv_iload_n hx hb dO_begin_9 rfl (lv_at hl 1 rfl) ?_
  refine lv_iload_n hx hb dO_begin_10 rfl (lv_at hl 2 rfl) ?_
  refine cw_v (wc := [(oo, .inr (1, [.ref ax, .ref ay, .ref an, .int (iI (np : Int)), .int (iI (np : Int))])), (ax, .inl (cA, 4096, .inl (iA fX))), (ay, .inl (cA, 4096, .inl (iA fY))), (an, .inl (cA, 4096, .inl (iA fN)))]) (wr := []) hP hD hS hA [0, 1, 2, 3] [] rfl rfl (by decide) (by decide) (va_runV (As := [.int (iI a1), .int (iI a2)]) (rest := []) ⟨hx, hb, hml, hown, hts⟩ (c_addPoint l D cA cB cS oo ax ay an fX fY fN np np a1 a2 (by omega) _) ⟨(callB_of 2 hts (gIn vm_106) rfl rfl rfl (hts _ (List.mem_cons_of_mem _ vm_4)) (hts _ (List.mem_cons_of_mem _ vm_104)) (by decide +kernel) ⟨Nat.le_of_ble_eq_true rfl, Nat.le_of_ble_eq_true rfl⟩), (hts _ (List.mem_cons_of_mem _ vm_105)), (hts _ (List.mem_cons_of_mem _ vm_398))⟩ (pW.preV (va_recv hK hP (ci := 1) (q0 := 0) rfl rfl) (hP.sub [0, 1, 2, 3] rfl) (hD.sub [0, 1, 2, 3] (by decide) rfl) hKW) rfl rfl hl.1 rfl (lv_room (Nat.le_of_ble_eq_true rfl)) dO_begin_11 ⟨Nat.le_of_ble_eq_true rfl, Nat.le_of_ble_eq_true rfl⟩) (fun u_2 H locs hz_1 hP hD hS => ?_)
  have hP : va_P D vwCl [(oo, .inr (1, [.ref ax, .ref ay, .ref an, .int (iI ((np + 1 : Nat) : Int)), .int (iI (np : Int))])), (ax, .inl (cA, 4096, .inl (iA (uZ fX np a1)))), (ay, .inl (cA, 4096, .inl (iA (uZ fY np a2)))), (an, .inl (cA, 4096, .inl (iA (uZ fN np (np : Int)))))] H := hP
  have hD : va_D A [(oo, .inr (1, [.ref ax, .ref ay, .ref an, .int (iI ((np + 1 : Nat) : Int)), .int (iI (np : Int))])), (ax, .inl (cA, 4096, .inl (iA (uZ fX np a1)))), (ay, .inl (cA, 4096, .inl (iA (uZ fY np a2)))), (an, .inl (cA, 4096, .inl (iA (uZ fN np (np : Int)))))] := hD
  rw [← hQ]
  exact wr_vret () hx hb hr hlocks hAe (hP.sub [0, 1, 2, 3] rfl) (hD.sub [0, 1, 2, 3] (by decide) rfl) hS trivial dO_begin_14

def rm_c_goOn : Room := { frames := 2, cells := 0, slots := 0, locals := 42 }
set_option maxHeartbeats 4000000 in
set_option maxRecDepth 100000 in
theorem c_goOn (l : Launch) (D : va_G) (cA cB cS : ClassId) (oo : Nat) (ax : Nat) (ay : Nat) (an : Nat) (fX : Nat → Int) (fY : Nat → Int) (fN : Nat → Int) (np : Nat) (l0 : Nat) (a1 : Int) (a2 : Int) (h1 : np < 4096) (h2 : 0 < np) (sz : Nat) : Met l yO_goOn wO_goOn rm_c_goOn (pW [.ref oo, .int (iI a1), .int (iI a2)] D vwCl (vwTy cA cB cS) vwNw [(oo, .inr (1, [.ref ax, .ref ay, .ref an, .int (iI (np : Int)), .int (iI (l0 : Int))])), (ax, .inl (cA, 4096, .inl (iA fX))), (ay, .inl (cA, 4096, .inl (iA fY))), (an, .inl (cA, 4096, .inl (iA fN)))] sz) (qV (S := Unit) (fun _ : Unit => True) D vwCl [(oo, .inr (1, [.ref ax, .ref ay, .ref an, .int (iI (np : Int)), .int (iI (l0 : Int))])), (ax, .inl (cA, 4096, .inl (iA fX))), (ay, .inl (cA, 4096, .inl (iA fY))), (an, .inl (cA, 4096, .inl (iA fN)))] sz (fun _ : Unit => [(oo, .inr (1, [.ref ax, .ref ay, .ref an, .int (iI ((np + 1 : Nat) : Int)), .int (iI (l0 : Int))])), (ax, .inl (cA, 4096, .inl (iA (uZ fX np a1)))), (ay, .inl (cA, 4096, .inl (iA (uZ fY np a2)))), (an, .inl (cA, 4096, .inl (iA (uZ (uZ fN (np - 1) (np : Int)) np (l0 : Int)))))])) 0 0 (va_A [(oo, .inr (1, [.ref ax, .ref ay, .ref an, .int (iI (np : Int)), .int (iI (l0 : Int))])), (ax, .inl (cA, 4096, .inl (iA fX))), (ay, .inl (cA, 4096, .inl (iA fY))), (an, .inl (cA, 4096, .inl (iA fN)))] sz) := by
  refine Met.ofW (cc := bO_goOn) (maxL := 3) (ret := none) (by decide +kernel) rfl ?_
  intro p e s m args below meth c s₁ B hml hv
  obtain ⟨rfl, hsz, hP, hKW, hD0⟩ := hv
  have hK := hKW.1
  have hN := hKW.2.2
  have hx := B.exec
  have hb := B.bytes
  have hr := B.returns
  have hts := atoms_spec (ws := wO_goOn) B.pre
  have hown : s.vm.findClass "WindingRaster$Outline" = some m.cls := findClass_of_methodNamed B.named
  have hlocks := B.notSynchronized
  subst hsz
  have hD := hD0.self (sz := s.heap.size)
  obtain ⟨A, hAe⟩ : ∃ A, va_A [(oo, .inr (1, [.ref ax, .ref ay, .ref an, .int (iI (np : Int)), .int (iI (l0 : Int))])), (ax, .inl (cA, 4096, .inl (iA fX))), (ay, .inl (cA, 4096, .inl (iA fY))), (an, .inl (cA, 4096, .inl (iA fN)))] s.heap.size = A := ⟨_, rfl⟩
  rw [hAe] at hD
  have hA : ∀ q : Nat, s.heap.size ≤ q → A q := fun q h => by rw [← hAe]; exact Or.inr h
  have hS : va_S A s.heap s.heap [] := va_S.rf
  have hP : va_P D vwCl [(oo, .inr (1, [.ref ax, .ref ay, .ref an, .int (iI (np : Int)), .int (iI (l0 : Int))])), (ax, .inl (cA, 4096, .inl (iA fX))), (ay, .inl (cA, 4096, .inl (iA fY))), (an, .inl (cA, 4096, .inl (iA fN)))] s.heap := hP
  have in_1 : ∀ w ∈ wsO, w ∈ wO_goOn := fun w h => List.mem_cons_of_mem _ (in0_O w h)
  have fl_18 := (hts _ (List.mem_cons_of_mem _ vm_34))
  have fl_21 := (hts _ (List.mem_cons_of_mem _ vm_35))
  have hl := lv_entry ([.ref oo, .int (iI a1), .int (iI a2)]) (n := 3) (Nat.le_of_ble_eq_true rfl)
  rw [lg_entry_eq]
  generalize (lg_sl ([.ref oo, .int (iI a1), .int (iI a2)]) ++ List.replicate (3 - (lg_sl ([.ref oo, .int (iI a1), .int (iI a2)])).length) Slot.unset).toArray = ls at hl ⊢
  have hl : lv_has ls 3 [(0, .ref oo), (1, .int (iI a1)), (2, .int (iI a2))] := hl
  generalize hQ : MQ below (qV (S := Unit) (fun _ : Unit => True) D vwCl [(oo, .inr (1, [.ref ax, .ref ay, .ref an, .int (iI (np : Int)), .int (iI (l0 : Int))])), (ax, .inl (cA, 4096, .inl (iA fX))), (ay, .inl (cA, 4096, .inl (iA fY))), (an, .inl (cA, 4096, .inl (iA fN)))] s.heap.size (fun _ : Unit => [(oo, .inr (1, [.ref ax, .ref ay, .ref an, .int (iI ((np + 1 : Nat) : Int)), .int (iI (l0 : Int))])), (ax, .inl (cA, 4096, .inl (iA (uZ fX np a1)))), (ay, .inl (cA, 4096, .inl (iA (uZ fY np a2)))), (an, .inl (cA, 4096, .inl (iA (uZ (uZ fN (np - 1) (np : Int)) np (l0 : Int)))))])) [.ref oo, .int (iI a1), .int (iI a2)].toArray s 0 0 (va_A [(oo, .inr (1, [.ref ax, .ref ay, .ref an, .int (iI (np : Int)), .int (iI (l0 : Int))])), (ax, .inl (cA, 4096, .inl (iA fX))), (ay, .inl (cA, 4096, .inl (iA fY))), (an, .inl (cA, 4096, .inl (iA fN)))] s.heap.size) = QQ
  refine lv_aload_n hx hb dO_goOn_0 rfl (lv_at hl 0 rfl) ?_
  refine cs_i (va_runV (As := []) (rest := []) ⟨hx, hb, hml, hown, hts⟩ (c_hasLine l D cA cB cS oo ax ay an fX fY fN np l0 (by omega)) ⟨(callB_of 0 hts (gIn vm_113) rfl rfl rfl (hts _ (List.mem_cons_of_mem _ vm_4)) (hts _ (List.mem_cons_of_mem _ vm_116)) (by decide +kernel) ⟨Nat.le_of_ble_eq_true rfl, Nat.le_of_ble_eq_true rfl⟩), (hts _ (List.mem_cons_of_mem _ vm_112)), (hts _ (List.mem_cons_of_mem _ vm_399))⟩ (pR.preV (va_recv hK hP (ci := 1) (q0 := 0) rfl rfl) (hP.sub [0, 1, 2, 3] rfl) hKW) rfl rfl hl.1 rfl (lv_room (Nat.le_of_ble_eq_true rfl)) dO_goOn_1 ⟨Nat.le_of_ble_eq_true rfl, Nat.le_of_ble_eq_true rfl⟩) (fun z_1 hz_1 => ?_)
  refine ii_if_eq (tgt := 35) hx hb dO_goOn_4 (by decide) (by omega) (fun c4 => ?_) (fun c4 => ?_)
  · exfalso; omega
  · refine lv_aload_n hx hb dO_goOn_7 rfl (lv_at hl 0 rfl) ?_
    refine cs_i (va_runV (As := []) (rest := []) ⟨hx, hb, hml, hown, hts⟩ (c_isFull l D cA cB cS oo ax ay an fX fY fN np l0 (by omega)) ⟨(callB_of 0 hts (gIn vm_101) rfl rfl rfl (hts _ (List.mem_cons_of_mem _ vm_4)) (hts _ (List.mem_cons_of_mem _ vm_107)) (by decide +kernel) ⟨Nat.le_of_ble_eq_true rfl, Nat.le_of_ble_eq_true rfl⟩), (hts _ (List.mem_cons_of_mem _ vm_100)), (hts _ (List.mem_cons_of_mem _ vm_396))⟩ (pR.preV (va_recv hK hP (ci := 1) (q0 := 0) rfl rfl) (hP.sub [0, 1, 2, 3] rfl) hKW) rfl rfl hl.1 rfl (lv_room (Nat.le_of_ble_eq_true rfl)) dO_goOn_8 ⟨Nat.le_of_ble_eq_true rfl, Nat.le_of_ble_eq_true rfl⟩) (fun z_2 hz_2 => ?_)
    refine ii_if_ne (tgt := 35) hx hb dO_goOn_11 (by decide) (by omega) (fun c11 => ?_) (fun c11 => ?_)
    · exfalso; omega
    · refine lv_aload_n hx hb dO_goOn_14 rfl (lv_at hl 0 rfl) ?_
      refine va_get (ci := 1) (v := .ref an) (C := "WindingRaster$Outline") (T := TO) (N := 5) hx hb hts in_1 hown hK hP 0 rfl rfl 2 (by decide) fl_18 (fun _ h9 => h9) rfl dO_goOn_15 ?_
      refine lv_aload_n hx hb dO_goOn_18 rfl (lv_at hl 0 rfl) ?_
      refine va_get (ci := 1) (v := .int (iI (np : Int))) (C := "WindingRaster$Outline") (T := TO) (N := 5) hx hb hts in_1 hown hK hP 0 rfl rfl 3 (by decide) fl_21 (fun _ h9 => h9) rfl dO_goOn_19 ?_
      refine ii_iconst (n := 1) hx hb dO_goOn_22 ?_
      refine ii_isub hx hb dO_goOn_23 ?_
      refine lv_aload_n hx hb dO_goOn_24 rfl (lv_at hl 0 rfl) ?_
      refine va_get (ci := 1) (v := .int (iI (np : Int))) (C := "WindingRaster$Outline") (T := TO) (N := 5) hx hb hts in_1 hown hK hP 0 rfl rfl 3 (by decide) fl_21 (fun _ h9 => h9) rfl dO_goOn_25 ?_
      refine ii_iast hx hb hK hP hD hS 3 0 rfl rfl (np - 1) (by omega) (by omega) (by omega) dO_goOn_28 (fun H locs hP hD hS => ?_)
      have hP : va_P D vwCl [(oo, .inr (1, [.ref ax, .ref ay, .ref an, .int (iI (np : Int)), .int (iI (l0 : Int))])), (ax, .inl (cA, 4096, .inl (iA fX))), (ay, .inl (cA, 4096, .inl (iA fY))), (an, .inl (cA, 4096, .inl (iA (uZ fN (np - 1) (np : Int)))))] H := hP
      have hD : va_D A [(oo, .inr (1, [.ref ax, .ref ay, .ref an, .int (iI (np : Int)), .int (iI (l0 : Int))])), (ax, .inl (cA, 4096, .inl (iA fX))), (ay, .inl (cA, 4096, .inl (iA fY))), (an, .inl (cA, 4096, .inl (iA (uZ fN (np - 1) (np : Int)))))] := hD
      refine lv_aload_n hx hb dO_goOn_29 rfl (lv_at hl 0 rfl) ?_
      refine lv_iload_n hx hb dO_goOn_30 rfl (lv_at hl 1 rfl) ?_
      refine lv_iload_n hx hb dO_goOn_31 rfl (lv_at hl 2 rfl) ?_
      refine cw_v (wc := [(oo, .inr (1, [.ref ax, .ref ay, .ref an, .int (iI (np : Int)), .int (iI (l0 : Int))])), (ax, .inl (cA, 4096, .inl (iA fX))), (ay, .inl (cA, 4096, .inl (iA fY))), (an, .inl (cA, 4096, .inl (iA (uZ fN (np - 1) (np : Int)))))]) (wr := []) hP hD hS hA [0, 1, 2, 3] [] rfl rfl (by decide) (by decide) (va_runV (As := [.int (iI a1), .int (iI a2)]) (rest := []) ⟨hx, hb, hml, hown, hts⟩ (c_addPoint l D cA cB cS oo ax ay an fX fY (uZ fN (np - 1) (np : Int)) np l0 a1 a2 (by omega) _) ⟨(callB_of 2 hts (gIn vm_106) rfl rfl rfl (hts _ (List.mem_cons_of_mem _ vm_4)) (hts _ (List.mem_cons_of_mem _ vm_104)) (by decide +kernel) ⟨Nat.le_of_ble_eq_true rfl, Nat.le_of_ble_eq_true rfl⟩), (hts _ (List.mem_cons_of_mem _ vm_105)), (hts _ (List.mem_cons_of_mem _ vm_398))⟩ (pW.preV (va_recv hK hP (ci := 1) (q0 := 0) rfl rfl) (hP.sub [0, 1, 2, 3] rfl) (hD.sub [0, 1, 2, 3] (by decide) rfl) hKW) rfl rfl hl.1 rfl (lv_room (Nat.le_of_ble_eq_true rfl)) dO_goOn_32 ⟨Nat.le_of_ble_eq_true rfl, Nat.le_of_ble_eq_true rfl⟩) (fun u_4 H locs hz_3 hP hD hS => ?_)
      have hP : va_P D vwCl [(oo, .inr (1, [.ref ax, .ref ay, .ref an, .int (iI ((np + 1 : Nat) : Int)), .int (iI (l0 : Int))])), (ax, .inl (cA, 4096, .inl (iA (uZ fX np a1)))), (ay, .inl (cA, 4096, .inl (iA (uZ fY np a2)))), (an, .inl (cA, 4096, .inl (iA (uZ (uZ fN (np - 1) (np : Int)) np (l0 : Int)))))] H := hP
      have hD : va_D A [(oo, .inr (1, [.ref ax, .ref ay, .ref an, .int (iI ((np + 1 : Nat) : Int)), .int (iI (l0 : Int))])), (ax, .inl (cA, 4096, .inl (iA (uZ fX np a1)))), (ay, .inl (cA, 4096, .inl (iA (uZ fY np a2)))), (an, .inl (cA, 4096, .inl (iA (uZ (uZ fN (np - 1) (np : Int)) np (l0 : Int)))))] := hD
      rw [← hQ]
      exact wr_vret () hx hb hr hlocks hAe (hP.sub [0, 1, 2, 3] rfl) (hD.sub [0, 1, 2, 3] (by decide) rfl) hS trivial dO_goOn_35

def rm_c_forget : Room := { frames := 0, cells := 0, slots := 0, locals := 0 }
set_option maxHeartbeats 4000000 in
set_option maxRecDepth 100000 in
theorem c_forget (l : Launch) (D : va_G) (cA cB cS : ClassId) (oo : Nat) (ax : Nat) (ay : Nat) (an : Nat) (fX : Nat → Int) (fY : Nat → Int) (fN : Nat → Int) (np : Nat) (l0 : Nat) (sz : Nat) : Met l yO_forget wO_forget rm_c_forget (pW [.ref oo] D vwCl (vwTy cA cB cS) vwNw [(oo, .inr (1, [.ref ax, .ref ay, .ref an, .int (iI (np : Int)), .int (iI (l0 : Int))])), (ax, .inl (cA, 4096, .inl (iA fX))), (ay, .inl (cA, 4096, .inl (iA fY))), (an, .inl (cA, 4096, .inl (iA fN)))] sz) (qV (S := Unit) (fun _ : Unit => True) D vwCl [(oo, .inr (1, [.ref ax, .ref ay, .ref an, .int (iI (np : Int)), .int (iI (l0 : Int))])), (ax, .inl (cA, 4096, .inl (iA fX))), (ay, .inl (cA, 4096, .inl (iA fY))), (an, .inl (cA, 4096, .inl (iA fN)))] sz (fun _ : Unit => [(oo, .inr (1, [.ref ax, .ref ay, .ref an, .int (iI 0), .int (iI 0)])), (ax, .inl (cA, 4096, .inl (iA fX))), (ay, .inl (cA, 4096, .inl (iA fY))), (an, .inl (cA, 4096, .inl (iA fN)))])) 0 0 (va_A [(oo, .inr (1, [.ref ax, .ref ay, .ref an, .int (iI (np : Int)), .int (iI (l0 : Int))])), (ax, .inl (cA, 4096, .inl (iA fX))), (ay, .inl (cA, 4096, .inl (iA fY))), (an, .inl (cA, 4096, .inl (iA fN)))] sz) := by
  refine Met.ofW (cc := bO_forget) (maxL := 1) (ret := none) (by decide +kernel) rfl ?_
  intro p e s m args below meth c s₁ B hml hv
  obtain ⟨rfl, hsz, hP, hKW, hD0⟩ := hv
  have hK := hKW.1
  have hN := hKW.2.2
  have hx := B.exec
  have hb := B.bytes
  have hr := B.returns
  have hts := atoms_spec (ws := wO_forget) B.pre
  have hown : s.vm.findClass "WindingRaster$Outline" = some m.cls := findClass_of_methodNamed B.named
  have hlocks := B.notSynchronized
  subst hsz
  have hD := hD0.self (sz := s.heap.size)
  obtain ⟨A, hAe⟩ : ∃ A, va_A [(oo, .inr (1, [.ref ax, .ref ay, .ref an, .int (iI (np : Int)), .int (iI (l0 : Int))])), (ax, .inl (cA, 4096, .inl (iA fX))), (ay, .inl (cA, 4096, .inl (iA fY))), (an, .inl (cA, 4096, .inl (iA fN)))] s.heap.size = A := ⟨_, rfl⟩
  rw [hAe] at hD
  have hA : ∀ q : Nat, s.heap.size ≤ q → A q := fun q h => by rw [← hAe]; exact Or.inr h
  have hS : va_S A s.heap s.heap [] := va_S.rf
  have hP : va_P D vwCl [(oo, .inr (1, [.ref ax, .ref ay, .ref an, .int (iI (np : Int)), .int (iI (l0 : Int))])), (ax, .inl (cA, 4096, .inl (iA fX))), (ay, .inl (cA, 4096, .inl (iA fY))), (an, .inl (cA, 4096, .inl (iA fN)))] s.heap := hP
  have in_1 : ∀ w ∈ wsO, w ∈ wO_forget := fun w h => List.mem_cons_of_mem _ (in0_O w h)
  have fl_21 := (hts _ (List.mem_cons_of_mem _ vm_35))
  have fl_25 := (hts _ (List.mem_cons_of_mem _ vm_36))
  have hl := lv_entry ([.ref oo]) (n := 1) (Nat.le_of_ble_eq_true rfl)
  rw [lg_entry_eq]
  generalize (lg_sl ([.ref oo]) ++ List.replicate (1 - (lg_sl ([.ref oo])).length) Slot.unset).toArray = ls at hl ⊢
  have hl : lv_has ls 1 [(0, .ref oo)] := hl
  generalize hQ : MQ below (qV (S := Unit) (fun _ : Unit => True) D vwCl [(oo, .inr (1, [.ref ax, .ref ay, .ref an, .int (iI (np : Int)), .int (iI (l0 : Int))])), (ax, .inl (cA, 4096, .inl (iA fX))), (ay, .inl (cA, 4096, .inl (iA fY))), (an, .inl (cA, 4096, .inl (iA fN)))] s.heap.size (fun _ : Unit => [(oo, .inr (1, [.ref ax, .ref ay, .ref an, .int (iI 0), .int (iI 0)])), (ax, .inl (cA, 4096, .inl (iA fX))), (ay, .inl (cA, 4096, .inl (iA fY))), (an, .inl (cA, 4096, .inl (iA fN)))])) [.ref oo].toArray s 0 0 (va_A [(oo, .inr (1, [.ref ax, .ref ay, .ref an, .int (iI (np : Int)), .int (iI (l0 : Int))])), (ax, .inl (cA, 4096, .inl (iA fX))), (ay, .inl (cA, 4096, .inl (iA fY))), (an, .inl (cA, 4096, .inl (iA fN)))] s.heap.size) = QQ
  refine lv_aload_n hx hb dO_forget_0 rfl (lv_at hl 0 rfl) ?_
  refine ii_iconst (n := 0) hx hb dO_forget_1 ?_
  refine va_put (ci := 1) (v := .int (iI 0)) (ty := .int) (C := "WindingRaster$Outline") (T := TO) (N := 5) hx hb hts in_1 tO tO_ok nO hown hK hP hD hS 0 rfl rfl 3 (by decide) fl_21 (fun _ h9 => h9) rfl (by decide +kernel) rfl rfl (Nat.le_of_ble_eq_true rfl) dO_forget_2 (fun H locs hP hD hS => ?_)
  have hP : va_P D vwCl [(oo, .inr (1, [.ref ax, .ref ay, .ref an, .int (iI 0), .int (iI (l0 : Int))])), (ax, .inl (cA, 4096, .inl (iA fX))), (ay, .inl (cA, 4096, .inl (iA fY))), (an, .inl (cA, 4096, .inl (iA fN)))] H := hP
  have hD : va_D A [(oo, .inr (1, [.ref ax, .ref ay, .ref an, .int (iI 0), .int (iI (l0 : Int))])), (ax, .inl (cA, 4096, .inl (iA fX))), (ay, .inl (cA, 4096, .inl (iA fY))), (an, .inl (cA, 4096, .inl (iA fN)))] := hD
  refine lv_aload_n hx hb dO_forget_5 rfl (lv_at hl 0 rfl) ?_
  refine ii_iconst (n := 0) hx hb dO_forget_6 ?_
  refine va_put (ci := 1) (v := .int (iI 0)) (ty := .int) (C := "WindingRaster$Outline") (T := TO) (N := 5) hx hb hts in_1 tO tO_ok nO hown hK hP hD hS 0 rfl rfl 4 (by decide) fl_25 (fun _ h9 => h9) rfl (by decide +kernel) rfl rfl (Nat.le_of_ble_eq_true rfl) dO_forget_7 (fun H locs hP hD hS => ?_)
  have hP : va_P D vwCl [(oo, .inr (1, [.ref ax, .ref ay, .ref an, .int (iI 0), .int (iI 0)])), (ax, .inl (cA, 4096, .inl (iA fX))), (ay, .inl (cA, 4096, .inl (iA fY))), (an, .inl (cA, 4096, .inl (iA fN)))] H := hP
  have hD : va_D A [(oo, .inr (1, [.ref ax, .ref ay, .ref an, .int (iI 0), .int (iI 0)])), (ax, .inl (cA, 4096, .inl (iA fX))), (ay, .inl (cA, 4096, .inl (iA fY))), (an, .inl (cA, 4096, .inl (iA fN)))] := hD
  rw [← hQ]
  exact wr_vret () hx hb hr hlocks hAe (hP.sub [0, 1, 2, 3] rfl) (hD.sub [0, 1, 2, 3] (by decide) rfl) hS trivial dO_forget_10

def rm_c_centreOf : Room := { frames := 0, cells := 0, slots := 0, locals := 0 }
set_option maxHeartbeats 4000000 in
set_option maxRecDepth 100000 in
theorem c_centreOf (l : Launch) (D : va_G) (cA cB cS : ClassId) (kr : Nat) : Met l yO_centreOf wO_centreOf rm_c_centreOf (pR [.int (iI (kr : Int))] D vwCl (vwTy cA cB cS) vwNw []) (qI (fun z => z = ((kr * 65536 + 32768 : Nat) : Int))) 0 0 (fun _ => False) := by
  refine Met.ofW (cc := bO_centreOf) (maxL := 1) (ret := (some .int)) (by decide +kernel) rfl ?_
  intro p e s m args below meth c s₁ B hml hv
  obtain ⟨rfl, hP, hKW⟩ := hv
  have hK := hKW.1
  have hN := hKW.2.2
  have hx := B.exec
  have hb := B.bytes
  have hr := B.returns
  have hts := atoms_spec (ws := wO_centreOf) B.pre
  have hown : s.vm.findClass "WindingRaster$Outline" = some m.cls := findClass_of_methodNamed B.named
  have hlocks := B.notSynchronized
  have hP : va_P D vwCl [] s.heap := hP
  have kc_61 := (hts _ (List.mem_cons_of_mem _ vm_135))
  have hl := lv_entry ([.int (iI (kr : Int))]) (n := 1) (Nat.le_of_ble_eq_true rfl)
  rw [lg_entry_eq]
  generalize (lg_sl ([.int (iI (kr : Int))]) ++ List.replicate (1 - (lg_sl ([.int (iI (kr : Int))])).length) Slot.unset).toArray = ls at hl ⊢
  have hl : lv_has ls 1 [(0, .int (iI (kr : Int)))] := hl
  generalize hQ : MQ below (qI (fun z => z = ((kr * 65536 + 32768 : Nat) : Int))) [.int (iI (kr : Int))].toArray s 0 0 (fun _ => False) = QQ
  refine lv_iload_n hx hb dO_centreOf_0 rfl (lv_at hl 0 rfl) ?_
  refine ii_bipush (n := 16) hx hb dO_centreOf_1 (by decide +kernel) ?_
  refine ii_ishl (z := (kr : Int) * 65536) hx hb dO_centreOf_3 (iI_shl16 _) ?_
  refine ii_ldc (n := 32768) hx hb hown kc_61 dO_centreOf_4 (by decide +kernel) ?_
  refine ii_iadd hx hb dO_centreOf_6 ?_
  rw [← hQ]
  exact rd_iret hx hb hr hlocks (by omega) dO_centreOf_7

def rm_c_hasEdge : Room := { frames := 0, cells := 0, slots := 0, locals := 0 }
set_option maxHeartbeats 4000000 in
set_option maxRecDepth 100000 in
theorem c_hasEdge (l : Launch) (D : va_G) (cA cB cS : ClassId) (oo : Nat) (ax : Nat) (ay : Nat) (an : Nat) (fX : Nat → Int) (fY : Nat → Int) (fN : Nat → Int) (np : Nat) (l0 : Nat) (pi : Nat) (nj : Nat) (h1 : pi < np) (h2 : nj < np) (h3 : fN pi = (nj : Int)) (h4 : np ≤ 4096) : Met l yO_hasEdge wO_hasEdge rm_c_hasEdge (pR [.ref oo, .int (iI (pi : Int))] D vwCl (vwTy cA cB cS) vwNw [(oo, .inr (1, [.ref ax, .ref ay, .ref an, .int (iI (np : Int)), .int (iI (l0 : Int))])), (ax, .inl (cA, 4096, .inl (iA fX))), (ay, .inl (cA, 4096, .inl (iA fY))), (an, .inl (cA, 4096, .inl (iA fN)))]) (qI (fun z => z = 1)) 0 0 (fun _ => False) := by
  refine Met.ofW (cc := bO_hasEdge) (maxL := 2) (ret := (some .boolean)) (by decide +kernel) rfl ?_
  intro p e s m args below meth c s₁ B hml hv
  obtain ⟨rfl, hP, hKW⟩ := hv
  have hK := hKW.1
  have hN := hKW.2.2
  have hx := B.exec
  have hb := B.bytes
  have hr := B.returns
  have hts := atoms_spec (ws := wO_hasEdge) B.pre
  have hown : s.vm.findClass "WindingRaster$Outline" = some m.cls := findClass_of_methodNamed B.named
  have hlocks := B.notSynchronized
  have hP : va_P D vwCl [(oo, .inr (1, [.ref ax, .ref ay, .ref an, .int (iI (np : Int)), .int (iI (l0 : Int))])), (ax, .inl (cA, 4096, .inl (iA fX))), (ay, .inl (cA, 4096, .inl (iA fY))), (an, .inl (cA, 4096, .inl (iA fN)))] s.heap := hP
  have in_1 : ∀ w ∈ wsO, w ∈ wO_hasEdge := fun w h => List.mem_cons_of_mem _ (in0_O w h)
  have fl_21 := (hts _ (List.mem_cons_of_mem _ vm_35))
  have fl_18 := (hts _ (List.mem_cons_of_mem _ vm_34))
  have hl := lv_entry ([.ref oo, .int (iI (pi : Int))]) (n := 2) (Nat.le_of_ble_eq_true rfl)
  rw [lg_entry_eq]
  generalize (lg_sl ([.ref oo, .int (iI (pi : Int))]) ++ List.replicate (2 - (lg_sl ([.ref oo, .int (iI (pi : Int))])).length) Slot.unset).toArray = ls at hl ⊢
  have hl : lv_has ls 2 [(0, .ref oo), (1, .int (iI (pi : Int)))] := hl
  generalize hQ : MQ below (qI (fun z => z = 1)) [.ref oo, .int (iI (pi : Int))].toArray s 0 0 (fun _ => False) = QQ
  refine lv_iload_n hx hb dO_hasEdge_0 rfl (lv_at hl 1 rfl) ?_
  refine ii_if_lt (tgt := 48) hx hb dO_hasEdge_1 (by decide) (by omega) (fun c1 => ?_) (fun c1 => ?_)
  · exfalso; omega
  · refine lv_iload_n hx hb dO_hasEdge_4 rfl (lv_at hl 1 rfl) ?_
    refine lv_aload_n hx hb dO_hasEdge_5 rfl (lv_at hl 0 rfl) ?_
    refine va_get (ci := 1) (v := .int (iI (np : Int))) (C := "WindingRaster$Outline") (T := TO) (N := 5) hx hb hts in_1 hown hK hP 0 rfl rfl 3 (by decide) fl_21 (fun _ h9 => h9) rfl dO_hasEdge_6 ?_
    refine ii_icmp_ge (tgt := 48) hx hb dO_hasEdge_9 (by decide) (by omega) (by omega) (fun c9 => ?_) (fun c9 => ?_)
    · exfalso; omega
    · refine lv_aload_n hx hb dO_hasEdge_12 rfl (lv_at hl 0 rfl) ?_
      refine va_get (ci := 1) (v := .int (iI (np : Int))) (C := "WindingRaster$Outline") (T := TO) (N := 5) hx hb hts in_1 hown hK hP 0 rfl rfl 3 (by decide) fl_21 (fun _ h9 => h9) rfl dO_hasEdge_13 ?_
      refine ii_sipush (n := 4096) hx hb dO_hasEdge_16 (by decide +kernel) ?_
      refine ii_icmp_gt (tgt := 48) hx hb dO_hasEdge_19 (by decide) (by omega) (by omega) (fun c19 => ?_) (fun c19 => ?_)
      · exfalso; omega
      · refine lv_aload_n hx hb dO_hasEdge_22 rfl (lv_at hl 0 rfl) ?_
        refine va_get (ci := 1) (v := .ref an) (C := "WindingRaster$Outline") (T := TO) (N := 5) hx hb hts in_1 hown hK hP 0 rfl rfl 2 (by decide) fl_18 (fun _ h9 => h9) rfl dO_hasEdge_23 ?_
        refine lv_iload_n hx hb dO_hasEdge_26 rfl (lv_at hl 1 rfl) ?_
        refine ii_iald hx hb hK hP 3 0 rfl rfl pi rfl (by omega) (by omega) dO_hasEdge_27 ?_
        refine ii_top (y := (nj : Int)) h3 ?_
        refine ii_if_lt (tgt := 48) hx hb dO_hasEdge_28 (by decide) (by omega) (fun c28 => ?_) (fun c28 => ?_)
        · exfalso; omega
        · refine lv_aload_n hx hb dO_hasEdge_31 rfl (lv_at hl 0 rfl) ?_
          refine va_get (ci := 1) (v := .ref an) (C := "WindingRaster$Outline") (T := TO) (N := 5) hx hb hts in_1 hown hK hP 0 rfl rfl 2 (by decide) fl_18 (fun _ h9 => h9) rfl dO_hasEdge_32 ?_
          refine lv_iload_n hx hb dO_hasEdge_35 rfl (lv_at hl 1 rfl) ?_
          refine ii_iald hx hb hK hP 3 0 rfl rfl pi rfl (by omega) (by omega) dO_hasEdge_36 ?_
          refine ii_top (y := (nj : Int)) h3 ?_
          refine lv_aload_n hx hb dO_hasEdge_37 rfl (lv_at hl 0 rfl) ?_
          refine va_get (ci := 1) (v := .int (iI (np : Int))) (C := "WindingRaster$Outline") (T := TO) (N := 5) hx hb hts in_1 hown hK hP 0 rfl rfl 3 (by decide) fl_21 (fun _ h9 => h9) rfl dO_hasEdge_38 ?_
          refine ii_icmp_ge (tgt := 48) hx hb dO_hasEdge_41 (by decide) (by omega) (by omega) (fun c41 => ?_) (fun c41 => ?_)
          · exfalso; omega
          · refine ii_iconst (n := 1) hx hb dO_hasEdge_44 ?_
            refine lv_goto (tgt := 49) hx hb dO_hasEdge_45 (by decide) ?_
            rw [← hQ]
            exact rd_zret hx hb hr hlocks (nar_b (by omega)) rfl dO_hasEdge_49

def rm_c_stepAt : Room := { frames := 1, cells := 0, slots := 0, locals := 21 }
set_option maxHeartbeats 4000000 in
set_option maxRecDepth 100000 in
theorem c_stepAt (l : Launch) (D : va_G) (cA cB cS : ClassId) (oo : Nat) (ax : Nat) (ay : Nat) (an : Nat) (fX : Nat → Int) (fY : Nat → Int) (fN : Nat → Int) (np : Nat) (l0 : Nat) (pi : Nat) (yy : Int) (nj : Nat) (h1 : pi < np) (h2 : nj < np) (h3 : fN pi = (nj : Int)) (h4 : i32 (fY pi)) (h5 : i32 (fY nj)) (h6 : i32 yy) (h7 : np ≤ 4096) : Met l yO_stepAt wO_stepAt rm_c_stepAt (pR [.ref oo, .int (iI (pi : Int)), .int (iI yy)] D vwCl (vwTy cA cB cS) vwNw [(oo, .inr (1, [.ref ax, .ref ay, .ref an, .int (iI (np : Int)), .int (iI (l0 : Int))])), (ax, .inl (cA, 4096, .inl (iA fX))), (ay, .inl (cA, 4096, .inl (iA fY))), (an, .inl (cA, 4096, .inl (iA fN)))]) (qI (fun z => z = stZ (fY pi) (fY nj) yy)) 0 0 (fun _ => False) := by
  refine Met.ofW (cc := bO_stepAt) (maxL := 5) (ret := (some .int)) (by decide +kernel) rfl ?_
  intro p e s m args below meth c s₁ B hml hv
  obtain ⟨rfl, hP, hKW⟩ := hv
  have hK := hKW.1
  have hN := hKW.2.2
  have hx := B.exec
  have hb := B.bytes
  have hr := B.returns
  have hts := atoms_spec (ws := wO_stepAt) B.pre
  have hown : s.vm.findClass "WindingRaster$Outline" = some m.cls := findClass_of_methodNamed B.named
  have hlocks := B.notSynchronized
  have hP : va_P D vwCl [(oo, .inr (1, [.ref ax, .ref ay, .ref an, .int (iI (np : Int)), .int (iI (l0 : Int))])), (ax, .inl (cA, 4096, .inl (iA fX))), (ay, .inl (cA, 4096, .inl (iA fY))), (an, .inl (cA, 4096, .inl (iA fN)))] s.heap := hP
  have in_1 : ∀ w ∈ wsO, w ∈ wO_stepAt := fun w h => List.mem_cons_of_mem _ (in0_O w h)
  have fl_15 := (hts _ (List.mem_cons_of_mem _ vm_33))
  have fl_18 := (hts _ (List.mem_cons_of_mem _ vm_34))
  have hl := lv_entry ([.ref oo, .int (iI (pi : Int)), .int (iI yy)]) (n := 5) (Nat.le_of_ble_eq_true rfl)
  rw [lg_entry_eq]
  generalize (lg_sl ([.ref oo, .int (iI (pi : Int)), .int (iI yy)]) ++ List.replicate (5 - (lg_sl ([.ref oo, .int (iI (pi : Int)), .int (iI yy)])).length) Slot.unset).toArray = ls at hl ⊢
  have hl : lv_has ls 5 [(0, .ref oo), (1, .int (iI (pi : Int))), (2, .int (iI yy))] := hl
  generalize hQ : MQ below (qI (fun z => z = stZ (fY pi) (fY nj) yy)) [.ref oo, .int (iI (pi : Int)), .int (iI yy)].toArray s 0 0 (fun _ => False) = QQ
  refine lv_aload_n hx hb dO_stepAt_0 rfl (lv_at hl 0 rfl) ?_
  refine lv_iload_n hx hb dO_stepAt_1 rfl (lv_at hl 1 rfl) ?_
  refine cs_i (va_runV (As := [.int (iI (pi : Int))]) (rest := []) ⟨hx, hb, hml, hown, hts⟩ (c_hasEdge l D cA cB cS oo ax ay an fX fY fN np l0 pi nj (by omega) (by omega) h3 (by omega)) ⟨(callB_of 1 hts (gIn vm_141) rfl rfl rfl (hts _ (List.mem_cons_of_mem _ vm_4)) (hts _ (List.mem_cons_of_mem _ vm_139)) (by decide +kernel) ⟨Nat.le_of_ble_eq_true rfl, Nat.le_of_ble_eq_true rfl⟩), (hts _ (List.mem_cons_of_mem _ vm_140)), (hts _ (List.mem_cons_of_mem _ vm_405))⟩ (pR.preV (va_recv hK hP (ci := 1) (q0 := 0) rfl rfl) (hP.sub [0, 1, 2, 3] rfl) hKW) rfl rfl hl.1 rfl (lv_room (Nat.le_of_ble_eq_true rfl)) dO_stepAt_2 ⟨Nat.le_of_ble_eq_true rfl, Nat.le_of_ble_eq_true rfl⟩) (fun z_1 hz_1 => ?_)
  subst hz_1
  refine ii_if_ne (tgt := 10) hx hb dO_stepAt_5 (by decide) (by omega) (fun c5 => ?_) (fun c5 => ?_)
  · refine lv_aload_n hx hb dO_stepAt_10 rfl (lv_at hl 0 rfl) ?_
    refine va_get (ci := 1) (v := .ref ay) (C := "WindingRaster$Outline") (T := TO) (N := 5) hx hb hts in_1 hown hK hP 0 rfl rfl 1 (by decide) fl_15 (fun _ h9 => h9) rfl dO_stepAt_11 ?_
    refine lv_iload_n hx hb dO_stepAt_14 rfl (lv_at hl 1 rfl) ?_
    refine ii_iald hx hb hK hP 2 0 rfl rfl pi rfl (by omega) (by omega) dO_stepAt_15 ?_
    refine lv_istore_n (lv' := [(3, .int (iI (fY pi))), (0, .ref oo), (1, .int (iI (pi : Int))), (2, .int (iI yy))]) hx hb dO_stepAt_16 rfl hl (by decide) rfl (fun ls hl => ?_)
    refine lv_aload_n hx hb dO_stepAt_17 rfl (lv_at hl 1 rfl) ?_
    refine va_get (ci := 1) (v := .ref ay) (C := "WindingRaster$Outline") (T := TO) (N := 5) hx hb hts in_1 hown hK hP 0 rfl rfl 1 (by decide) fl_15 (fun _ h9 => h9) rfl dO_stepAt_18 ?_
    refine lv_aload_n hx hb dO_stepAt_21 rfl (lv_at hl 1 rfl) ?_
    refine va_get (ci := 1) (v := .ref an) (C := "WindingRaster$Outline") (T := TO) (N := 5) hx hb hts in_1 hown hK hP 0 rfl rfl 2 (by decide) fl_18 (fun _ h9 => h9) rfl dO_stepAt_22 ?_
    refine lv_iload_n hx hb dO_stepAt_25 rfl (lv_at hl 2 rfl) ?_
    refine ii_iald hx hb hK hP 3 0 rfl rfl pi rfl (by omega) (by omega) dO_stepAt_26 ?_
    refine ii_top (y := (nj : Int)) h3 ?_
    refine ii_iald hx hb hK hP 2 0 rfl rfl nj rfl (by omega) (by omega) dO_stepAt_27 ?_
    refine lv_istore (lv' := [(4, .int (iI (fY nj))), (3, .int (iI (fY pi))), (0, .ref oo), (1, .int (iI (pi : Int))), (2, .int (iI yy))]) hx hb dO_stepAt_28 hl (by decide) rfl (fun ls hl => ?_)
    refine lv_iload_n hx hb dO_stepAt_30 rfl (lv_at hl 1 rfl) ?_
    refine lv_iload_n hx hb dO_stepAt_31 rfl (lv_at hl 4 rfl) ?_
    refine ii_icmp_gt (tgt := 43) hx hb dO_stepAt_32 (by decide) (by omega) (by omega) (fun c32 => ?_) (fun c32 => ?_)
    · refine lv_iload hx hb dO_stepAt_43 (lv_at hl 0 rfl) ?_
      refine lv_iload_n hx hb dO_stepAt_45 rfl (lv_at hl 4 rfl) ?_
      refine ii_icmp_gt (tgt := 58) hx hb dO_stepAt_46 (by decide) (by omega) (by omega) (fun c46 => ?_) (fun c46 => ?_)
      · refine ii_iconst (n := 0) hx hb dO_stepAt_58 ?_
        rw [← hQ]
        exact rd_iret hx hb hr hlocks (by have h9 := stZ_cases (fY pi) (fY nj) yy; omega) dO_stepAt_59
      · refine lv_iload_n hx hb dO_stepAt_49 rfl (lv_at hl 4 rfl) ?_
        refine lv_iload_n hx hb dO_stepAt_50 rfl (lv_at hl 1 rfl) ?_
        refine ii_icmp_ge (tgt := 58) hx hb dO_stepAt_51 (by decide) (by omega) (by omega) (fun c51 => ?_) (fun c51 => ?_)
        · refine ii_iconst (n := 0) hx hb dO_stepAt_58 ?_
          rw [← hQ]
          exact rd_iret hx hb hr hlocks (by have h9 := stZ_cases (fY pi) (fY nj) yy; omega) dO_stepAt_59
        · refine ii_iconst (n := (-1)) hx hb dO_stepAt_54 ?_
          refine lv_goto (tgt := 59) hx hb dO_stepAt_55 (by decide) ?_
          rw [← hQ]
          exact rd_iret hx hb hr hlocks (by have h9 := stZ_cases (fY pi) (fY nj) yy; omega) dO_stepAt_59
    · refine lv_iload_n hx hb dO_stepAt_35 rfl (lv_at hl 4 rfl) ?_
      refine lv_iload hx hb dO_stepAt_36 (lv_at hl 0 rfl) ?_
      refine ii_icmp_ge (tgt := 43) hx hb dO_stepAt_38 (by decide) (by omega) (by omega) (fun c38 => ?_) (fun c38 => ?_)
      · refine lv_iload hx hb dO_stepAt_43 (lv_at hl 0 rfl) ?_
        refine lv_iload_n hx hb dO_stepAt_45 rfl (lv_at hl 4 rfl) ?_
        refine ii_icmp_gt (tgt := 58) hx hb dO_stepAt_46 (by decide) (by omega) (by omega) (fun c46 => ?_) (fun c46 => ?_)
        · refine ii_iconst (n := 0) hx hb dO_stepAt_58 ?_
          rw [← hQ]
          exact rd_iret hx hb hr hlocks (by have h9 := stZ_cases (fY pi) (fY nj) yy; omega) dO_stepAt_59
        · refine lv_iload_n hx hb dO_stepAt_49 rfl (lv_at hl 4 rfl) ?_
          refine lv_iload_n hx hb dO_stepAt_50 rfl (lv_at hl 1 rfl) ?_
          refine ii_icmp_ge (tgt := 58) hx hb dO_stepAt_51 (by decide) (by omega) (by omega) (fun c51 => ?_) (fun c51 => ?_)
          · refine ii_iconst (n := 0) hx hb dO_stepAt_58 ?_
            rw [← hQ]
            exact rd_iret hx hb hr hlocks (by have h9 := stZ_cases (fY pi) (fY nj) yy; omega) dO_stepAt_59
          · refine ii_iconst (n := (-1)) hx hb dO_stepAt_54 ?_
            refine lv_goto (tgt := 59) hx hb dO_stepAt_55 (by decide) ?_
            rw [← hQ]
            exact rd_iret hx hb hr hlocks (by have h9 := stZ_cases (fY pi) (fY nj) yy; omega) dO_stepAt_59
      · refine ii_iconst (n := 1) hx hb dO_stepAt_41 ?_
        rw [← hQ]
        exact rd_iret hx hb hr hlocks (by have h9 := stZ_cases (fY pi) (fY nj) yy; omega) dO_stepAt_42
  · exfalso; omega
