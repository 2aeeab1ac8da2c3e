def rm_c_RunList_init : Room := { frames := 1, cells := 1, slots := 32768, locals := 21 }
set_option maxHeartbeats 4000000 in
set_option maxRecDepth 100000 in
theorem c_RunList_init (l : Launch) (D : va_G) (cA cB cS : ClassId) (pl : Nat) (rm0 : Nat) (h1 : rm0 ≤ 32768) (sz : Nat) : Met l yL_init wL_init rm_c_RunList_init (pW [.ref pl, .int (iI (rm0 : Int))] D vwCl (vwTy cA cB cS) vwNw [(pl, .inr (3, [.null, .int (iI 0)]))] sz) (qV (S := Nat) (fun ap : Nat => True) D vwCl [(pl, .inr (3, [.null, .int (iI 0)]))] sz (fun ap : Nat => [(pl, .inr (3, [.ref ap, .int (iI 0)])), (ap, .inl (cA, rm0, .inl (iA (fun _ => 0))))])) 1 32768 (va_A [(pl, .inr (3, [.null, .int (iI 0)]))] sz) := by
  refine Met.ofW (cc := bL_init) (maxL := 2) (ret := none) (by decide +kernel) rfl ?_
  intro p e s m args below meth c s₁ B hml hv
  obtain ⟨rfl, hsz, hP, hKW, hD0⟩ := hv
  have hK := hKW.1
  have hN := hKW.2.2
  have hx := B.exec
  have hb := B.bytes
  have hr := B.returns
  have hts := atoms_spec (ws := wL_init) B.pre
  have hown : s.vm.findClass "WindingRaster$RunList" = some m.cls := findClass_of_methodNamed B.named
  have hlocks := B.notSynchronized
  subst hsz
  have hD := hD0.self (sz := s.heap.size)
  obtain ⟨A, hAe⟩ : ∃ A, va_A [(pl, .inr (3, [.null, .int (iI 0)]))] s.heap.size = A := ⟨_, rfl⟩
  rw [hAe] at hD
  have hA : ∀ q : Nat, s.heap.size ≤ q → A q := fun q h => by rw [← hAe]; exact Or.inr h
  have hS : va_S A s.heap s.heap [] := va_S.rf
  have hP : va_P D vwCl [(pl, .inr (3, [.null, .int (iI 0)]))] s.heap := hP
  have ml_1 := (hts _ (List.mem_cons_of_mem _ vm_63))
  have oi_i := (hts _ (List.mem_cons_of_mem _ vm_16))
  have oi_c := (hts _ (List.mem_cons_of_mem _ vx_obj))
  have ml_7 := (hts _ (List.mem_cons_of_mem _ vm_64))
  have ms_max := (hts _ (List.mem_cons_of_mem _ vm_22))
  have mi_math := (hts _ (List.mem_cons_of_mem _ vm_2))
  have mc_max := (hts _ (List.mem_cons_of_mem _ vx_max))
  have hari := (hts _ (List.mem_cons_of_mem _ vm_42))
  have in_3 : ∀ w ∈ wsL, w ∈ wL_init := fun w h => List.mem_cons_of_mem _ (in0_L w h)
  have fl_13 := (hts _ (List.mem_cons_of_mem _ vm_65))
  have hin : meth.name = "<init>" := (name_of_methodNamed B.named B.method).1
  have hl := lv_entry ([.ref pl, .int (iI (rm0 : Int))]) (n := 2) (Nat.le_of_ble_eq_true rfl)
  rw [lg_entry_eq]
  generalize (lg_sl ([.ref pl, .int (iI (rm0 : Int))]) ++ List.replicate (2 - (lg_sl ([.ref pl, .int (iI (rm0 : Int))])).length) Slot.unset).toArray = ls at hl ⊢
  have hl : lv_has ls 2 [(0, .ref pl), (1, .int (iI (rm0 : Int)))] := hl
  generalize hQ : MQ below (qV (S := Nat) (fun ap : Nat => True) D vwCl [(pl, .inr (3, [.null, .int (iI 0)]))] s.heap.size (fun ap : Nat => [(pl, .inr (3, [.ref ap, .int (iI 0)])), (ap, .inl (cA, rm0, .inl (iA (fun _ => 0))))])) [.ref pl, .int (iI (rm0 : Int))].toArray s 1 32768 (va_A [(pl, .inr (3, [.null, .int (iI 0)]))] s.heap.size) = QQ
  refine lv_aload_n hx hb dL_init_0 rfl (lv_at hl 0 rfl) ?_
  refine W.objInit hx hb hown ml_1 oi_i oi_c rfl (by rw [hml]; exact hl.1) rfl dL_init_1 (Nat.le_of_ble_eq_true rfl) (Nat.le_of_ble_eq_true rfl) ?_
  refine W.eq (g2 := F0 m 4 ls []) rfl ?_
  refine lv_aload_n hx hb dL_init_4 rfl (lv_at hl 0 rfl) ?_
  refine ii_iconst (n := 0) hx hb dL_init_5 ?_
  refine lv_iload_n hx hb dL_init_6 rfl (lv_at hl 1 rfl) ?_
  refine ii_mmax hx hb (hml.trans hl.1.symm) hown ml_7 ms_max mi_math mc_max (Nat.le_of_ble_eq_true rfl) (Nat.le_of_ble_eq_true rfl) (Nat.le_of_ble_eq_true rfl) (Nat.le_of_ble_eq_true rfl) (by omega) (by omega) dL_init_7 ?_
  refine ii_top (y := (rm0 : Int)) (by omega) ?_
  refine ii_newa hx hb hari hK hP hD hS hA 0 rfl rm0 rfl (by omega) (by decide) (by show 0 + rm0 ≤ 32768; omega) dL_init_10 (fun ap H hP hD hS => ?_)
  refine W.widen (k := 1) (n := 32768) (by omega) (by omega) ?_
  have hP : va_P D vwCl [(pl, .inr (3, [.null, .int (iI 0)])), (ap, .inl (cA, rm0, .inl (iA (fun _ => 0))))] H := hP
  have hD : va_D A [(pl, .inr (3, [.null, .int (iI 0)])), (ap, .inl (cA, rm0, .inl (iA (fun _ => 0))))] := hD
  refine va_putF (ci := 3) (v := .ref ap) (ty := (.array .int)) (C := "WindingRaster$RunList") (T := TL) (N := 2) hx hb hts in_3 tL tL_ok nL hown hK hP hD hS 0 rfl rfl 0 (by decide) fl_13 (fun _ h9 => h9) rfl hin rfl (by decide +kernel) rfl rfl (Nat.le_of_ble_eq_true rfl) dL_init_12 (fun H locs hP hD hS => ?_)
  have hP : va_P D vwCl [(pl, .inr (3, [.ref ap, .int (iI 0)])), (ap, .inl (cA, rm0, .inl (iA (fun _ => 0))))] H := hP
  have hD : va_D A [(pl, .inr (3, [.ref ap, .int (iI 0)])), (ap, .inl (cA, rm0, .inl (iA (fun _ => 0))))] := hD
  rw [← hQ]
  exact wr_vret ap hx hb hr hlocks hAe (hP.sub [0, 1] rfl) (hD.sub [0, 1] (by decide) rfl) hS trivial dL_init_15

def rm_c_add : Room := { frames := 0, cells := 0, slots := 0, locals := 0 }
set_option maxHeartbeats 4000000 in
set_option maxRecDepth 100000 in
theorem c_add (l : Launch) (D : va_G) (cA cB cS : ClassId) (pl : Nat) (ap : Nat) (fP : Nat → Int) (pn : Nat) (pm : Nat) (rn : Nat) (h1 : pn < pm) (h2 : pm < 2147483648) (sz : Nat) : Met l yL_add wL_add rm_c_add (pW [.ref pl, .int (iI (rn : Int))] D vwCl (vwTy cA cB cS) vwNw [(pl, .inr (3, [.ref ap, .int (iI (pn : Int))])), (ap, .inl (cA, pm, .inl (iA fP)))] sz) (qV (S := Unit) (fun _ : Unit => True) D vwCl [(pl, .inr (3, [.ref ap, .int (iI (pn : Int))])), (ap, .inl (cA, pm, .inl (iA fP)))] sz (fun _ : Unit => [(pl, .inr (3, [.ref ap, .int (iI ((pn + 1 : Nat) : Int))])), (ap, .inl (cA, pm, .inl (iA (uZ fP pn (rn : Int)))))])) 0 0 (va_A [(pl, .inr (3, [.ref ap, .int (iI (pn : Int))])), (ap, .inl (cA, pm, .inl (iA fP)))] sz) := by
  refine Met.ofW (cc := bL_add) (maxL := 2) (ret := none) (by decide +kernel) rfl ?_
  intro p e s m args below meth c s₁ B hml hv
  obtain ⟨rfl, hsz, hP, hKW, hD0⟩ := hv
  have hK := hKW.1
  have hN := hKW.2.2
  have hx := B.exec
  have hb := B.bytes
  have hr := B.returns
  have hts := atoms_spec (ws := wL_add) B.pre
  have hown : s.vm.findClass "WindingRaster$RunList" = some m.cls := findClass_of_methodNamed B.named
  have hlocks := B.notSynchronized
  subst hsz
  have hD := hD0.self (sz := s.heap.size)
  obtain ⟨A, hAe⟩ : ∃ A, va_A [(pl, .inr (3, [.ref ap, .int (iI (pn : Int))])), (ap, .inl (cA, pm, .inl (iA fP)))] s.heap.size = A := ⟨_, rfl⟩
  rw [hAe] at hD
  have hA : ∀ q : Nat, s.heap.size ≤ q → A q := fun q h => by rw [← hAe]; exact Or.inr h
  have hS : va_S A s.heap s.heap [] := va_S.rf
  have hP : va_P D vwCl [(pl, .inr (3, [.ref ap, .int (iI (pn : Int))])), (ap, .inl (cA, pm, .inl (iA fP)))] s.heap := hP
  have in_3 : ∀ w ∈ wsL, w ∈ wL_add := fun w h => List.mem_cons_of_mem _ (in0_L w h)
  have fl_19 := (hts _ (List.mem_cons_of_mem _ vm_66))
  have fl_13 := (hts _ (List.mem_cons_of_mem _ vm_65))
  have hl := lv_entry ([.ref pl, .int (iI (rn : Int))]) (n := 2) (Nat.le_of_ble_eq_true rfl)
  rw [lg_entry_eq]
  generalize (lg_sl ([.ref pl, .int (iI (rn : Int))]) ++ List.replicate (2 - (lg_sl ([.ref pl, .int (iI (rn : Int))])).length) Slot.unset).toArray = ls at hl ⊢
  have hl : lv_has ls 2 [(0, .ref pl), (1, .int (iI (rn : Int)))] := hl
  generalize hQ : MQ below (qV (S := Unit) (fun _ : Unit => True) D vwCl [(pl, .inr (3, [.ref ap, .int (iI (pn : Int))])), (ap, .inl (cA, pm, .inl (iA fP)))] s.heap.size (fun _ : Unit => [(pl, .inr (3, [.ref ap, .int (iI ((pn + 1 : Nat) : Int))])), (ap, .inl (cA, pm, .inl (iA (uZ fP pn (rn : Int)))))])) [.ref pl, .int (iI (rn : Int))].toArray s 0 0 (va_A [(pl, .inr (3, [.ref ap, .int (iI (pn : Int))])), (ap, .inl (cA, pm, .inl (iA fP)))] s.heap.size) = QQ
  refine lv_aload_n hx hb dL_add_0 rfl (lv_at hl 0 rfl) ?_
  refine va_get (ci := 3) (v := .int (iI (pn : Int))) (C := "WindingRaster$RunList") (T := TL) (N := 2) hx hb hts in_3 hown hK hP 0 rfl rfl 1 (by decide) fl_19 (fun _ h9 => h9) rfl dL_add_1 ?_
  refine lv_aload_n hx hb dL_add_4 rfl (lv_at hl 0 rfl) ?_
  refine va_get (ci := 3) (v := .ref ap) (C := "WindingRaster$RunList") (T := TL) (N := 2) hx hb hts in_3 hown hK hP 0 rfl rfl 0 (by decide) fl_13 (fun _ h9 => h9) rfl dL_add_5 ?_
  refine ii_alen hx hb hK hP 1 0 rfl rfl dL_add_8 ?_
  refine ii_icmp_ge (tgt := 32) hx hb dL_add_9 (by decide) (by omega) (by omega) (fun c9 => ?_) (fun c9 => ?_)
  · exfalso; omega
  · refine lv_aload_n hx hb dL_add_12 rfl (lv_at hl 0 rfl) ?_
    refine va_get (ci := 3) (v := .ref ap) (C := "WindingRaster$RunList") (T := TL) (N := 2) hx hb hts in_3 hown hK hP 0 rfl rfl 0 (by decide) fl_13 (fun _ h9 => h9) rfl dL_add_13 ?_
    refine lv_aload_n hx hb dL_add_16 rfl (lv_at hl 0 rfl) ?_
    refine va_get (ci := 3) (v := .int (iI (pn : Int))) (C := "WindingRaster$RunList") (T := TL) (N := 2) hx hb hts in_3 hown hK hP 0 rfl rfl 1 (by decide) fl_19 (fun _ h9 => h9) rfl dL_add_17 ?_
    refine lv_iload_n hx hb dL_add_20 rfl (lv_at hl 1 rfl) ?_
    refine ii_iast hx hb hK hP hD hS 1 0 rfl rfl pn rfl (by omega) (by omega) dL_add_21 (fun H locs hP hD hS => ?_)
    have hP : va_P D vwCl [(pl, .inr (3, [.ref ap, .int (iI (pn : Int))])), (ap, .inl (cA, pm, .inl (iA (uZ fP pn (rn : Int)))))] H := hP
    have hD : va_D A [(pl, .inr (3, [.ref ap, .int (iI (pn : Int))])), (ap, .inl (cA, pm, .inl (iA (uZ fP pn (rn : Int)))))] := hD
    refine lv_aload_n hx hb dL_add_22 rfl (lv_at hl 0 rfl) ?_
    refine lv_dup hx hb dL_add_23 rfl ?_
    refine va_get (ci := 3) (v := .int (iI (pn : Int))) (C := "WindingRaster$RunList") (T := TL) (N := 2) hx hb hts in_3 hown hK hP 0 rfl rfl 1 (by decide) fl_19 (fun _ h9 => h9) rfl dL_add_24 ?_
    refine ii_iconst (n := 1) hx hb dL_add_27 ?_
    refine ii_iadd hx hb dL_add_28 ?_
    refine ii_top (y := ((pn + 1 : Nat) : Int)) (by push_cast; rfl) ?_
    refine va_put (ci := 3) (v := .int (iI ((pn + 1 : Nat) : Int))) (ty := .int) (C := "WindingRaster$RunList") (T := TL) (N := 2) hx hb hts in_3 tL tL_ok nL hown hK hP hD hS 0 rfl rfl 1 (by decide) fl_19 (fun _ h9 => h9) rfl (by decide +kernel) rfl rfl (Nat.le_of_ble_eq_true rfl) dL_add_29 (fun H locs hP hD hS => ?_)
    have hP : va_P D vwCl [(pl, .inr (3, [.ref ap, .int (iI ((pn + 1 : Nat) : Int))])), (ap, .inl (cA, pm, .inl (iA (uZ fP pn (rn : Int)))))] H := hP
    have hD : va_D A [(pl, .inr (3, [.ref ap, .int (iI ((pn + 1 : Nat) : Int))])), (ap, .inl (cA, pm, .inl (iA (uZ fP pn (rn : Int)))))] := hD
    rw [← hQ]
    exact wr_vret () hx hb hr hlocks hAe (hP.sub [0, 1] rfl) (hD.sub [0, 1] (by decide) rfl) hS trivial dL_add_32

def rm_c_ClipPile_init : Room := { frames := 1, cells := 2, slots := 24013, locals := 22 }
set_option maxHeartbeats 4000000 in
set_option maxRecDepth 100000 in
theorem c_ClipPile_init (l : Launch) (D : va_G) (cA cB cS : ClassId) (cp : Nat) (cs : Nat) (rs : Nat) (h1 : cs ≤ 256) (h2 : rs ≤ 256) (sz : Nat) : Met l yC_init wC_init rm_c_ClipPile_init (pW [.ref cp, .int (iI (cs : Int)), .int (iI (rs : Int))] D vwCl (vwTy cA cB cS) vwNw [(cp, .inr (2, [.null, .null, .int (iI 0), .int (iI 0)]))] sz) (qV (S := Nat × Nat × (Nat → Int)) (fun u : Nat × Nat × (Nat → Int) => ∀ k : Nat, k < rs → u.2.2 k = ((enc (k, 0, cs) : Nat) : Int)) D vwCl [(cp, .inr (2, [.null, .null, .int (iI 0), .int (iI 0)]))] sz (fun u : Nat × Nat × (Nat → Int) => [(cp, .inr (2, [.ref u.1, .ref u.2.1, .int (iI 0), .int (iI (rs : Int))])), (u.1, .inl (cA, 24000, .inl (iA u.2.2))), (u.2.1, .inl (cA, 13, .inl (iA (fun _ => 0))))])) 2 24013 (va_A [(cp, .inr (2, [.null, .null, .int (iI 0), .int (iI 0)]))] sz) := by
  refine Met.ofW (cc := bC_init) (maxL := 4) (ret := none) (by decide +kernel) rfl ?_
  intro p e s m args below meth c s₁ B hml hv
  obtain ⟨rfl, hsz, hP, hKW, hD0⟩ := hv
  have hK := hKW.1
  have hN := hKW.2.2
  have hx := B.exec
  have hb := B.bytes
  have hr := B.returns
  have hts := atoms_spec (ws := wC_init) B.pre
  have hown : s.vm.findClass "WindingRaster$ClipPile" = some m.cls := findClass_of_methodNamed B.named
  have hlocks := B.notSynchronized
  subst hsz
  have hD := hD0.self (sz := s.heap.size)
  obtain ⟨A, hAe⟩ : ∃ A, va_A [(cp, .inr (2, [.null, .null, .int (iI 0), .int (iI 0)]))] s.heap.size = A := ⟨_, rfl⟩
  rw [hAe] at hD
  have hA : ∀ q : Nat, s.heap.size ≤ q → A q := fun q h => by rw [← hAe]; exact Or.inr h
  have hS : va_S A s.heap s.heap [] := va_S.rf
  have hP : va_P D vwCl [(cp, .inr (2, [.null, .null, .int (iI 0), .int (iI 0)]))] s.heap := hP
  have ml_3 := (hts _ (List.mem_cons_of_mem _ vm_47))
  have oi_i := (hts _ (List.mem_cons_of_mem _ vm_16))
  have oi_c := (hts _ (List.mem_cons_of_mem _ vx_obj))
  have hari := (hts _ (List.mem_cons_of_mem _ vm_42))
  have in_2 : ∀ w ∈ wsC, w ∈ wC_init := fun w h => List.mem_cons_of_mem _ (in0_C w h)
  have fl_9 := (hts _ (List.mem_cons_of_mem _ vm_51))
  have hin : meth.name = "<init>" := (name_of_methodNamed B.named B.method).1
  have fl_15 := (hts _ (List.mem_cons_of_mem _ vm_52))
  have ml_24 := (hts _ (List.mem_cons_of_mem _ vm_50))
  have ms_min := (hts _ (List.mem_cons_of_mem _ vm_19))
  have mi_math := (hts _ (List.mem_cons_of_mem _ vm_2))
  have mc_min := (hts _ (List.mem_cons_of_mem _ vx_min))
  have fl_30 := (hts _ (List.mem_cons_of_mem _ vm_54))
  have hl := lv_entry ([.ref cp, .int (iI (cs : Int)), .int (iI (rs : Int))]) (n := 4) (Nat.le_of_ble_eq_true rfl)
  rw [lg_entry_eq]
  generalize (lg_sl ([.ref cp, .int (iI (cs : Int)), .int (iI (rs : Int))]) ++ List.replicate (4 - (lg_sl ([.ref cp, .int (iI (cs : Int)), .int (iI (rs : Int))])).length) Slot.unset).toArray = ls at hl ⊢
  have hl : lv_has ls 4 [(0, .ref cp), (1, .int (iI (cs : Int))), (2, .int (iI (rs : Int)))] := hl
  generalize hQ : MQ below (qV (S := Nat × Nat × (Nat → Int)) (fun u : Nat × Nat × (Nat → Int) => ∀ k : Nat, k < rs → u.2.2 k = ((enc (k, 0, cs) : Nat) : Int)) D vwCl [(cp, .inr (2, [.null, .null, .int (iI 0), .int (iI 0)]))] s.heap.size (fun u : Nat × Nat × (Nat → Int) => [(cp, .inr (2, [.ref u.1, .ref u.2.1, .int (iI 0), .int (iI (rs : Int))])), (u.1, .inl (cA, 24000, .inl (iA u.2.2))), (u.2.1, .inl (cA, 13, .inl (iA (fun _ => 0))))])) [.ref cp, .int (iI (cs : Int)), .int (iI (rs : Int))].toArray s 2 24013 (va_A [(cp, .inr (2, [.null, .null, .int (iI 0), .int (iI 0)]))] s.heap.size) = QQ
  refine lv_aload_n hx hb dC_init_0 rfl (lv_at hl 0 rfl) ?_
  refine W.objInit hx hb hown ml_3 oi_i oi_c rfl (by rw [hml]; exact hl.1) rfl dC_init_1 (Nat.le_of_ble_eq_true rfl) (Nat.le_of_ble_eq_true rfl) ?_
  refine W.eq (g2 := F0 m 4 ls []) rfl ?_
  refine lv_aload_n hx hb dC_init_4 rfl (lv_at hl 0 rfl) ?_
  refine ii_sipush (n := 24000) hx hb dC_init_5 (by decide +kernel) ?_
  refine ii_newa hx hb hari hK hP hD hS hA 0 rfl 24000 (by omega) (by omega) (by decide) (by decide) dC_init_8 (fun ai H hP hD hS => ?_)
  refine W.widen (k := 1) (n := 24000) (by omega) (by omega) ?_
  have hP : va_P D vwCl [(cp, .inr (2, [.null, .null, .int (iI 0), .int (iI 0)])), (ai, .inl (cA, 24000, .inl (iA (fun _ => 0))))] H := hP
  have hD : va_D A [(cp, .inr (2, [.null, .null, .int (iI 0), .int (iI 0)])), (ai, .inl (cA, 24000, .inl (iA (fun _ => 0))))] := hD
  refine va_putF (ci := 2) (v := .ref ai) (ty := (.array .int)) (C := "WindingRaster$ClipPile") (T := TC) (N := 4) hx hb hts in_2 tC tC_ok nC hown hK hP hD hS 0 rfl rfl 0 (by decide) fl_9 (fun _ h9 => h9) rfl hin rfl (by decide +kernel) rfl rfl (Nat.le_of_ble_eq_true rfl) dC_init_10 (fun H locs hP hD hS => ?_)
  have hP : va_P D vwCl [(cp, .inr (2, [.ref ai, .null, .int (iI 0), .int (iI 0)])), (ai, .inl (cA, 24000, .inl (iA (fun _ => 0))))] H := hP
  have hD : va_D A [(cp, .inr (2, [.ref ai, .null, .int (iI 0), .int (iI 0)])), (ai, .inl (cA, 24000, .inl (iA (fun _ => 0))))] := hD
  refine lv_aload_n hx hb dC_init_13 rfl (lv_at hl 0 rfl) ?_
  refine ii_bipush (n := 13) hx hb dC_init_14 (by decide +kernel) ?_
  refine ii_newa hx hb hari hK hP hD hS hA 0 rfl 13 (by omega) (by omega) (by decide) (by decide) dC_init_16 (fun at_ H hP hD hS => ?_)
  refine W.widen (k := 2) (n := 24013) (by omega) (by omega) ?_
  have hP : va_P D vwCl [(cp, .inr (2, [.ref ai, .null, .int (iI 0), .int (iI 0)])), (ai, .inl (cA, 24000, .inl (iA (fun _ => 0)))), (at_, .inl (cA, 13, .inl (iA (fun _ => 0))))] H := hP
  have hD : va_D A [(cp, .inr (2, [.ref ai, .null, .int (iI 0), .int (iI 0)])), (ai, .inl (cA, 24000, .inl (iA (fun _ => 0)))), (at_, .inl (cA, 13, .inl (iA (fun _ => 0))))] := hD
  refine va_putF (ci := 2) (v := .ref at_) (ty := (.array .int)) (C := "WindingRaster$ClipPile") (T := TC) (N := 4) hx hb hts in_2 tC tC_ok nC hown hK hP hD hS 0 rfl rfl 1 (by decide) fl_15 (fun _ h9 => h9) rfl hin rfl (by decide +kernel) rfl rfl (Nat.le_of_ble_eq_true rfl) dC_init_18 (fun H locs hP hD hS => ?_)
  have hP : va_P D vwCl [(cp, .inr (2, [.ref ai, .ref at_, .int (iI 0), .int (iI 0)])), (ai, .inl (cA, 24000, .inl (iA (fun _ => 0)))), (at_, .inl (cA, 13, .inl (iA (fun _ => 0))))] H := hP
  have hD : va_D A [(cp, .inr (2, [.ref ai, .ref at_, .int (iI 0), .int (iI 0)])), (ai, .inl (cA, 24000, .inl (iA (fun _ => 0)))), (at_, .inl (cA, 13, .inl (iA (fun _ => 0))))] := hD
  refine ii_iconst (n := 0) hx hb dC_init_21 ?_
  refine lv_istore_n (lv' := [(3, .int (iI 0)), (0, .ref cp), (1, .int (iI (cs : Int))), (2, .int (iI (rs : Int)))]) hx hb dC_init_22 rfl hl (by decide) rfl (fun ls hl => ?_)
  have lp23 : ∀ (n_ : Nat) (i : Nat) (fJ : Nat → Int), (i ≤ rs) → (∀ k : Nat, k < i → fJ k = ((enc (k, 0, cs) : Nat) : Int)) → (rs - i) < n_ → ∀ (H : Heap) (locs : List Loc), va_P D vwCl [(cp, .inr (2, [.ref ai, .ref at_, .int (iI 0), .int (iI 0)])), (ai, .inl (cA, 24000, .inl (iA fJ))), (at_, .inl (cA, 13, .inl (iA (fun _ => 0))))] H → va_D A [(cp, .inr (2, [.ref ai, .ref at_, .int (iI 0), .int (iI 0)])), (ai, .inl (cA, 24000, .inl (iA fJ))), (at_, .inl (cA, 13, .inl (iA (fun _ => 0))))] → va_S A s.heap H locs → ∀ ls : Array Slot, lv_has ls 4 [(3, .int (iI (i : Int))), (0, .ref cp), (1, .int (iI (cs : Int))), (2, .int (iI (rs : Int)))] → W p l e (headSpec wC_init rm_c_ClipPile_init).room s m [.ref cp, .int (iI (cs : Int)), .int (iI (rs : Int))].toArray below meth c H locs 2 24013 QQ (F0 m 23 ls []) := by
    intro n_
    induction n_ with
    | zero =>
      intro i fJ i1 i2 hm_
      exact absurd hm_ (Nat.not_lt_zero _)
    | succ n_ ih_lp23 =>
      intro i fJ i1 i2 hm_lp23 H locs hP hD hS ls hl
      refine lv_iload_n hx hb dC_init_23 rfl (lv_at hl 0 rfl) ?_
      refine lv_iload_n hx hb dC_init_24 rfl (lv_at hl 3 rfl) ?_
      refine ii_icmp_ge (tgt := 53) hx hb dC_init_25 (by decide) (by omega) (by omega) (fun c25 => ?_) (fun c25 => ?_)
      · refine lv_aload_n hx hb dC_init_53 rfl (lv_at hl 1 rfl) ?_
        refine lv_iload_n hx hb dC_init_54 rfl (lv_at hl 3 rfl) ?_
        refine ii_sipush (n := 24000) hx hb dC_init_55 (by decide +kernel) ?_
        refine ii_mmin hx hb (hml.trans hl.1.symm) hown ml_24 ms_min mi_math mc_min (Nat.le_of_ble_eq_true rfl) (Nat.le_of_ble_eq_true rfl) (Nat.le_of_ble_eq_true rfl) (Nat.le_of_ble_eq_true rfl) (by omega) (by omega) dC_init_58 ?_
        refine ii_top (y := (rs : Int)) (by omega) ?_
        refine va_put (ci := 2) (v := .int (iI (rs : Int))) (ty := .int) (C := "WindingRaster$ClipPile") (T := TC) (N := 4) hx hb hts in_2 tC tC_ok nC hown hK hP hD hS 0 rfl rfl 3 (by decide) fl_30 (fun _ h9 => h9) rfl (by decide +kernel) rfl rfl (Nat.le_of_ble_eq_true rfl) dC_init_61 (fun H locs hP hD hS => ?_)
        have hP : va_P D vwCl [(cp, .inr (2, [.ref ai, .ref at_, .int (iI 0), .int (iI (rs : Int))])), (ai, .inl (cA, 24000, .inl (iA fJ))), (at_, .inl (cA, 13, .inl (iA (fun _ => 0))))] H := hP
        have hD : va_D A [(cp, .inr (2, [.ref ai, .ref at_, .int (iI 0), .int (iI (rs : Int))])), (ai, .inl (cA, 24000, .inl (iA fJ))), (at_, .inl (cA, 13, .inl (iA (fun _ => 0))))] := hD
        rw [← hQ]
        exact wr_vret (ai, at_, fJ) hx hb hr hlocks hAe (hP.sub [0, 1, 2] rfl) (hD.sub [0, 1, 2] (by decide) rfl) hS (fun k hk => i2 k (by omega)) dC_init_64
      · refine lv_iload_n hx hb dC_init_28 rfl (lv_at hl 0 rfl) ?_
        refine ii_sipush (n := 24000) hx hb dC_init_29 (by decide +kernel) ?_
        refine ii_icmp_ge (tgt := 53) hx hb dC_init_32 (by decide) (by omega) (by omega) (fun c32 => ?_) (fun c32 => ?_)
        · exfalso; omega
        · refine lv_aload_n hx hb dC_init_35 rfl (lv_at hl 1 rfl) ?_
          refine va_get (ci := 2) (v := .ref ai) (C := "WindingRaster$ClipPile") (T := TC) (N := 4) hx hb hts in_2 hown hK hP 0 rfl rfl 0 (by decide) fl_9 (fun _ h9 => h9) rfl dC_init_36 ?_
          refine lv_iload_n hx hb dC_init_39 rfl (lv_at hl 0 rfl) ?_
          refine lv_iload_n hx hb dC_init_40 rfl (lv_at hl 0 rfl) ?_
          refine ii_iconst (n := 0) hx hb dC_init_41 ?_
          refine lv_iload_n hx hb dC_init_42 rfl (lv_at hl 2 rfl) ?_
          refine cs_i (va_runSN (As := [.int (iI (i : Int)), .int (iI 0), .int (iI (cs : Int))]) (rest := [.int (iI (i : Int)), .ref ai]) ⟨hx, hb, hml, hown, hts⟩ (c_of l D cA cB cS i 0 cs (by omega) (by omega) (by omega)) ⟨(va_cnB 3 hts (gIn vm_49) rfl rfl rfl (hN _ vn_3) (hts _ (List.mem_cons_of_mem _ vm_6)) (by decide +kernel) ⟨Nat.le_of_ble_eq_true rfl, Nat.le_of_ble_eq_true rfl⟩), (hts _ (List.mem_cons_of_mem _ vm_48)), trivial⟩ (pR.pre (hP.sub [] rfl) hKW) rfl rfl hl.1 rfl (lv_room (Nat.le_of_ble_eq_true rfl)) dC_init_43 ⟨Nat.le_of_ble_eq_true rfl, Nat.le_of_ble_eq_true rfl⟩) (fun z_1 hz_1 => ?_)
          subst hz_1
          refine ii_iast hx hb hK hP hD hS 1 0 rfl rfl i rfl (by omega) (by omega) dC_init_46 (fun H locs hP hD hS => ?_)
          have hP : va_P D vwCl [(cp, .inr (2, [.ref ai, .ref at_, .int (iI 0), .int (iI 0)])), (ai, .inl (cA, 24000, .inl (iA (uZ fJ i ((i * 262144 + 0 * 512 + cs : Nat) : Int))))), (at_, .inl (cA, 13, .inl (iA (fun _ => 0))))] H := hP
          have hD : va_D A [(cp, .inr (2, [.ref ai, .ref at_, .int (iI 0), .int (iI 0)])), (ai, .inl (cA, 24000, .inl (iA (uZ fJ i ((i * 262144 + 0 * 512 + cs : Nat) : Int))))), (at_, .inl (cA, 13, .inl (iA (fun _ => 0))))] := hD
          refine lv_iinc (v := iI ((i + 1 : Nat) : Int)) (lv' := [(3, .int (iI ((i + 1 : Nat) : Int))), (0, .ref cp), (1, .int (iI (cs : Int))), (2, .int (iI (rs : Int)))]) hx hb dC_init_47 hl (k := 0) rfl (iI_inc _ 1 (by omega)) (by decide) rfl (fun ls hl => ?_)
          refine lv_goto (tgt := 23) hx hb dC_init_50 (by decide) ?_
          exact ih_lp23 (i + 1) (uZ fJ i ((i * 262144 + 0 * 512 + cs : Nat) : Int)) (by omega) (fun k hk => by unfold uZ; split; (next h => rw [h]; rfl); (next h => exact i2 k (by omega))) (by omega) _ _ (hP.sub [0, 1, 2] rfl) (hD.sub [0, 1, 2] (by decide) rfl) hS _ (lv_sub hl [0, 1, 2, 3] rfl)
  exact lp23 (rs - 0 + 1) 0 (fun _ => 0) (by omega) (fun k hk => absurd hk (Nat.not_lt_zero _)) (Nat.lt_succ_self _) _ _ (hP.sub [0, 1, 2] rfl) (hD.sub [0, 1, 2] (by decide) rfl) hS _ (lv_sub hl [0, 1, 2, 3] rfl)

def rm_c_start : Room := { frames := 0, cells := 0, slots := 0, locals := 0 }
set_option maxHeartbeats 4000000 in
set_option maxRecDepth 100000 in
theorem c_start (l : Launch) (D : va_G) (cA cB cS : ClassId) (cp : Nat) (ai : Nat) (at_ : Nat) (fI : Nat → Int) (fS : Nat → Int) (sv : Nat) (en : Nat) (st0 : Nat) (h1 : sv ≤ 12) (h2 : fS sv = (st0 : Int)) : Met l yC_start wC_start rm_c_start (pR [.ref cp] D vwCl (vwTy cA cB cS) vwNw [(cp, .inr (2, [.ref ai, .ref at_, .int (iI (sv : Int)), .int (iI (en : Int))])), (ai, .inl (cA, 24000, .inl (iA fI))), (at_, .inl (cA, 13, .inl (iA fS)))]) (qI (fun z => z = (st0 : Int))) 0 0 (fun _ => False) := by
  refine Met.ofW (cc := bC_start) (maxL := 1) (ret := (some .int)) (by decide +kernel) rfl ?_
  intro p e s m args below meth c s₁ B hml hv
  obtain ⟨rfl, hP, hKW⟩ := hv
  have hK := hKW.1
  have hN := hKW.2.2
  have hx := B.exec
  have hb := B.bytes
  have hr := B.returns
  have hts := atoms_spec (ws := wC_start) B.pre
  have hown : s.vm.findClass "WindingRaster$ClipPile" = some m.cls := findClass_of_methodNamed B.named
  have hlocks := B.notSynchronized
  have hP : va_P D vwCl [(cp, .inr (2, [.ref ai, .ref at_, .int (iI (sv : Int)), .int (iI (en : Int))])), (ai, .inl (cA, 24000, .inl (iA fI))), (at_, .inl (cA, 13, .inl (iA fS)))] s.heap := hP
  have in_2 : ∀ w ∈ wsC, w ∈ wC_start := fun w h => List.mem_cons_of_mem _ (in0_C w h)
  have fl_34 := (hts _ (List.mem_cons_of_mem _ vm_53))
  have fl_15 := (hts _ (List.mem_cons_of_mem _ vm_52))
  have hl := lv_entry ([.ref cp]) (n := 1) (Nat.le_of_ble_eq_true rfl)
  rw [lg_entry_eq]
  generalize (lg_sl ([.ref cp]) ++ List.replicate (1 - (lg_sl ([.ref cp])).length) Slot.unset).toArray = ls at hl ⊢
  have hl : lv_has ls 1 [(0, .ref cp)] := hl
  generalize hQ : MQ below (qI (fun z => z = (st0 : Int))) [.ref cp].toArray s 0 0 (fun _ => False) = QQ
  refine lv_aload_n hx hb dC_start_0 rfl (lv_at hl 0 rfl) ?_
  refine va_get (ci := 2) (v := .int (iI (sv : Int))) (C := "WindingRaster$ClipPile") (T := TC) (N := 4) hx hb hts in_2 hown hK hP 0 rfl rfl 2 (by decide) fl_34 (fun _ h9 => h9) rfl dC_start_1 ?_
  refine ii_if_lt (tgt := 31) hx hb dC_start_4 (by decide) (by omega) (fun c4 => ?_) (fun c4 => ?_)
  · exfalso; omega
  · refine lv_aload_n hx hb dC_start_7 rfl (lv_at hl 0 rfl) ?_
    refine va_get (ci := 2) (v := .int (iI (sv : Int))) (C := "WindingRaster$ClipPile") (T := TC) (N := 4) hx hb hts in_2 hown hK hP 0 rfl rfl 2 (by decide) fl_34 (fun _ h9 => h9) rfl dC_start_8 ?_
    refine lv_aload_n hx hb dC_start_11 rfl (lv_at hl 0 rfl) ?_
    refine va_get (ci := 2) (v := .ref at_) (C := "WindingRaster$ClipPile") (T := TC) (N := 4) hx hb hts in_2 hown hK hP 0 rfl rfl 1 (by decide) fl_15 (fun _ h9 => h9) rfl dC_start_12 ?_
    refine ii_alen hx hb hK hP 2 0 rfl rfl dC_start_15 ?_
    refine ii_icmp_ge (tgt := 31) hx hb dC_start_16 (by decide) (by omega) (by omega) (fun c16 => ?_) (fun c16 => ?_)
    · exfalso; omega
    · refine lv_aload_n hx hb dC_start_19 rfl (lv_at hl 0 rfl) ?_
      refine va_get (ci := 2) (v := .ref at_) (C := "WindingRaster$ClipPile") (T := TC) (N := 4) hx hb hts in_2 hown hK hP 0 rfl rfl 1 (by decide) fl_15 (fun _ h9 => h9) rfl dC_start_20 ?_
      refine lv_aload_n hx hb dC_start_23 rfl (lv_at hl 0 rfl) ?_
      refine va_get (ci := 2) (v := .int (iI (sv : Int))) (C := "WindingRaster$ClipPile") (T := TC) (N := 4) hx hb hts in_2 hown hK hP 0 rfl rfl 2 (by decide) fl_34 (fun _ h9 => h9) rfl dC_start_24 ?_
      refine ii_iald hx hb hK hP 2 0 rfl rfl sv rfl (by omega) (by omega) dC_start_27 ?_
      refine ii_top (y := (st0 : Int)) h2 ?_
      refine lv_goto (tgt := 32) hx hb dC_start_28 (by decide) ?_
      rw [← hQ]
      exact rd_iret hx hb hr hlocks (by omega) dC_start_32

def rm_c_runAt : Room := { frames := 0, cells := 0, slots := 0, locals := 0 }
set_option maxHeartbeats 4000000 in
set_option maxRecDepth 100000 in
theorem c_runAt (l : Launch) (D : va_G) (cA cB cS : ClassId) (cp : Nat) (ai : Nat) (at_ : Nat) (fI : Nat → Int) (fS : Nat → Int) (sv : Nat) (en : Nat) (ri : Nat) (rv : Nat) (h1 : ri < en) (h2 : en ≤ 24000) (h3 : fI ri = (rv : Int)) : Met l yC_runAt wC_runAt rm_c_runAt (pR [.ref cp, .int (iI (ri : Int))] D vwCl (vwTy cA cB cS) vwNw [(cp, .inr (2, [.ref ai, .ref at_, .int (iI (sv : Int)), .int (iI (en : Int))])), (ai, .inl (cA, 24000, .inl (iA fI))), (at_, .inl (cA, 13, .inl (iA fS)))]) (qI (fun z => z = (rv : Int))) 0 0 (fun _ => False) := by
  refine Met.ofW (cc := bC_runAt) (maxL := 2) (ret := (some .int)) (by decide +kernel) rfl ?_
  intro p e s m args below meth c s₁ B hml hv
  obtain ⟨rfl, hP, hKW⟩ := hv
  have hK := hKW.1
  have hN := hKW.2.2
  have hx := B.exec
  have hb := B.bytes
  have hr := B.returns
  have hts := atoms_spec (ws := wC_runAt) B.pre
  have hown : s.vm.findClass "WindingRaster$ClipPile" = some m.cls := findClass_of_methodNamed B.named
  have hlocks := B.notSynchronized
  have hP : va_P D vwCl [(cp, .inr (2, [.ref ai, .ref at_, .int (iI (sv : Int)), .int (iI (en : Int))])), (ai, .inl (cA, 24000, .inl (iA fI))), (at_, .inl (cA, 13, .inl (iA fS)))] s.heap := hP
  have in_2 : ∀ w ∈ wsC, w ∈ wC_runAt := fun w h => List.mem_cons_of_mem _ (in0_C w h)
  have fl_30 := (hts _ (List.mem_cons_of_mem _ vm_54))
  have fl_9 := (hts _ (List.mem_cons_of_mem _ vm_51))
  have hl := lv_entry ([.ref cp, .int (iI (ri : Int))]) (n := 2) (Nat.le_of_ble_eq_true rfl)
  rw [lg_entry_eq]
  generalize (lg_sl ([.ref cp, .int (iI (ri : Int))]) ++ List.replicate (2 - (lg_sl ([.ref cp, .int (iI (ri : Int))])).length) Slot.unset).toArray = ls at hl ⊢
  have hl : lv_has ls 2 [(0, .ref cp), (1, .int (iI (ri : Int)))] := hl
  generalize hQ : MQ below (qI (fun z => z = (rv : Int))) [.ref cp, .int (iI (ri : Int))].toArray s 0 0 (fun _ => False) = QQ
  refine lv_iload_n hx hb dC_runAt_0 rfl (lv_at hl 1 rfl) ?_
  refine ii_if_lt (tgt := 30) hx hb dC_runAt_1 (by decide) (by omega) (fun c1 => ?_) (fun c1 => ?_)
  · exfalso; omega
  · refine lv_iload_n hx hb dC_runAt_4 rfl (lv_at hl 1 rfl) ?_
    refine lv_aload_n hx hb dC_runAt_5 rfl (lv_at hl 0 rfl) ?_
    refine va_get (ci := 2) (v := .int (iI (en : Int))) (C := "WindingRaster$ClipPile") (T := TC) (N := 4) hx hb hts in_2 hown hK hP 0 rfl rfl 3 (by decide) fl_30 (fun _ h9 => h9) rfl dC_runAt_6 ?_
    refine ii_icmp_ge (tgt := 30) hx hb dC_runAt_9 (by decide) (by omega) (by omega) (fun c9 => ?_) (fun c9 => ?_)
    · exfalso; omega
    · refine lv_iload_n hx hb dC_runAt_12 rfl (lv_at hl 1 rfl) ?_
      refine lv_aload_n hx hb dC_runAt_13 rfl (lv_at hl 0 rfl) ?_
      refine va_get (ci := 2) (v := .ref ai) (C := "WindingRaster$ClipPile") (T := TC) (N := 4) hx hb hts in_2 hown hK hP 0 rfl rfl 0 (by decide) fl_9 (fun _ h9 => h9) rfl dC_runAt_14 ?_
      refine ii_alen hx hb hK hP 1 0 rfl rfl dC_runAt_17 ?_
      refine ii_icmp_ge (tgt := 30) hx hb dC_runAt_18 (by decide) (by omega) (by omega) (fun c18 => ?_) (fun c18 => ?_)
      · exfalso; omega
      · refine lv_aload_n hx hb dC_runAt_21 rfl (lv_at hl 0 rfl) ?_
        refine va_get (ci := 2) (v := .ref ai) (C := "WindingRaster$ClipPile") (T := TC) (N := 4) hx hb hts in_2 hown hK hP 0 rfl rfl 0 (by decide) fl_9 (fun _ h9 => h9) rfl dC_runAt_22 ?_
        refine lv_iload_n hx hb dC_runAt_25 rfl (lv_at hl 1 rfl) ?_
        refine ii_iald hx hb hK hP 1 0 rfl rfl ri rfl (by omega) (by omega) dC_runAt_26 ?_
        refine ii_top (y := (rv : Int)) h3 ?_
        refine lv_goto (tgt := 31) hx hb dC_runAt_27 (by decide) ?_
        rw [← hQ]
        exact rd_iret hx hb hr hlocks (by omega) dC_runAt_31

def rm_c_copyA : Room := { frames := 1, cells := 0, slots := 0, locals := 48 }
set_option maxHeartbeats 4000000 in
set_option maxRecDepth 100000 in
theorem c_copyA (l : Launch) (D : va_G) (cA cB cS : ClassId) (cp : Nat) (ai : Nat) (at_ : Nat) (fI : Nat → Int) (fS : Nat → Int) (sv : Nat) (en : Nat) (s0 : Nat) (n0 : Nat) (d0 : Nat) (h1 : s0 + n0 ≤ 24000) (h2 : d0 ≤ 24000) (sz : Nat) : Met l yC_copyRuns wC_copyRuns rm_c_copyA (pW [.ref cp, .ref ai, .int (iI (s0 : Int)), .int (iI (n0 : Int)), .int (iI (d0 : Int))] D vwCl (vwTy cA cB cS) vwNw [(cp, .inr (2, [.ref ai, .ref at_, .int (iI (sv : Int)), .int (iI (en : Int))])), (ai, .inl (cA, 24000, .inl (iA fI))), (at_, .inl (cA, 13, .inl (iA fS)))] sz) (qW (S := (Nat → Int)) (fun (z : Int) (fI1 : (Nat → Int)) => (z = 0 ∧ 24000 < d0 + n0 ∧ fI1 = fI) ∨ (z = 1 ∧ d0 + n0 ≤ 24000 ∧ fI1 = va_cpy fI fI s0 d0 n0)) D vwCl [(cp, .inr (2, [.ref ai, .ref at_, .int (iI (sv : Int)), .int (iI (en : Int))])), (ai, .inl (cA, 24000, .inl (iA fI))), (at_, .inl (cA, 13, .inl (iA fS)))] sz (fun fI1 : (Nat → Int) => [(cp, .inr (2, [.ref ai, .ref at_, .int (iI (sv : Int)), .int (iI (en : Int))])), (ai, .inl (cA, 24000, .inl (iA fI1))), (at_, .inl (cA, 13, .inl (iA fS)))])) 0 0 (va_A [(cp, .inr (2, [.ref ai, .ref at_, .int (iI (sv : Int)), .int (iI (en : Int))])), (ai, .inl (cA, 24000, .inl (iA fI))), (at_, .inl (cA, 13, .inl (iA fS)))] sz) := by
  refine Met.ofW (cc := bC_copyRuns) (maxL := 5) (ret := (some .boolean)) (by decide +kernel) rfl ?_
  intro p e s m args below meth c s₁ B hml hv
  obtain ⟨rfl, hsz, hP, hKW, hD0⟩ := hv
  have hK := hKW.1
  have hN := hKW.2.2
  have hx := B.exec
  have hb := B.bytes
  have hr := B.returns
  have hts := atoms_spec (ws := wC_copyRuns) B.pre
  have hown : s.vm.findClass "WindingRaster$ClipPile" = some m.cls := findClass_of_methodNamed B.named
  have hlocks := B.notSynchronized
  subst hsz
  have hD := hD0.self (sz := s.heap.size)
  obtain ⟨A, hAe⟩ : ∃ A, va_A [(cp, .inr (2, [.ref ai, .ref at_, .int (iI (sv : Int)), .int (iI (en : Int))])), (ai, .inl (cA, 24000, .inl (iA fI))), (at_, .inl (cA, 13, .inl (iA fS)))] s.heap.size = A := ⟨_, rfl⟩
  rw [hAe] at hD
  have hA : ∀ q : Nat, s.heap.size ≤ q → A q := fun q h => by rw [← hAe]; exact Or.inr h
  have hS : va_S A s.heap s.heap [] := va_S.rf
  have hP : va_P D vwCl [(cp, .inr (2, [.ref ai, .ref at_, .int (iI (sv : Int)), .int (iI (en : Int))])), (ai, .inl (cA, 24000, .inl (iA fI))), (at_, .inl (cA, 13, .inl (iA fS)))] s.heap := hP
  have in_2 : ∀ w ∈ wsC, w ∈ wC_copyRuns := fun w h => List.mem_cons_of_mem _ (in0_C w h)
  have fl_9 := (hts _ (List.mem_cons_of_mem _ vm_51))
  have ml_51 := (hts _ (List.mem_cons_of_mem _ vm_204))
  have ac_n := (hts _ (List.mem_cons_of_mem _ vm_206))
  have ac_s := (hts _ (List.mem_cons_of_mem _ vm_205))
  have ac_i := (hts _ (List.mem_cons_of_mem _ vm_9))
  have hl := lv_entry ([.ref cp, .ref ai, .int (iI (s0 : Int)), .int (iI (n0 : Int)), .int (iI (d0 : Int))]) (n := 5) (Nat.le_of_ble_eq_true rfl)
  rw [lg_entry_eq]
  generalize (lg_sl ([.ref cp, .ref ai, .int (iI (s0 : Int)), .int (iI (n0 : Int)), .int (iI (d0 : Int))]) ++ List.replicate (5 - (lg_sl ([.ref cp, .ref ai, .int (iI (s0 : Int)), .int (iI (n0 : Int)), .int (iI (d0 : Int))])).length) Slot.unset).toArray = ls at hl ⊢
  have hl : lv_has ls 5 [(0, .ref cp), (1, .ref ai), (2, .int (iI (s0 : Int))), (3, .int (iI (n0 : Int))), (4, .int (iI (d0 : Int)))] := hl
  generalize hQ : MQ below (qW (S := (Nat → Int)) (fun (z : Int) (fI1 : (Nat → Int)) => (z = 0 ∧ 24000 < d0 + n0 ∧ fI1 = fI) ∨ (z = 1 ∧ d0 + n0 ≤ 24000 ∧ fI1 = va_cpy fI fI s0 d0 n0)) D vwCl [(cp, .inr (2, [.ref ai, .ref at_, .int (iI (sv : Int)), .int (iI (en : Int))])), (ai, .inl (cA, 24000, .inl (iA fI))), (at_, .inl (cA, 13, .inl (iA fS)))] s.heap.size (fun fI1 : (Nat → Int) => [(cp, .inr (2, [.ref ai, .ref at_, .int (iI (sv : Int)), .int (iI (en : Int))])), (ai, .inl (cA, 24000, .inl (iA fI1))), (at_, .inl (cA, 13, .inl (iA fS)))])) [.ref cp, .ref ai, .int (iI (s0 : Int)), .int (iI (n0 : Int)), .int (iI (d0 : Int))].toArray s 0 0 (va_A [(cp, .inr (2, [.ref ai, .ref at_, .int (iI (sv : Int)), .int (iI (en : Int))])), (ai, .inl (cA, 24000, .inl (iA fI))), (at_, .inl (cA, 13, .inl (iA fS)))] s.heap.size) = QQ
  refine lv_iload_n hx hb dC_copyRuns_0 rfl (lv_at hl 2 rfl) ?_
  refine ii_if_lt (tgt := 33) hx hb dC_copyRuns_1 (by decide) (by omega) (fun c1 => ?_) (fun c1 => ?_)
  · exfalso; omega
  · refine lv_iload_n hx hb dC_copyRuns_4 rfl (lv_at hl 3 rfl) ?_
    refine ii_if_lt (tgt := 33) hx hb dC_copyRuns_5 (by decide) (by omega) (fun c5 => ?_) (fun c5 => ?_)
    · exfalso; omega
    · refine lv_iload hx hb dC_copyRuns_8 (lv_at hl 4 rfl) ?_
      refine ii_if_lt (tgt := 33) hx hb dC_copyRuns_10 (by decide) (by omega) (fun c10 => ?_) (fun c10 => ?_)
      · exfalso; omega
      · refine lv_iload_n hx hb dC_copyRuns_13 rfl (lv_at hl 3 rfl) ?_
        refine lv_aload_n hx hb dC_copyRuns_14 rfl (lv_at hl 1 rfl) ?_
        refine ii_alen hx hb hK hP 1 0 rfl rfl dC_copyRuns_15 ?_
        refine lv_iload_n hx hb dC_copyRuns_16 rfl (lv_at hl 2 rfl) ?_
        refine ii_isub hx hb dC_copyRuns_17 ?_
        refine ii_icmp_gt (tgt := 33) hx hb dC_copyRuns_18 (by decide) (by omega) (by omega) (fun c18 => ?_) (fun c18 => ?_)
        · exfalso; omega
        · refine lv_iload_n hx hb dC_copyRuns_21 rfl (lv_at hl 3 rfl) ?_
          refine lv_aload_n hx hb dC_copyRuns_22 rfl (lv_at hl 0 rfl) ?_
          refine va_get (ci := 2) (v := .ref ai) (C := "WindingRaster$ClipPile") (T := TC) (N := 4) hx hb hts in_2 hown hK hP 0 rfl rfl 0 (by decide) fl_9 (fun _ h9 => h9) rfl dC_copyRuns_23 ?_
          refine ii_alen hx hb hK hP 1 0 rfl rfl dC_copyRuns_26 ?_
          refine lv_iload hx hb dC_copyRuns_27 (lv_at hl 4 rfl) ?_
          refine ii_isub hx hb dC_copyRuns_29 ?_
          refine ii_icmp_le (tgt := 35) hx hb dC_copyRuns_30 (by decide) (by omega) (by omega) (fun c30 => ?_) (fun c30 => ?_)
          · refine lv_aload_n hx hb dC_copyRuns_35 rfl (lv_at hl 1 rfl) ?_
            refine lv_iload_n hx hb dC_copyRuns_36 rfl (lv_at hl 2 rfl) ?_
            refine lv_aload_n hx hb dC_copyRuns_37 rfl (lv_at hl 0 rfl) ?_
            refine va_get (ci := 2) (v := .ref ai) (C := "WindingRaster$ClipPile") (T := TC) (N := 4) hx hb hts in_2 hown hK hP 0 rfl rfl 0 (by decide) fl_9 (fun _ h9 => h9) rfl dC_copyRuns_38 ?_
            refine lv_iload hx hb dC_copyRuns_41 (lv_at hl 4 rfl) ?_
            refine lv_iload_n hx hb dC_copyRuns_43 rfl (lv_at hl 3 rfl) ?_
            refine ii_copy hx hb (hml.trans hl.1.symm) hown ml_51 ac_n ac_s ac_i hK hP hD hS 1 1 0 rfl rfl rfl s0 d0 n0 (by omega) (by omega) (by omega) (by omega) (by omega) (by omega) (by omega) (Nat.le_of_ble_eq_true rfl) (Nat.le_of_ble_eq_true rfl) dC_copyRuns_44 (fun H locs hP hD hS => ?_)
            have hP : va_P D vwCl [(cp, .inr (2, [.ref ai, .ref at_, .int (iI (sv : Int)), .int (iI (en : Int))])), (ai, .inl (cA, 24000, .inl (iA (va_cpy fI fI s0 d0 n0)))), (at_, .inl (cA, 13, .inl (iA fS)))] H := hP
            have hD : va_D A [(cp, .inr (2, [.ref ai, .ref at_, .int (iI (sv : Int)), .int (iI (en : Int))])), (ai, .inl (cA, 24000, .inl (iA (va_cpy fI fI s0 d0 n0)))), (at_, .inl (cA, 13, .inl (iA fS)))] := hD
            refine ii_iconst (n := 1) hx hb dC_copyRuns_47 ?_
            rw [← hQ]
            exact wr_zret (va_cpy fI fI s0 d0 n0) hx hb hr hlocks (nar_b (by omega)) hAe (hP.sub [0, 1, 2] rfl) (hD.sub [0, 1, 2] (by decide) rfl) hS (Or.inr ⟨rfl, by omega, rfl⟩) dC_copyRuns_48
          · refine ii_iconst (n := 0) hx hb dC_copyRuns_33 ?_
            rw [← hQ]
            exact wr_zret fI hx hb hr hlocks (nar_b (by omega)) hAe (hP.sub [0, 1, 2] rfl) (hD.sub [0, 1, 2] (by decide) rfl) hS (Or.inl ⟨rfl, by omega, rfl⟩) dC_copyRuns_34

def rm_c_copyB : Room := { frames := 1, cells := 0, slots := 0, locals := 48 }
set_option maxHeartbeats 4000000 in
set_option maxRecDepth 100000 in
theorem c_copyB (l : Launch) (D : va_G) (cA cB cS : ClassId) (cp : Nat) (ai : Nat) (at_ : Nat) (fI : Nat → Int) (fS : Nat → Int) (sv : Nat) (en : Nat) (ap : Nat) (fP : Nat → Int) (pm : Nat) (s0 : Nat) (n0 : Nat) (d0 : Nat) (h1 : s0 + n0 ≤ pm) (h2 : d0 ≤ 24000) (h3 : pm < 2147483648) (sz : Nat) : Met l yC_copyRuns wC_copyRuns rm_c_copyB (pW [.ref cp, .ref ap, .int (iI (s0 : Int)), .int (iI (n0 : Int)), .int (iI (d0 : Int))] D vwCl (vwTy cA cB cS) vwNw [(cp, .inr (2, [.ref ai, .ref at_, .int (iI (sv : Int)), .int (iI (en : Int))])), (ai, .inl (cA, 24000, .inl (iA fI))), (at_, .inl (cA, 13, .inl (iA fS))), (ap, .inl (cA, pm, .inl (iA fP)))] sz) (qW (S := (Nat → Int)) (fun (z : Int) (fI1 : (Nat → Int)) => (z = 0 ∧ 24000 < d0 + n0 ∧ fI1 = fI) ∨ (z = 1 ∧ d0 + n0 ≤ 24000 ∧ fI1 = va_cpy fP fI s0 d0 n0)) D vwCl [(cp, .inr (2, [.ref ai, .ref at_, .int (iI (sv : Int)), .int (iI (en : Int))])), (ai, .inl (cA, 24000, .inl (iA fI))), (at_, .inl (cA, 13, .inl (iA fS))), (ap, .inl (cA, pm, .inl (iA fP)))] sz (fun fI1 : (Nat → Int) => [(cp, .inr (2, [.ref ai, .ref at_, .int (iI (sv : Int)), .int (iI (en : Int))])), (ai, .inl (cA, 24000, .inl (iA fI1))), (at_, .inl (cA, 13, .inl (iA fS))), (ap, .inl (cA, pm, .inl (iA fP)))])) 0 0 (va_A [(cp, .inr (2, [.ref ai, .ref at_, .int (iI (sv : Int)), .int (iI (en : Int))])), (ai, .inl (cA, 24000, .inl (iA fI))), (at_, .inl (cA, 13, .inl (iA fS))), (ap, .inl (cA, pm, .inl (iA fP)))] sz) := by
  refine Met.ofW (cc := bC_copyRuns) (maxL := 5) (ret := (some .boolean)) (by decide +kernel) rfl ?_
  intro p e s m args below meth c s₁ B hml hv
  obtain ⟨rfl, hsz, hP, hKW, hD0⟩ := hv
  have hK := hKW.1
  have hN := hKW.2.2
  have hx := B.exec
  have hb := B.bytes
  have hr := B.returns
  have hts := atoms_spec (ws := wC_copyRuns) B.pre
  have hown : s.vm.findClass "WindingRaster$ClipPile" = some m.cls := findClass_of_methodNamed B.named
  have hlocks := B.notSynchronized
  subst hsz
  have hD := hD0.self (sz := s.heap.size)
  obtain ⟨A, hAe⟩ : ∃ A, va_A [(cp, .inr (2, [.ref ai, .ref at_, .int (iI (sv : Int)), .int (iI (en : Int))])), (ai, .inl (cA, 24000, .inl (iA fI))), (at_, .inl (cA, 13, .inl (iA fS))), (ap, .inl (cA, pm, .inl (iA fP)))] s.heap.size = A := ⟨_, rfl⟩
  rw [hAe] at hD
  have hA : ∀ q : Nat, s.heap.size ≤ q → A q := fun q h => by rw [← hAe]; exact Or.inr h
  have hS : va_S A s.heap s.heap [] := va_S.rf
  have hP : va_P D vwCl [(cp, .inr (2, [.ref ai, .ref at_, .int (iI (sv : Int)), .int (iI (en : Int))])), (ai, .inl (cA, 24000, .inl (iA fI))), (at_, .inl (cA, 13, .inl (iA fS))), (ap, .inl (cA, pm, .inl (iA fP)))] s.heap := hP
  have in_2 : ∀ w ∈ wsC, w ∈ wC_copyRuns := fun w h => List.mem_cons_of_mem _ (in0_C w h)
  have fl_9 := (hts _ (List.mem_cons_of_mem _ vm_51))
  have ml_51 := (hts _ (List.mem_cons_of_mem _ vm_204))
  have ac_n := (hts _ (List.mem_cons_of_mem _ vm_206))
  have ac_s := (hts _ (List.mem_cons_of_mem _ vm_205))
  have ac_i := (hts _ (List.mem_cons_of_mem _ vm_9))
  have hl := lv_entry ([.ref cp, .ref ap, .int (iI (s0 : Int)), .int (iI (n0 : Int)), .int (iI (d0 : Int))]) (n := 5) (Nat.le_of_ble_eq_true rfl)
  rw [lg_entry_eq]
  generalize (lg_sl ([.ref cp, .ref ap, .int (iI (s0 : Int)), .int (iI (n0 : Int)), .int (iI (d0 : Int))]) ++ List.replicate (5 - (lg_sl ([.ref cp, .ref ap, .int (iI (s0 : Int)), .int (iI (n0 : Int)), .int (iI (d0 : Int))])).length) Slot.unset).toArray = ls at hl ⊢
  have hl : lv_has ls 5 [(0, .ref cp), (1, .ref ap), (2, .int (iI (s0 : Int))), (3, .int (iI (n0 : Int))), (4, .int (iI (d0 : Int)))] := hl
  generalize hQ : MQ below (qW (S := (Nat → Int)) (fun (z : Int) (fI1 : (Nat → Int)) => (z = 0 ∧ 24000 < d0 + n0 ∧ fI1 = fI) ∨ (z = 1 ∧ d0 + n0 ≤ 24000 ∧ fI1 = va_cpy fP fI s0 d0 n0)) D vwCl [(cp, .inr (2, [.ref ai, .ref at_, .int (iI (sv : Int)), .int (iI (en : Int))])), (ai, .inl (cA, 24000, .inl (iA fI))), (at_, .inl (cA, 13, .inl (iA fS))), (ap, .inl (cA, pm, .inl (iA fP)))] s.heap.size (fun fI1 : (Nat → Int) => [(cp, .inr (2, [.ref ai, .ref at_, .int (iI (sv : Int)), .int (iI (en : Int))])), (ai, .inl (cA, 24000, .inl (iA fI1))), (at_, .inl (cA, 13, .inl (iA fS))), (ap, .inl (cA, pm, .inl (iA fP)))])) [.ref cp, .ref ap, .int (iI (s0 : Int)), .int (iI (n0 : Int)), .int (iI (d0 : Int))].toArray s 0 0 (va_A [(cp, .inr (2, [.ref ai, .ref at_, .int (iI (sv : Int)), .int (iI (en : Int))])), (ai, .inl (cA, 24000, .inl (iA fI))), (at_, .inl (cA, 13, .inl (iA fS))), (ap, .inl (cA, pm, .inl (iA fP)))] s.heap.size) = QQ
  refine lv_iload_n hx hb dC_copyRuns_0 rfl (lv_at hl 2 rfl) ?_
  refine ii_if_lt (tgt := 33) hx hb dC_copyRuns_1 (by decide) (by omega) (fun c1 => ?_) (fun c1 => ?_)
  · exfalso; omega
  · refine lv_iload_n hx hb dC_copyRuns_4 rfl (lv_at hl 3 rfl) ?_
    refine ii_if_lt (tgt := 33) hx hb dC_copyRuns_5 (by decide) (by omega) (fun c5 => ?_) (fun c5 => ?_)
    · exfalso; omega
    · refine lv_iload hx hb dC_copyRuns_8 (lv_at hl 4 rfl) ?_
      refine ii_if_lt (tgt := 33) hx hb dC_copyRuns_10 (by decide) (by omega) (fun c10 => ?_) (fun c10 => ?_)
      · exfalso; omega
      · refine lv_iload_n hx hb dC_copyRuns_13 rfl (lv_at hl 3 rfl) ?_
        refine lv_aload_n hx hb dC_copyRuns_14 rfl (lv_at hl 1 rfl) ?_
        refine ii_alen hx hb hK hP 3 0 rfl rfl dC_copyRuns_15 ?_
        refine lv_iload_n hx hb dC_copyRuns_16 rfl (lv_at hl 2 rfl) ?_
        refine ii_isub hx hb dC_copyRuns_17 ?_
        refine ii_icmp_gt (tgt := 33) hx hb dC_copyRuns_18 (by decide) (by omega) (by omega) (fun c18 => ?_) (fun c18 => ?_)
        · exfalso; omega
        · refine lv_iload_n hx hb dC_copyRuns_21 rfl (lv_at hl 3 rfl) ?_
          refine lv_aload_n hx hb dC_copyRuns_22 rfl (lv_at hl 0 rfl) ?_
          refine va_get (ci := 2) (v := .ref ai) (C := "WindingRaster$ClipPile") (T := TC) (N := 4) hx hb hts in_2 hown hK hP 0 rfl rfl 0 (by decide) fl_9 (fun _ h9 => h9) rfl dC_copyRuns_23 ?_
          refine ii_alen hx hb hK hP 1 0 rfl rfl dC_copyRuns_26 ?_
          refine lv_iload hx hb dC_copyRuns_27 (lv_at hl 4 rfl) ?_
          refine ii_isub hx hb dC_copyRuns_29 ?_
          refine ii_icmp_le (tgt := 35) hx hb dC_copyRuns_30 (by decide) (by omega) (by omega) (fun c30 => ?_) (fun c30 => ?_)
          · refine lv_aload_n hx hb dC_copyRuns_35 rfl (lv_at hl 1 rfl) ?_
            refine lv_iload_n hx hb dC_copyRuns_36 rfl (lv_at hl 2 rfl) ?_
            refine lv_aload_n hx hb dC_copyRuns_37 rfl (lv_at hl 0 rfl) ?_
            refine va_get (ci := 2) (v := .ref ai) (C := "WindingRaster$ClipPile") (T := TC) (N := 4) hx hb hts in_2 hown hK hP 0 rfl rfl 0 (by decide) fl_9 (fun _ h9 => h9) rfl dC_copyRuns_38 ?_
            refine lv_iload hx hb dC_copyRuns_41 (lv_at hl 4 rfl) ?_
            refine lv_iload_n hx hb dC_copyRuns_43 rfl (lv_at hl 3 rfl) ?_
            refine ii_copy hx hb (hml.trans hl.1.symm) hown ml_51 ac_n ac_s ac_i hK hP hD hS 3 1 0 rfl rfl rfl s0 d0 n0 (by omega) (by omega) (by omega) (by omega) (by omega) (by omega) (by omega) (Nat.le_of_ble_eq_true rfl) (Nat.le_of_ble_eq_true rfl) dC_copyRuns_44 (fun H locs hP hD hS => ?_)
            have hP : va_P D vwCl [(cp, .inr (2, [.ref ai, .ref at_, .int (iI (sv : Int)), .int (iI (en : Int))])), (ai, .inl (cA, 24000, .inl (iA (va_cpy fP fI s0 d0 n0)))), (at_, .inl (cA, 13, .inl (iA fS))), (ap, .inl (cA, pm, .inl (iA fP)))] H := hP
            have hD : va_D A [(cp, .inr (2, [.ref ai, .ref at_, .int (iI (sv : Int)), .int (iI (en : Int))])), (ai, .inl (cA, 24000, .inl (iA (va_cpy fP fI s0 d0 n0)))), (at_, .inl (cA, 13, .inl (iA fS))), (ap, .inl (cA, pm, .inl (iA fP)))] := hD
            refine ii_iconst (n := 1) hx hb dC_copyRuns_47 ?_
            rw [← hQ]
            exact wr_zret (va_cpy fP fI s0 d0 n0) hx hb hr hlocks (nar_b (by omega)) hAe (hP.sub [0, 1, 2, 3] rfl) (hD.sub [0, 1, 2, 3] (by decide) rfl) hS (Or.inr ⟨rfl, by omega, rfl⟩) dC_copyRuns_48
          · refine ii_iconst (n := 0) hx hb dC_copyRuns_33 ?_
            rw [← hQ]
            exact wr_zret fI hx hb hr hlocks (nar_b (by omega)) hAe (hP.sub [0, 1, 2, 3] rfl) (hD.sub [0, 1, 2, 3] (by decide) rfl) hS (Or.inl ⟨rfl, by omega, rfl⟩) dC_copyRuns_34

def rm_c_push : Room := { frames := 2, cells := 0, slots := 0, locals := 72 }
set_option maxHeartbeats 4000000 in
set_option maxRecDepth 100000 in
theorem c_push (l : Launch) (D : va_G) (cA cB cS : ClassId) (cp : Nat) (ai : Nat) (at_ : Nat) (fI : Nat → Int) (fS : Nat → Int) (sv : Nat) (en : Nat) (st0 : Nat) (h1 : sv ≤ 12) (h2 : fS sv = (st0 : Int)) (h3 : st0 ≤ en) (h4 : en ≤ 24000) (sz : Nat) : Met l yC_push wC_push rm_c_push (pW [.ref cp] D vwCl (vwTy cA cB cS) vwNw [(cp, .inr (2, [.ref ai, .ref at_, .int (iI (sv : Int)), .int (iI (en : Int))])), (ai, .inl (cA, 24000, .inl (iA fI))), (at_, .inl (cA, 13, .inl (iA fS)))] sz) (qW (S := (Nat → Int) × (Nat → Int) × Nat × Nat) (fun (z : Int) (u : (Nat → Int) × (Nat → Int) × Nat × Nat) => (z = 0 ∧ (12 ≤ sv ∨ 24000 < en + (en - st0)) ∧ u.1 = fI ∧ u.2.1 = fS ∧ u.2.2.1 = sv ∧ u.2.2.2 = en) ∨ (z = 1 ∧ sv < 12 ∧ en + (en - st0) ≤ 24000 ∧ u.1 = va_cpy fI fI st0 en (en - st0) ∧ u.2.1 = uZ fS (sv + 1) (en : Int) ∧ u.2.2.1 = sv + 1 ∧ u.2.2.2 = en + (en - st0))) D vwCl [(cp, .inr (2, [.ref ai, .ref at_, .int (iI (sv : Int)), .int (iI (en : Int))])), (ai, .inl (cA, 24000, .inl (iA fI))), (at_, .inl (cA, 13, .inl (iA fS)))] sz (fun u : (Nat → Int) × (Nat → Int) × Nat × Nat => [(cp, .inr (2, [.ref ai, .ref at_, .int (iI ((u.2.2.1 : Nat) : Int)), .int (iI ((u.2.2.2 : Nat) : Int))])), (ai, .inl (cA, 24000, .inl (iA u.1))), (at_, .inl (cA, 13, .inl (iA u.2.1)))])) 0 0 (va_A [(cp, .inr (2, [.ref ai, .ref at_, .int (iI (sv : Int)), .int (iI (en : Int))])), (ai, .inl (cA, 24000, .inl (iA fI))), (at_, .inl (cA, 13, .inl (iA fS)))] sz) := by
  refine Met.ofW (cc := bC_push) (maxL := 2) (ret := (some .boolean)) (by decide +kernel) rfl ?_
  intro p e s m args below meth c s₁ B hml hv
  obtain ⟨rfl, hsz, hP, hKW, hD0⟩ := hv
  have hK := hKW.1
  have hN := hKW.2.2
  have hx := B.exec
  have hb := B.bytes
  have hr := B.returns
  have hts := atoms_spec (ws := wC_push) B.pre
  have hown : s.vm.findClass "WindingRaster$ClipPile" = some m.cls := findClass_of_methodNamed B.named
  have hlocks := B.notSynchronized
  subst hsz
  have hD := hD0.self (sz := s.heap.size)
  obtain ⟨A, hAe⟩ : ∃ A, va_A [(cp, .inr (2, [.ref ai, .ref at_, .int (iI (sv : Int)), .int (iI (en : Int))])), (ai, .inl (cA, 24000, .inl (iA fI))), (at_, .inl (cA, 13, .inl (iA fS)))] s.heap.size = A := ⟨_, rfl⟩
  rw [hAe] at hD
  have hA : ∀ q : Nat, s.heap.size ≤ q → A q := fun q h => by rw [← hAe]; exact Or.inr h
  have hS : va_S A s.heap s.heap [] := va_S.rf
  have hP : va_P D vwCl [(cp, .inr (2, [.ref ai, .ref at_, .int (iI (sv : Int)), .int (iI (en : Int))])), (ai, .inl (cA, 24000, .inl (iA fI))), (at_, .inl (cA, 13, .inl (iA fS)))] s.heap := hP
  have in_2 : ∀ w ∈ wsC, w ∈ wC_push := fun w h => List.mem_cons_of_mem _ (in0_C w h)
  have fl_30 := (hts _ (List.mem_cons_of_mem _ vm_54))
  have fl_34 := (hts _ (List.mem_cons_of_mem _ vm_53))
  have fl_9 := (hts _ (List.mem_cons_of_mem _ vm_51))
  have fl_15 := (hts _ (List.mem_cons_of_mem _ vm_52))
  have hl := lv_entry ([.ref cp]) (n := 2) (Nat.le_of_ble_eq_true rfl)
  rw [lg_entry_eq]
  generalize (lg_sl ([.ref cp]) ++ List.replicate (2 - (lg_sl ([.ref cp])).length) Slot.unset).toArray = ls at hl ⊢
  have hl : lv_has ls 2 [(0, .ref cp)] := hl
  generalize hQ : MQ below (qW (S := (Nat → Int) × (Nat → Int) × Nat × Nat) (fun (z : Int) (u : (Nat → Int) × (Nat → Int) × Nat × Nat) => (z = 0 ∧ (12 ≤ sv ∨ 24000 < en + (en - st0)) ∧ u.1 = fI ∧ u.2.1 = fS ∧ u.2.2.1 = sv ∧ u.2.2.2 = en) ∨ (z = 1 ∧ sv < 12 ∧ en + (en - st0) ≤ 24000 ∧ u.1 = va_cpy fI fI st0 en (en - st0) ∧ u.2.1 = uZ fS (sv + 1) (en : Int) ∧ u.2.2.1 = sv + 1 ∧ u.2.2.2 = en + (en - st0))) D vwCl [(cp, .inr (2, [.ref ai, .ref at_, .int (iI (sv : Int)), .int (iI (en : Int))])), (ai, .inl (cA, 24000, .inl (iA fI))), (at_, .inl (cA, 13, .inl (iA fS)))] s.heap.size (fun u : (Nat → Int) × (Nat → Int) × Nat × Nat => [(cp, .inr (2, [.ref ai, .ref at_, .int (iI ((u.2.2.1 : Nat) : Int)), .int (iI ((u.2.2.2 : Nat) : Int))])), (ai, .inl (cA, 24000, .inl (iA u.1))), (at_, .inl (cA, 13, .inl (iA u.2.1)))])) [.ref cp].toArray s 0 0 (va_A [(cp, .inr (2, [.ref ai, .ref at_, .int (iI (sv : Int)), .int (iI (en : Int))])), (ai, .inl (cA, 24000, .inl (iA fI))), (at_, .inl (cA, 13, .inl (iA fS)))] s.heap.size) = QQ
  refine lv_aload_n hx hb dC_push_0 rfl (lv_at hl 0 rfl) ?_
  refine va_get (ci := 2) (v := .int (iI (en : Int))) (C := "WindingRaster$ClipPile") (T := TC) (N := 4) hx hb hts in_2 hown hK hP 0 rfl rfl 3 (by decide) fl_30 (fun _ h9 => h9) rfl dC_push_1 ?_
  refine lv_aload_n hx hb dC_push_4 rfl (lv_at hl 0 rfl) ?_
  refine cs_i (va_runV (As := []) (rest := [.int (iI (en : Int))]) ⟨hx, hb, hml, hown, hts⟩ (c_start l D cA cB cS cp ai at_ fI fS sv en st0 (by omega) h2) ⟨(callB_of 0 hts (gIn vm_163) rfl rfl rfl (hts _ (List.mem_cons_of_mem _ vm_5)) (hts _ (List.mem_cons_of_mem _ vm_200)) (by decide +kernel) ⟨Nat.le_of_ble_eq_true rfl, Nat.le_of_ble_eq_true rfl⟩), (hts _ (List.mem_cons_of_mem _ vm_162)), (hts _ (List.mem_cons_of_mem _ vm_408))⟩ (pR.preV (va_recv hK hP (ci := 2) (q0 := 0) rfl rfl) (hP.sub [0, 1, 2] rfl) hKW) rfl rfl hl.1 rfl (lv_room (Nat.le_of_ble_eq_true rfl)) dC_push_5 ⟨Nat.le_of_ble_eq_true rfl, Nat.le_of_ble_eq_true rfl⟩) (fun z_1 hz_1 => ?_)
  subst hz_1
  refine ii_isub hx hb dC_push_8 ?_
  refine ii_top (y := ((en - st0 : Nat) : Int)) (by omega) ?_
  refine lv_istore_n (lv' := [(1, .int (iI ((en - st0 : Nat) : Int))), (0, .ref cp)]) hx hb dC_push_9 rfl hl (by decide) rfl (fun ls hl => ?_)
  refine lv_aload_n hx hb dC_push_10 rfl (lv_at hl 1 rfl) ?_
  refine va_get (ci := 2) (v := .int (iI (sv : Int))) (C := "WindingRaster$ClipPile") (T := TC) (N := 4) hx hb hts in_2 hown hK hP 0 rfl rfl 2 (by decide) fl_34 (fun _ h9 => h9) rfl dC_push_11 ?_
  refine ii_if_lt (tgt := 46) hx hb dC_push_14 (by decide) (by omega) (fun c14 => ?_) (fun c14 => ?_)
  · exfalso; omega
  · refine lv_aload_n hx hb dC_push_17 rfl (lv_at hl 1 rfl) ?_
    refine va_get (ci := 2) (v := .int (iI (sv : Int))) (C := "WindingRaster$ClipPile") (T := TC) (N := 4) hx hb hts in_2 hown hK hP 0 rfl rfl 2 (by decide) fl_34 (fun _ h9 => h9) rfl dC_push_18 ?_
    refine ii_bipush (n := 12) hx hb dC_push_21 (by decide +kernel) ?_
    refine ii_icmp_ge (tgt := 46) hx hb dC_push_23 (by decide) (by omega) (by omega) (fun c23 => ?_) (fun c23 => ?_)
    · refine ii_iconst (n := 0) hx hb dC_push_46 ?_
      rw [← hQ]
      exact wr_zret (fI, fS, sv, en) hx hb hr hlocks (nar_b (by omega)) hAe (hP.sub [0, 1, 2] rfl) (hD.sub [0, 1, 2] (by decide) rfl) hS (Or.inl ⟨rfl, by omega, rfl, rfl, rfl, rfl⟩) dC_push_47
    · refine lv_aload_n hx hb dC_push_26 rfl (lv_at hl 1 rfl) ?_
      refine lv_aload_n hx hb dC_push_27 rfl (lv_at hl 1 rfl) ?_
      refine va_get (ci := 2) (v := .ref ai) (C := "WindingRaster$ClipPile") (T := TC) (N := 4) hx hb hts in_2 hown hK hP 0 rfl rfl 0 (by decide) fl_9 (fun _ h9 => h9) rfl dC_push_28 ?_
      refine lv_aload_n hx hb dC_push_31 rfl (lv_at hl 1 rfl) ?_
      refine cs_i (va_runV (As := []) (rest := [.ref ai, .ref cp]) ⟨hx, hb, hml, hown, hts⟩ (c_start l D cA cB cS cp ai at_ fI fS sv en st0 (by omega) h2) ⟨(callB_of 0 hts (gIn vm_163) rfl rfl rfl (hts _ (List.mem_cons_of_mem _ vm_5)) (hts _ (List.mem_cons_of_mem _ vm_200)) (by decide +kernel) ⟨Nat.le_of_ble_eq_true rfl, Nat.le_of_ble_eq_true rfl⟩), (hts _ (List.mem_cons_of_mem _ vm_162)), (hts _ (List.mem_cons_of_mem _ vm_408))⟩ (pR.preV (va_recv hK hP (ci := 2) (q0 := 0) rfl rfl) (hP.sub [0, 1, 2] rfl) hKW) rfl rfl hl.1 rfl (lv_room (Nat.le_of_ble_eq_true rfl)) dC_push_32 ⟨Nat.le_of_ble_eq_true rfl, Nat.le_of_ble_eq_true rfl⟩) (fun z_2 hz_2 => ?_)
      subst hz_2
      refine lv_iload_n hx hb dC_push_35 rfl (lv_at hl 0 rfl) ?_
      refine lv_aload_n hx hb dC_push_36 rfl (lv_at hl 1 rfl) ?_
      refine va_get (ci := 2) (v := .int (iI (en : Int))) (C := "WindingRaster$ClipPile") (T := TC) (N := 4) hx hb hts in_2 hown hK hP 0 rfl rfl 3 (by decide) fl_30 (fun _ h9 => h9) rfl dC_push_37 ?_
      refine cw_i (wc := [(cp, .inr (2, [.ref ai, .ref at_, .int (iI (sv : Int)), .int (iI (en : Int))])), (ai, .inl (cA, 24000, .inl (iA fI))), (at_, .inl (cA, 13, .inl (iA fS)))]) (wr := []) hP hD hS hA [0, 1, 2] [] rfl rfl (by decide) (by decide) (va_runV (As := [.ref ai, .int (iI (st0 : Int)), .int (iI ((en - st0 : Nat) : Int)), .int (iI (en : Int))]) (rest := []) ⟨hx, hb, hml, hown, hts⟩ (c_copyA l D cA cB cS cp ai at_ fI fS sv en st0 (en - st0) en (by omega) (by omega) _) ⟨(callB_of 4 hts (gIn vm_203) rfl rfl rfl (hts _ (List.mem_cons_of_mem _ vm_5)) (hts _ (List.mem_cons_of_mem _ vm_201)) (by decide +kernel) ⟨Nat.le_of_ble_eq_true rfl, Nat.le_of_ble_eq_true rfl⟩), (hts _ (List.mem_cons_of_mem _ vm_202)), (hts _ (List.mem_cons_of_mem _ vm_416))⟩ (pW.preV (va_recv hK hP (ci := 2) (q0 := 0) rfl rfl) (hP.sub [0, 1, 2] rfl) (hD.sub [0, 1, 2] (by decide) rfl) hKW) rfl rfl hl.1 rfl (lv_room (Nat.le_of_ble_eq_true rfl)) dC_push_40 ⟨Nat.le_of_ble_eq_true rfl, Nat.le_of_ble_eq_true rfl⟩) (fun zk u_3 H locs hzk hP hD hS => ?_)
      obtain ⟨fI1, rfl⟩ : ∃ z_, z_ = u_3 := ⟨_, rfl⟩
      try dsimp only at hzk
      have hP : va_P D vwCl [(cp, .inr (2, [.ref ai, .ref at_, .int (iI (sv : Int)), .int (iI (en : Int))])), (ai, .inl (cA, 24000, .inl (iA fI1))), (at_, .inl (cA, 13, .inl (iA fS)))] H := hP
      have hD : va_D A [(cp, .inr (2, [.ref ai, .ref at_, .int (iI (sv : Int)), .int (iI (en : Int))])), (ai, .inl (cA, 24000, .inl (iA fI1))), (at_, .inl (cA, 13, .inl (iA fS)))] := hD
      refine ii_if_ne (tgt := 48) hx hb dC_push_43 (by decide) (by omega) (fun c43 => ?_) (fun c43 => ?_)
      · obtain ⟨r1, r2⟩ : en + (en - st0) ≤ 24000 ∧ fI1 = va_cpy fI fI st0 en (en - st0) := by
          rcases hzk with ⟨w1, w2, w3⟩ | ⟨w1, w2, w3⟩
          · exfalso; omega
          · exact ⟨w2, w3⟩
        refine lv_aload_n hx hb dC_push_48 rfl (lv_at hl 1 rfl) ?_
        refine lv_dup hx hb dC_push_49 rfl ?_
        refine va_get (ci := 2) (v := .int (iI (sv : Int))) (C := "WindingRaster$ClipPile") (T := TC) (N := 4) hx hb hts in_2 hown hK hP 0 rfl rfl 2 (by decide) fl_34 (fun _ h9 => h9) rfl dC_push_50 ?_
        refine ii_iconst (n := 1) hx hb dC_push_53 ?_
        refine ii_iadd hx hb dC_push_54 ?_
        refine ii_top (y := ((sv + 1 : Nat) : Int)) (by push_cast; rfl) ?_
        refine va_put (ci := 2) (v := .int (iI ((sv + 1 : Nat) : Int))) (ty := .int) (C := "WindingRaster$ClipPile") (T := TC) (N := 4) hx hb hts in_2 tC tC_ok nC hown hK hP hD hS 0 rfl rfl 2 (by decide) fl_34 (fun _ h9 => h9) rfl (by decide +kernel) rfl rfl (Nat.le_of_ble_eq_true rfl) dC_push_55 (fun H locs hP hD hS => ?_)
        have hP : va_P D vwCl [(cp, .inr (2, [.ref ai, .ref at_, .int (iI ((sv + 1 : Nat) : Int)), .int (iI (en : Int))])), (ai, .inl (cA, 24000, .inl (iA fI1))), (at_, .inl (cA, 13, .inl (iA fS)))] H := hP
        have hD : va_D A [(cp, .inr (2, [.ref ai, .ref at_, .int (iI ((sv + 1 : Nat) : Int)), .int (iI (en : Int))])), (ai, .inl (cA, 24000, .inl (iA fI1))), (at_, .inl (cA, 13, .inl (iA fS)))] := hD
        refine lv_aload_n hx hb dC_push_58 rfl (lv_at hl 1 rfl) ?_
        refine va_get (ci := 2) (v := .ref at_) (C := "WindingRaster$ClipPile") (T := TC) (N := 4) hx hb hts in_2 hown hK hP 0 rfl rfl 1 (by decide) fl_15 (fun _ h9 => h9) rfl dC_push_59 ?_
        refine lv_aload_n hx hb dC_push_62 rfl (lv_at hl 1 rfl) ?_
        refine va_get (ci := 2) (v := .int (iI ((sv + 1 : Nat) : Int))) (C := "WindingRaster$ClipPile") (T := TC) (N := 4) hx hb hts in_2 hown hK hP 0 rfl rfl 2 (by decide) fl_34 (fun _ h9 => h9) rfl dC_push_63 ?_
        refine lv_aload_n hx hb dC_push_66 rfl (lv_at hl 1 rfl) ?_
        refine va_get (ci := 2) (v := .int (iI (en : Int))) (C := "WindingRaster$ClipPile") (T := TC) (N := 4) hx hb hts in_2 hown hK hP 0 rfl rfl 3 (by decide) fl_30 (fun _ h9 => h9) rfl dC_push_67 ?_
        refine ii_iast hx hb hK hP hD hS 2 0 rfl rfl (sv + 1) rfl (by omega) (by omega) dC_push_70 (fun H locs hP hD hS => ?_)
        have hP : va_P D vwCl [(cp, .inr (2, [.ref ai, .ref at_, .int (iI ((sv + 1 : Nat) : Int)), .int (iI (en : Int))])), (ai, .inl (cA, 24000, .inl (iA fI1))), (at_, .inl (cA, 13, .inl (iA (uZ fS (sv + 1) (en : Int)))))] H := hP
        have hD : va_D A [(cp, .inr (2, [.ref ai, .ref at_, .int (iI ((sv + 1 : Nat) : Int)), .int (iI (en : Int))])), (ai, .inl (cA, 24000, .inl (iA fI1))), (at_, .inl (cA, 13, .inl (iA (uZ fS (sv + 1) (en : Int)))))] := hD
        refine lv_aload_n hx hb dC_push_71 rfl (lv_at hl 1 rfl) ?_
        refine lv_dup hx hb dC_push_72 rfl ?_
        refine va_get (ci := 2) (v := .int (iI (en : Int))) (C := "WindingRaster$ClipPile") (T := TC) (N := 4) hx hb hts in_2 hown hK hP 0 rfl rfl 3 (by decide) fl_30 (fun _ h9 => h9) rfl dC_push_73 ?_
        refine lv_iload_n hx hb dC_push_76 rfl (lv_at hl 0 rfl) ?_
        refine ii_iadd hx hb dC_push_77 ?_
        refine ii_top (y := ((en + (en - st0) : Nat) : Int)) (by push_cast; rfl) ?_
        refine va_put (ci := 2) (v := .int (iI ((en + (en - st0) : Nat) : Int))) (ty := .int) (C := "WindingRaster$ClipPile") (T := TC) (N := 4) hx hb hts in_2 tC tC_ok nC hown hK hP hD hS 0 rfl rfl 3 (by decide) fl_30 (fun _ h9 => h9) rfl (by decide +kernel) rfl rfl (Nat.le_of_ble_eq_true rfl) dC_push_78 (fun H locs hP hD hS => ?_)
        have hP : va_P D vwCl [(cp, .inr (2, [.ref ai, .ref at_, .int (iI ((sv + 1 : Nat) : Int)), .int (iI ((en + (en - st0) : Nat) : Int))])), (ai, .inl (cA, 24000, .inl (iA fI1))), (at_, .inl (cA, 13, .inl (iA (uZ fS (sv + 1) (en : Int)))))] H := hP
        have hD : va_D A [(cp, .inr (2, [.ref ai, .ref at_, .int (iI ((sv + 1 : Nat) : Int)), .int (iI ((en + (en - st0) : Nat) : Int))])), (ai, .inl (cA, 24000, .inl (iA fI1))), (at_, .inl (cA, 13, .inl (iA (uZ fS (sv + 1) (en : Int)))))] := hD
        refine ii_iconst (n := 1) hx hb dC_push_81 ?_
        rw [← hQ]
        exact wr_zret (fI1, uZ fS (sv + 1) (en : Int), sv + 1, en + (en - st0)) hx hb hr hlocks (nar_b (by omega)) hAe (hP.sub [0, 1, 2] rfl) (hD.sub [0, 1, 2] (by decide) rfl) hS (Or.inr ⟨rfl, by omega, r1, r2, rfl, rfl, rfl⟩) dC_push_82
      · obtain ⟨r1, r2⟩ : 24000 < en + (en - st0) ∧ fI1 = fI := by
          rcases hzk with ⟨w1, w2, w3⟩ | ⟨w1, w2, w3⟩
          · exact ⟨w2, w3⟩
          · exfalso; omega
        refine ii_iconst (n := 0) hx hb dC_push_46 ?_
        rw [← hQ]
        exact wr_zret (fI1, fS, sv, en) hx hb hr hlocks (nar_b (by omega)) hAe (hP.sub [0, 1, 2] rfl) (hD.sub [0, 1, 2] (by decide) rfl) hS (Or.inl ⟨rfl, by omega, r2, rfl, rfl, rfl⟩) dC_push_47

def rm_c_pop : Room := { frames := 1, cells := 0, slots := 0, locals := 20 }
set_option maxHeartbeats 4000000 in
set_option maxRecDepth 100000 in
theorem c_pop (l : Launch) (D : va_G) (cA cB cS : ClassId) (cp : Nat) (ai : Nat) (at_ : Nat) (fI : Nat → Int) (fS : Nat → Int) (sv : Nat) (en : Nat) (st0 : Nat) (h1 : sv ≤ 12) (h2 : fS sv = (st0 : Int)) (sz : Nat) : Met l yC_pop wC_pop rm_c_pop (pW [.ref cp] D vwCl (vwTy cA cB cS) vwNw [(cp, .inr (2, [.ref ai, .ref at_, .int (iI (sv : Int)), .int (iI (en : Int))])), (ai, .inl (cA, 24000, .inl (iA fI))), (at_, .inl (cA, 13, .inl (iA fS)))] sz) (qW (S := Nat × Nat) (fun (z : Int) (u : Nat × Nat) => (z = 0 ∧ sv = 0 ∧ u.1 = sv ∧ u.2 = en) ∨ (z = 1 ∧ 0 < sv ∧ u.1 = sv - 1 ∧ u.2 = st0)) D vwCl [(cp, .inr (2, [.ref ai, .ref at_, .int (iI (sv : Int)), .int (iI (en : Int))])), (ai, .inl (cA, 24000, .inl (iA fI))), (at_, .inl (cA, 13, .inl (iA fS)))] sz (fun u : Nat × Nat => [(cp, .inr (2, [.ref ai, .ref at_, .int (iI ((u.1 : Nat) : Int)), .int (iI ((u.2 : Nat) : Int))])), (ai, .inl (cA, 24000, .inl (iA fI))), (at_, .inl (cA, 13, .inl (iA fS)))])) 0 0 (va_A [(cp, .inr (2, [.ref ai, .ref at_, .int (iI (sv : Int)), .int (iI (en : Int))])), (ai, .inl (cA, 24000, .inl (iA fI))), (at_, .inl (cA, 13, .inl (iA fS)))] sz) := by
  refine Met.ofW (cc := bC_pop) (maxL := 1) (ret := (some .boolean)) (by decide +kernel) rfl ?_
  intro p e s m args below meth c s₁ B hml hv
  obtain ⟨rfl, hsz, hP, hKW, hD0⟩ := hv
  have hK := hKW.1
  have hN := hKW.2.2
  have hx := B.exec
  have hb := B.bytes
  have hr := B.returns
  have hts := atoms_spec (ws := wC_pop) B.pre
  have hown : s.vm.findClass "WindingRaster$ClipPile" = some m.cls := findClass_of_methodNamed B.named
  have hlocks := B.notSynchronized
  subst hsz
  have hD := hD0.self (sz := s.heap.size)
  obtain ⟨A, hAe⟩ : ∃ A, va_A [(cp, .inr (2, [.ref ai, .ref at_, .int (iI (sv : Int)), .int (iI (en : Int))])), (ai, .inl (cA, 24000, .inl (iA fI))), (at_, .inl (cA, 13, .inl (iA fS)))] s.heap.size = A := ⟨_, rfl⟩
  rw [hAe] at hD
  have hA : ∀ q : Nat, s.heap.size ≤ q → A q := fun q h => by rw [← hAe]; exact Or.inr h
  have hS : va_S A s.heap s.heap [] := va_S.rf
  have hP : va_P D vwCl [(cp, .inr (2, [.ref ai, .ref at_, .int (iI (sv : Int)), .int (iI (en : Int))])), (ai, .inl (cA, 24000, .inl (iA fI))), (at_, .inl (cA, 13, .inl (iA fS)))] s.heap := hP
  have in_2 : ∀ w ∈ wsC, w ∈ wC_pop := fun w h => List.mem_cons_of_mem _ (in0_C w h)
  have fl_34 := (hts _ (List.mem_cons_of_mem _ vm_53))
  have fl_30 := (hts _ (List.mem_cons_of_mem _ vm_54))
  have hl := lv_entry ([.ref cp]) (n := 1) (Nat.le_of_ble_eq_true rfl)
  rw [lg_entry_eq]
  generalize (lg_sl ([.ref cp]) ++ List.replicate (1 - (lg_sl ([.ref cp])).length) Slot.unset).toArray = ls at hl ⊢
  have hl : lv_has ls 1 [(0, .ref cp)] := hl
  generalize hQ : MQ below (qW (S := Nat × Nat) (fun (z : Int) (u : Nat × Nat) => (z = 0 ∧ sv = 0 ∧ u.1 = sv ∧ u.2 = en) ∨ (z = 1 ∧ 0 < sv ∧ u.1 = sv - 1 ∧ u.2 = st0)) D vwCl [(cp, .inr (2, [.ref ai, .ref at_, .int (iI (sv : Int)), .int (iI (en : Int))])), (ai, .inl (cA, 24000, .inl (iA fI))), (at_, .inl (cA, 13, .inl (iA fS)))] s.heap.size (fun u : Nat × Nat => [(cp, .inr (2, [.ref ai, .ref at_, .int (iI ((u.1 : Nat) : Int)), .int (iI ((u.2 : Nat) : Int))])), (ai, .inl (cA, 24000, .inl (iA fI))), (at_, .inl (cA, 13, .inl (iA fS)))])) [.ref cp].toArray s 0 0 (va_A [(cp, .inr (2, [.ref ai, .ref at_, .int (iI (sv : Int)), .int (iI (en : Int))])), (ai, .inl (cA, 24000, .inl (iA fI))), (at_, .inl (cA, 13, .inl (iA fS)))] s.heap.size) = QQ
  refine lv_aload_n hx hb dC_pop_0 rfl (lv_at hl 0 rfl) ?_
  refine va_get (ci := 2) (v := .int (iI (sv : Int))) (C := "WindingRaster$ClipPile") (T := TC) (N := 4) hx hb hts in_2 hown hK hP 0 rfl rfl 2 (by decide) fl_34 (fun _ h9 => h9) rfl dC_pop_1 ?_
  refine ii_if_gt (tgt := 9) hx hb dC_pop_4 (by decide) (by omega) (fun c4 => ?_) (fun c4 => ?_)
  · refine lv_aload_n hx hb dC_pop_9 rfl (lv_at hl 0 rfl) ?_
    refine lv_aload_n hx hb dC_pop_10 rfl (lv_at hl 0 rfl) ?_
    refine cs_i (va_runV (As := []) (rest := [.ref cp]) ⟨hx, hb, hml, hown, hts⟩ (c_start l D cA cB cS cp ai at_ fI fS sv en st0 (by omega) h2) ⟨(callB_of 0 hts (gIn vm_163) rfl rfl rfl (hts _ (List.mem_cons_of_mem _ vm_5)) (hts _ (List.mem_cons_of_mem _ vm_200)) (by decide +kernel) ⟨Nat.le_of_ble_eq_true rfl, Nat.le_of_ble_eq_true rfl⟩), (hts _ (List.mem_cons_of_mem _ vm_162)), (hts _ (List.mem_cons_of_mem _ vm_408))⟩ (pR.preV (va_recv hK hP (ci := 2) (q0 := 0) rfl rfl) (hP.sub [0, 1, 2] rfl) hKW) rfl rfl hl.1 rfl (lv_room (Nat.le_of_ble_eq_true rfl)) dC_pop_11 ⟨Nat.le_of_ble_eq_true rfl, Nat.le_of_ble_eq_true rfl⟩) (fun z_1 hz_1 => ?_)
    subst hz_1
    refine va_put (ci := 2) (v := .int (iI (st0 : Int))) (ty := .int) (C := "WindingRaster$ClipPile") (T := TC) (N := 4) hx hb hts in_2 tC tC_ok nC hown hK hP hD hS 0 rfl rfl 3 (by decide) fl_30 (fun _ h9 => h9) rfl (by decide +kernel) rfl rfl (Nat.le_of_ble_eq_true rfl) dC_pop_14 (fun H locs hP hD hS => ?_)
    have hP : va_P D vwCl [(cp, .inr (2, [.ref ai, .ref at_, .int (iI (sv : Int)), .int (iI (st0 : Int))])), (ai, .inl (cA, 24000, .inl (iA fI))), (at_, .inl (cA, 13, .inl (iA fS)))] H := hP
    have hD : va_D A [(cp, .inr (2, [.ref ai, .ref at_, .int (iI (sv : Int)), .int (iI (st0 : Int))])), (ai, .inl (cA, 24000, .inl (iA fI))), (at_, .inl (cA, 13, .inl (iA fS)))] := hD
    refine lv_aload_n hx hb dC_pop_17 rfl (lv_at hl 0 rfl) ?_
    refine lv_dup hx hb dC_pop_18 rfl ?_
    refine va_get (ci := 2) (v := .int (iI (sv : Int))) (C := "WindingRaster$ClipPile") (T := TC) (N := 4) hx hb hts in_2 hown hK hP 0 rfl rfl 2 (by decide) fl_34 (fun _ h9 => h9) rfl dC_pop_19 ?_
    refine ii_iconst (n := 1) hx hb dC_pop_22 ?_
    refine ii_isub hx hb dC_pop_23 ?_
    refine ii_top (y := ((sv - 1 : Nat) : Int)) (by omega) ?_
    refine va_put (ci := 2) (v := .int (iI ((sv - 1 : Nat) : Int))) (ty := .int) (C := "WindingRaster$ClipPile") (T := TC) (N := 4) hx hb hts in_2 tC tC_ok nC hown hK hP hD hS 0 rfl rfl 2 (by decide) fl_34 (fun _ h9 => h9) rfl (by decide +kernel) rfl rfl (Nat.le_of_ble_eq_true rfl) dC_pop_24 (fun H locs hP hD hS => ?_)
    have hP : va_P D vwCl [(cp, .inr (2, [.ref ai, .ref at_, .int (iI ((sv - 1 : Nat) : Int)), .int (iI (st0 : Int))])), (ai, .inl (cA, 24000, .inl (iA fI))), (at_, .inl (cA, 13, .inl (iA fS)))] H := hP
    have hD : va_D A [(cp, .inr (2, [.ref ai, .ref at_, .int (iI ((sv - 1 : Nat) : Int)), .int (iI (st0 : Int))])), (ai, .inl (cA, 24000, .inl (iA fI))), (at_, .inl (cA, 13, .inl (iA fS)))] := hD
    refine ii_iconst (n := 1) hx hb dC_pop_27 ?_
    rw [← hQ]
    exact wr_zret (sv - 1, st0) hx hb hr hlocks (nar_b (by omega)) hAe (hP.sub [0, 1, 2] rfl) (hD.sub [0, 1, 2] (by decide) rfl) hS (Or.inr ⟨rfl, by omega, rfl, rfl⟩) dC_pop_28
  · refine ii_iconst (n := 0) hx hb dC_pop_7 ?_
    rw [← hQ]
    exact wr_zret (sv, en) hx hb hr hlocks (nar_b (by omega)) hAe (hP.sub [0, 1, 2] rfl) (hD.sub [0, 1, 2] (by decide) rfl) hS (Or.inl ⟨rfl, by omega, rfl, rfl⟩) dC_pop_8

def rm_c_replace : Room := { frames := 2, cells := 0, slots := 0, locals := 72 }
set_option maxHeartbeats 4000000 in
set_option maxRecDepth 100000 in
theorem c_replace (l : Launch) (D : va_G) (cA cB cS : ClassId) (cp : Nat) (ai : Nat) (at_ : Nat) (fI : Nat → Int) (fS : Nat → Int) (sv : Nat) (en : Nat) (pl : Nat) (ap : Nat) (fP : Nat → Int) (pn : Nat) (pm : Nat) (st0 : Nat) (h1 : sv ≤ 12) (h2 : fS sv = (st0 : Int)) (h3 : st0 ≤ 24000) (h4 : pn ≤ pm) (h5 : pm < 2147483648) (sz : Nat) : Met l yC_replace wC_replace rm_c_replace (pW [.ref cp, .ref pl] D vwCl (vwTy cA cB cS) vwNw [(cp, .inr (2, [.ref ai, .ref at_, .int (iI (sv : Int)), .int (iI (en : Int))])), (ai, .inl (cA, 24000, .inl (iA fI))), (at_, .inl (cA, 13, .inl (iA fS))), (pl, .inr (3, [.ref ap, .int (iI (pn : Int))])), (ap, .inl (cA, pm, .inl (iA fP)))] sz) (qW (S := (Nat → Int) × Nat) (fun (z : Int) (u : (Nat → Int) × Nat) => (z = 0 ∧ 24000 < st0 + pn ∧ u.1 = fI ∧ u.2 = en) ∨ (z = 1 ∧ st0 + pn ≤ 24000 ∧ u.1 = va_cpy fP fI 0 st0 pn ∧ u.2 = st0 + pn)) D vwCl [(cp, .inr (2, [.ref ai, .ref at_, .int (iI (sv : Int)), .int (iI (en : Int))])), (ai, .inl (cA, 24000, .inl (iA fI))), (at_, .inl (cA, 13, .inl (iA fS))), (pl, .inr (3, [.ref ap, .int (iI (pn : Int))])), (ap, .inl (cA, pm, .inl (iA fP)))] sz (fun u : (Nat → Int) × Nat => [(cp, .inr (2, [.ref ai, .ref at_, .int (iI (sv : Int)), .int (iI ((u.2 : Nat) : Int))])), (ai, .inl (cA, 24000, .inl (iA u.1))), (at_, .inl (cA, 13, .inl (iA fS))), (pl, .inr (3, [.ref ap, .int (iI (pn : Int))])), (ap, .inl (cA, pm, .inl (iA fP)))])) 0 0 (va_A [(cp, .inr (2, [.ref ai, .ref at_, .int (iI (sv : Int)), .int (iI (en : Int))])), (ai, .inl (cA, 24000, .inl (iA fI))), (at_, .inl (cA, 13, .inl (iA fS))), (pl, .inr (3, [.ref ap, .int (iI (pn : Int))])), (ap, .inl (cA, pm, .inl (iA fP)))] sz) := by
  refine Met.ofW (cc := bC_replace) (maxL := 2) (ret := (some .boolean)) (by decide +kernel) rfl ?_
  intro p e s m args below meth c s₁ B hml hv
  obtain ⟨rfl, hsz, hP, hKW, hD0⟩ := hv
  have hK := hKW.1
  have hN := hKW.2.2
  have hx := B.exec
  have hb := B.bytes
  have hr := B.returns
  have hts := atoms_spec (ws := wC_replace) B.pre
  have hown : s.vm.findClass "WindingRaster$ClipPile" = some m.cls := findClass_of_methodNamed B.named
  have hlocks := B.notSynchronized
  subst hsz
  have hD := hD0.self (sz := s.heap.size)
  obtain ⟨A, hAe⟩ : ∃ A, va_A [(cp, .inr (2, [.ref ai, .ref at_, .int (iI (sv : Int)), .int (iI (en : Int))])), (ai, .inl (cA, 24000, .inl (iA fI))), (at_, .inl (cA, 13, .inl (iA fS))), (pl, .inr (3, [.ref ap, .int (iI (pn : Int))])), (ap, .inl (cA, pm, .inl (iA fP)))] s.heap.size = A := ⟨_, rfl⟩
  rw [hAe] at hD
  have hA : ∀ q : Nat, s.heap.size ≤ q → A q := fun q h => by rw [← hAe]; exact Or.inr h
  have hS : va_S A s.heap s.heap [] := va_S.rf
  have hP : va_P D vwCl [(cp, .inr (2, [.ref ai, .ref at_, .int (iI (sv : Int)), .int (iI (en : Int))])), (ai, .inl (cA, 24000, .inl (iA fI))), (at_, .inl (cA, 13, .inl (iA fS))), (pl, .inr (3, [.ref ap, .int (iI (pn : Int))])), (ap, .inl (cA, pm, .inl (iA fP)))] s.heap := hP
  have in_3 : ∀ w ∈ wsL, w ∈ wC_replace := fun w h => List.mem_cons_of_mem _ (in0_L w h)
  have fl_45 := va_Nw.use (A := [.ref cp, .ref pl].toArray) rfl (hN _ vn_8)
  have fl_48 := va_Nw.use (A := [.ref cp, .ref pl].toArray) rfl (hN _ vn_10)
  have in_2 : ∀ w ∈ wsC, w ∈ wC_replace := fun w h => List.mem_cons_of_mem _ (in0_C w h)
  have fl_30 := (hts _ (List.mem_cons_of_mem _ vm_54))
  have hl := lv_entry ([.ref cp, .ref pl]) (n := 2) (Nat.le_of_ble_eq_true rfl)
  rw [lg_entry_eq]
  generalize (lg_sl ([.ref cp, .ref pl]) ++ List.replicate (2 - (lg_sl ([.ref cp, .ref pl])).length) Slot.unset).toArray = ls at hl ⊢
  have hl : lv_has ls 2 [(0, .ref cp), (1, .ref pl)] := hl
  generalize hQ : MQ below (qW (S := (Nat → Int) × Nat) (fun (z : Int) (u : (Nat → Int) × Nat) => (z = 0 ∧ 24000 < st0 + pn ∧ u.1 = fI ∧ u.2 = en) ∨ (z = 1 ∧ st0 + pn ≤ 24000 ∧ u.1 = va_cpy fP fI 0 st0 pn ∧ u.2 = st0 + pn)) D vwCl [(cp, .inr (2, [.ref ai, .ref at_, .int (iI (sv : Int)), .int (iI (en : Int))])), (ai, .inl (cA, 24000, .inl (iA fI))), (at_, .inl (cA, 13, .inl (iA fS))), (pl, .inr (3, [.ref ap, .int (iI (pn : Int))])), (ap, .inl (cA, pm, .inl (iA fP)))] s.heap.size (fun u : (Nat → Int) × Nat => [(cp, .inr (2, [.ref ai, .ref at_, .int (iI (sv : Int)), .int (iI ((u.2 : Nat) : Int))])), (ai, .inl (cA, 24000, .inl (iA u.1))), (at_, .inl (cA, 13, .inl (iA fS))), (pl, .inr (3, [.ref ap, .int (iI (pn : Int))])), (ap, .inl (cA, pm, .inl (iA fP)))])) [.ref cp, .ref pl].toArray s 0 0 (va_A [(cp, .inr (2, [.ref ai, .ref at_, .int (iI (sv : Int)), .int (iI (en : Int))])), (ai, .inl (cA, 24000, .inl (iA fI))), (at_, .inl (cA, 13, .inl (iA fS))), (pl, .inr (3, [.ref ap, .int (iI (pn : Int))])), (ap, .inl (cA, pm, .inl (iA fP)))] s.heap.size) = QQ
  refine lv_aload_n hx hb dC_replace_0 rfl (lv_at hl 0 rfl) ?_
  refine lv_aload_n hx hb dC_replace_1 rfl (lv_at hl 1 rfl) ?_
  refine va_getN (ci := 3) (v := .ref ap) (C := "WindingRaster$RunList") (T := TL) (N := 2) hx hb hts in_3 hown hK hP 3 rfl rfl 0 (by decide) fl_45 (fun _ h9 => h9) rfl dC_replace_2 ?_
  refine ii_iconst (n := 0) hx hb dC_replace_5 ?_
  refine lv_aload_n hx hb dC_replace_6 rfl (lv_at hl 1 rfl) ?_
  refine va_getN (ci := 3) (v := .int (iI (pn : Int))) (C := "WindingRaster$RunList") (T := TL) (N := 2) hx hb hts in_3 hown hK hP 3 rfl rfl 1 (by decide) fl_48 (fun _ h9 => h9) rfl dC_replace_7 ?_
  refine lv_aload_n hx hb dC_replace_10 rfl (lv_at hl 0 rfl) ?_
  refine cs_i (va_runV (As := []) (rest := [.int (iI (pn : Int)), .int (iI 0), .ref ap, .ref cp]) ⟨hx, hb, hml, hown, hts⟩ (c_start l D cA cB cS cp ai at_ fI fS sv en st0 (by omega) h2) ⟨(callB_of 0 hts (gIn vm_163) rfl rfl rfl (hts _ (List.mem_cons_of_mem _ vm_5)) (hts _ (List.mem_cons_of_mem _ vm_200)) (by decide +kernel) ⟨Nat.le_of_ble_eq_true rfl, Nat.le_of_ble_eq_true rfl⟩), (hts _ (List.mem_cons_of_mem _ vm_162)), (hts _ (List.mem_cons_of_mem _ vm_408))⟩ (pR.preV (va_recv hK hP (ci := 2) (q0 := 0) rfl rfl) (hP.sub [0, 1, 2] rfl) hKW) rfl rfl hl.1 rfl (lv_room (Nat.le_of_ble_eq_true rfl)) dC_replace_11 ⟨Nat.le_of_ble_eq_true rfl, Nat.le_of_ble_eq_true rfl⟩) (fun z_1 hz_1 => ?_)
  subst hz_1
  refine cw_i (wc := [(cp, .inr (2, [.ref ai, .ref at_, .int (iI (sv : Int)), .int (iI (en : Int))])), (ai, .inl (cA, 24000, .inl (iA fI))), (at_, .inl (cA, 13, .inl (iA fS))), (ap, .inl (cA, pm, .inl (iA fP)))]) (wr := [(pl, .inr (3, [.ref ap, .int (iI (pn : Int))]))]) hP hD hS hA [0, 1, 2, 4] [3] rfl rfl (by decide) (by decide) (va_runV (As := [.ref ap, .int (iI 0), .int (iI (pn : Int)), .int (iI (st0 : Int))]) (rest := []) ⟨hx, hb, hml, hown, hts⟩ (c_copyB l D cA cB cS cp ai at_ fI fS sv en ap fP pm 0 pn st0 (by omega) (by omega) (by omega) _) ⟨(callB_of 4 hts (gIn vm_203) rfl rfl rfl (hts _ (List.mem_cons_of_mem _ vm_5)) (hts _ (List.mem_cons_of_mem _ vm_201)) (by decide +kernel) ⟨Nat.le_of_ble_eq_true rfl, Nat.le_of_ble_eq_true rfl⟩), (hts _ (List.mem_cons_of_mem _ vm_202)), (hts _ (List.mem_cons_of_mem _ vm_416))⟩ (pW.preV (va_recv hK hP (ci := 2) (q0 := 0) rfl rfl) (hP.sub [0, 1, 2, 4] rfl) (hD.sub [0, 1, 2, 4] (by decide) rfl) hKW) rfl rfl hl.1 rfl (lv_room (Nat.le_of_ble_eq_true rfl)) dC_replace_14 ⟨Nat.le_of_ble_eq_true rfl, Nat.le_of_ble_eq_true rfl⟩) (fun zk u_2 H locs hzk hP hD hS => ?_)
  obtain ⟨fI1, rfl⟩ : ∃ z_, z_ = u_2 := ⟨_, rfl⟩
  try dsimp only at hzk
  have hP : va_P D vwCl [(pl, .inr (3, [.ref ap, .int (iI (pn : Int))])), (cp, .inr (2, [.ref ai, .ref at_, .int (iI (sv : Int)), .int (iI (en : Int))])), (ai, .inl (cA, 24000, .inl (iA fI1))), (at_, .inl (cA, 13, .inl (iA fS))), (ap, .inl (cA, pm, .inl (iA fP)))] H := hP
  have hD : va_D A [(pl, .inr (3, [.ref ap, .int (iI (pn : Int))])), (cp, .inr (2, [.ref ai, .ref at_, .int (iI (sv : Int)), .int (iI (en : Int))])), (ai, .inl (cA, 24000, .inl (iA fI1))), (at_, .inl (cA, 13, .inl (iA fS))), (ap, .inl (cA, pm, .inl (iA fP)))] := hD
  refine ii_if_ne (tgt := 22) hx hb dC_replace_17 (by decide) (by omega) (fun c17 => ?_) (fun c17 => ?_)
  · obtain ⟨r1, r2⟩ : st0 + pn ≤ 24000 ∧ fI1 = va_cpy fP fI 0 st0 pn := by
      rcases hzk with ⟨w1, w2, w3⟩ | ⟨w1, w2, w3⟩
      · exfalso; omega
      · exact ⟨w2, w3⟩
    refine lv_aload_n hx hb dC_replace_22 rfl (lv_at hl 0 rfl) ?_
    refine lv_aload_n hx hb dC_replace_23 rfl (lv_at hl 0 rfl) ?_
    refine cs_i (va_runV (As := []) (rest := [.ref cp]) ⟨hx, hb, hml, hown, hts⟩ (c_start l D cA cB cS cp ai at_ fI1 fS sv en st0 (by omega) h2) ⟨(callB_of 0 hts (gIn vm_163) rfl rfl rfl (hts _ (List.mem_cons_of_mem _ vm_5)) (hts _ (List.mem_cons_of_mem _ vm_200)) (by decide +kernel) ⟨Nat.le_of_ble_eq_true rfl, Nat.le_of_ble_eq_true rfl⟩), (hts _ (List.mem_cons_of_mem _ vm_162)), (hts _ (List.mem_cons_of_mem _ vm_408))⟩ (pR.preV (va_recv hK hP (ci := 2) (q0 := 1) rfl rfl) (hP.sub [1, 2, 3] rfl) hKW) rfl rfl hl.1 rfl (lv_room (Nat.le_of_ble_eq_true rfl)) dC_replace_24 ⟨Nat.le_of_ble_eq_true rfl, Nat.le_of_ble_eq_true rfl⟩) (fun z_3 hz_3 => ?_)
    subst hz_3
    refine lv_aload_n hx hb dC_replace_27 rfl (lv_at hl 1 rfl) ?_
    refine va_getN (ci := 3) (v := .int (iI (pn : Int))) (C := "WindingRaster$RunList") (T := TL) (N := 2) hx hb hts in_3 hown hK hP 0 rfl rfl 1 (by decide) fl_48 (fun _ h9 => h9) rfl dC_replace_28 ?_
    refine ii_iadd hx hb dC_replace_31 ?_
    refine ii_top (y := ((st0 + pn : Nat) : Int)) (by push_cast; rfl) ?_
    refine va_put (ci := 2) (v := .int (iI ((st0 + pn : Nat) : Int))) (ty := .int) (C := "WindingRaster$ClipPile") (T := TC) (N := 4) hx hb hts in_2 tC tC_ok nC hown hK hP hD hS 1 rfl rfl 3 (by decide) fl_30 (fun _ h9 => h9) rfl (by decide +kernel) rfl rfl (Nat.le_of_ble_eq_true rfl) dC_replace_32 (fun H locs hP hD hS => ?_)
    have hP : va_P D vwCl [(pl, .inr (3, [.ref ap, .int (iI (pn : Int))])), (cp, .inr (2, [.ref ai, .ref at_, .int (iI (sv : Int)), .int (iI ((st0 + pn : Nat) : Int))])), (ai, .inl (cA, 24000, .inl (iA fI1))), (at_, .inl (cA, 13, .inl (iA fS))), (ap, .inl (cA, pm, .inl (iA fP)))] H := hP
    have hD : va_D A [(pl, .inr (3, [.ref ap, .int (iI (pn : Int))])), (cp, .inr (2, [.ref ai, .ref at_, .int (iI (sv : Int)), .int (iI ((st0 + pn : Nat) : Int))])), (ai, .inl (cA, 24000, .inl (iA fI1))), (at_, .inl (cA, 13, .inl (iA fS))), (ap, .inl (cA, pm, .inl (iA fP)))] := hD
    refine ii_iconst (n := 1) hx hb dC_replace_35 ?_
    rw [← hQ]
    exact wr_zret (fI1, st0 + pn) hx hb hr hlocks (nar_b (by omega)) hAe (hP.sub [1, 2, 3, 0, 4] rfl) (hD.sub [1, 2, 3, 0, 4] (by decide) rfl) hS (Or.inr ⟨rfl, r1, r2, rfl⟩) dC_replace_36
  · obtain ⟨r1, r2⟩ : 24000 < st0 + pn ∧ fI1 = fI := by
      rcases hzk with ⟨w1, w2, w3⟩ | ⟨w1, w2, w3⟩
      · exact ⟨w2, w3⟩
      · exfalso; omega
    refine ii_iconst (n := 0) hx hb dC_replace_20 ?_
    rw [← hQ]
    exact wr_zret (fI1, en) hx hb hr hlocks (nar_b (by omega)) hAe (hP.sub [1, 2, 3, 0, 4] rfl) (hD.sub [1, 2, 3, 0, 4] (by decide) rfl) hS (Or.inl ⟨rfl, r1, r2, rfl⟩) dC_replace_21

def rm_c_has : Room := { frames := 1, cells := 0, slots := 0, locals := 21 }
set_option maxHeartbeats 4000000 in
set_option maxRecDepth 100000 in
theorem c_has (l : Launch) (D : va_G) (cA cB cS : ClassId) (cp : Nat) (ai : Nat) (at_ : Nat) (fI : Nat → Int) (fS : Nat → Int) (sv : Nat) (en : Nat) (st0 : Nat) (kc : Nat) (kr : Nat) (L : List Run3) (cs : Nat) (rs : Nat) (h1 : sv ≤ 12) (h2 : fS sv = (st0 : Int)) (h3 : segL fI st0 L) (h4 : st0 + L.length = en) (h5 : ∀ x ∈ L, runOk cs rs x) (h6 : cs ≤ 256) (h7 : rs ≤ 256) (h8 : en ≤ 24000) (h9 : kc < 256 ∧ kr < 256) : Met l yC_has wC_has rm_c_has (pR [.ref cp, .int (iI (kc : Int)), .int (iI (kr : Int))] D vwCl (vwTy cA cB cS) vwNw [(cp, .inr (2, [.ref ai, .ref at_, .int (iI (sv : Int)), .int (iI (en : Int))])), (ai, .inl (cA, 24000, .inl (iA fI))), (at_, .inl (cA, 13, .inl (iA fS)))]) (qI (fun z => (z = 1 ∧ (memL L kr kc)) ∨ (z = 0 ∧ ¬ (memL L kr kc)))) 0 0 (fun _ => False) := by
  refine Met.ofW (cc := bC_has) (maxL := 5) (ret := (some .boolean)) (by decide +kernel) rfl ?_
  intro p e s m args below meth c s₁ B hml hv
  obtain ⟨rfl, hP, hKW⟩ := hv
  have hK := hKW.1
  have hN := hKW.2.2
  have hx := B.exec
  have hb := B.bytes
  have hr := B.returns
  have hts := atoms_spec (ws := wC_has) B.pre
  have hown : s.vm.findClass "WindingRaster$ClipPile" = some m.cls := findClass_of_methodNamed B.named
  have hlocks := B.notSynchronized
  have hP : va_P D vwCl [(cp, .inr (2, [.ref ai, .ref at_, .int (iI (sv : Int)), .int (iI (en : Int))])), (ai, .inl (cA, 24000, .inl (iA fI))), (at_, .inl (cA, 13, .inl (iA fS)))] s.heap := hP
  have in_2 : ∀ w ∈ wsC, w ∈ wC_has := fun w h => List.mem_cons_of_mem _ (in0_C w h)
  have fl_30 := (hts _ (List.mem_cons_of_mem _ vm_54))
  have hl := lv_entry ([.ref cp, .int (iI (kc : Int)), .int (iI (kr : Int))]) (n := 5) (Nat.le_of_ble_eq_true rfl)
  rw [lg_entry_eq]
  generalize (lg_sl ([.ref cp, .int (iI (kc : Int)), .int (iI (kr : Int))]) ++ List.replicate (5 - (lg_sl ([.ref cp, .int (iI (kc : Int)), .int (iI (kr : Int))])).length) Slot.unset).toArray = ls at hl ⊢
  have hl : lv_has ls 5 [(0, .ref cp), (1, .int (iI (kc : Int))), (2, .int (iI (kr : Int)))] := hl
  generalize hQ : MQ below (qI (fun z => (z = 1 ∧ (memL L kr kc)) ∨ (z = 0 ∧ ¬ (memL L kr kc)))) [.ref cp, .int (iI (kc : Int)), .int (iI (kr : Int))].toArray s 0 0 (fun _ => False) = QQ
  refine lv_aload_n hx hb dC_has_0 rfl (lv_at hl 0 rfl) ?_
  refine cs_i (va_runV (As := []) (rest := []) ⟨hx, hb, hml, hown, hts⟩ (c_start l D cA cB cS cp ai at_ fI fS sv en st0 (by omega) h2) ⟨(callB_of 0 hts (gIn vm_163) rfl rfl rfl (hts _ (List.mem_cons_of_mem _ vm_5)) (hts _ (List.mem_cons_of_mem _ vm_200)) (by decide +kernel) ⟨Nat.le_of_ble_eq_true rfl, Nat.le_of_ble_eq_true rfl⟩), (hts _ (List.mem_cons_of_mem _ vm_162)), (hts _ (List.mem_cons_of_mem _ vm_408))⟩ (pR.preV (va_recv hK hP (ci := 2) (q0 := 0) rfl rfl) (hP.sub [0, 1, 2] rfl) hKW) rfl rfl hl.1 rfl (lv_room (Nat.le_of_ble_eq_true rfl)) dC_has_1 ⟨Nat.le_of_ble_eq_true rfl, Nat.le_of_ble_eq_true rfl⟩) (fun z_1 hz_1 => ?_)
  subst hz_1
  refine lv_istore_n (lv' := [(3, .int (iI (st0 : Int))), (0, .ref cp), (1, .int (iI (kc : Int))), (2, .int (iI (kr : Int)))]) hx hb dC_has_4 rfl hl (by decide) rfl (fun ls hl => ?_)
  have lp5 : ∀ (n_ : Nat) (i : Nat) (T : List Run3), (segL fI i T) → (i + T.length = en) → (∀ x ∈ T, runOk cs rs x) → (memL L kr kc ↔ memL T kr kc) → (T.length) < n_ → ∀ ls : Array Slot, lv_has ls 5 [(3, .int (iI (i : Int))), (0, .ref cp), (1, .int (iI (kc : Int))), (2, .int (iI (kr : Int)))] → W p l e (headSpec wC_has rm_c_has).room s m [.ref cp, .int (iI (kc : Int)), .int (iI (kr : Int))].toArray below meth c s.heap [] 0 0 QQ (F0 m 5 ls []) := by
    intro n_
    induction n_ with
    | zero =>
      intro i T i1 i2 i3 i4 hm_
      exact absurd hm_ (Nat.not_lt_zero _)
    | succ n_ ih_lp5 =>
      intro i T i1 i2 i3 i4 hm_lp5 ls hl
      refine lv_iload_n hx hb dC_has_5 rfl (lv_at hl 0 rfl) ?_
      refine lv_aload_n hx hb dC_has_6 rfl (lv_at hl 1 rfl) ?_
      refine va_get (ci := 2) (v := .int (iI (en : Int))) (C := "WindingRaster$ClipPile") (T := TC) (N := 4) hx hb hts in_2 hown hK hP 0 rfl rfl 3 (by decide) fl_30 (fun _ h9 => h9) rfl dC_has_7 ?_
      refine ii_icmp_ge (tgt := 55) hx hb dC_has_10 (by decide) (by omega) (by omega) (fun c10 => ?_) (fun c10 => ?_)
      · refine ii_iconst (n := 0) hx hb dC_has_55 ?_
        rw [← hQ]
        exact rd_zret hx hb hr hlocks (nar_b (by omega)) (Or.inr ⟨rfl, fun q => by rw [i4, List.eq_nil_of_length_eq_zero (l := T) (by omega)] at q; exact memL_nil _ _ q⟩) dC_has_56
      · obtain ⟨x, T1, hT⟩ : ∃ x T1, T = x :: T1 := by
          cases T with
          | nil => exact absurd i2 (by rw [List.length_nil]; omega)
          | cons x T1 => exact ⟨x, T1, rfl⟩
        subst hT
        obtain ⟨hs1, hs2⟩ := i1
        have hok := i3 x List.mem_cons_self
        have e1 := enc_row hok h6
        have e2 := enc_from hok h6
        have e3 := enc_end hok h6
        have e4 := enc_lt hok h6 h7
        rw [List.length_cons] at i2
        have hok2 := hok.2.1
        refine lv_aload_n hx hb dC_has_13 rfl (lv_at hl 1 rfl) ?_
        refine lv_iload_n hx hb dC_has_14 rfl (lv_at hl 0 rfl) ?_
        refine cs_i (va_runV (As := [.int (iI (i : Int))]) (rest := []) ⟨hx, hb, hml, hown, hts⟩ (c_runAt l D cA cB cS cp ai at_ fI fS sv en i (enc x) (by omega) (by omega) hs1) ⟨(callB_of 1 hts (gIn vm_165) rfl rfl rfl (hts _ (List.mem_cons_of_mem _ vm_5)) (hts _ (List.mem_cons_of_mem _ vm_209)) (by decide +kernel) ⟨Nat.le_of_ble_eq_true rfl, Nat.le_of_ble_eq_true rfl⟩), (hts _ (List.mem_cons_of_mem _ vm_164)), (hts _ (List.mem_cons_of_mem _ vm_409))⟩ (pR.preV (va_recv hK hP (ci := 2) (q0 := 0) rfl rfl) (hP.sub [0, 1, 2] rfl) hKW) rfl rfl hl.1 rfl (lv_room (Nat.le_of_ble_eq_true rfl)) dC_has_15 ⟨Nat.le_of_ble_eq_true rfl, Nat.le_of_ble_eq_true rfl⟩) (fun z_2 hz_2 => ?_)
        subst hz_2
        refine lv_istore (lv' := [(4, .int (iI ((enc x : Nat) : Int))), (3, .int (iI (i : Int))), (0, .ref cp), (1, .int (iI (kc : Int))), (2, .int (iI (kr : Int)))]) hx hb dC_has_18 hl (by decide) rfl (fun ls hl => ?_)
        refine lv_iload hx hb dC_has_20 (lv_at hl 0 rfl) ?_
        refine cs_i (va_runSN (As := [.int (iI ((enc x : Nat) : Int))]) (rest := []) ⟨hx, hb, hml, hown, hts⟩ (c_rowOf l D cA cB cS (enc x) (by omega)) ⟨(va_cnB 1 hts (gIn vm_167) rfl rfl rfl (hN _ vn_33) (hts _ (List.mem_cons_of_mem _ vm_6)) (by decide +kernel) ⟨Nat.le_of_ble_eq_true rfl, Nat.le_of_ble_eq_true rfl⟩), (hts _ (List.mem_cons_of_mem _ vm_166)), trivial⟩ (pR.pre (hP.sub [] rfl) hKW) rfl rfl hl.1 rfl (lv_room (Nat.le_of_ble_eq_true rfl)) dC_has_22 ⟨Nat.le_of_ble_eq_true rfl, Nat.le_of_ble_eq_true rfl⟩) (fun z_3 hz_3 => ?_)
        subst hz_3
        refine lv_iload_n hx hb dC_has_25 rfl (lv_at hl 4 rfl) ?_
        refine ii_icmp_ne (tgt := 49) hx hb dC_has_26 (by decide) (by omega) (by omega) (fun c26 => ?_) (fun c26 => ?_)
        · refine lv_iinc (v := iI ((i + 1 : Nat) : Int)) (lv' := [(3, .int (iI ((i + 1 : Nat) : Int))), (4, .int (iI ((enc x : Nat) : Int))), (0, .ref cp), (1, .int (iI (kc : Int))), (2, .int (iI (kr : Int)))]) hx hb dC_has_49 hl (k := 1) rfl (iI_inc _ 1 (by omega)) (by decide) rfl (fun ls hl => ?_)
          refine lv_goto (tgt := 5) hx hb dC_has_52 (by decide) ?_
          exact ih_lp5 (i + 1) T1 hs2 (by omega) (fun y hy => i3 y (List.mem_cons_of_mem _ hy)) (i4.trans ((memL_cons x T1 kr kc).trans ⟨fun q => q.resolve_left (fun w => by omega), Or.inr⟩)) (by rw [List.length_cons] at hm_lp5; omega) _ (lv_sub hl [0, 2, 3, 4] rfl)
        · refine lv_iload hx hb dC_has_29 (lv_at hl 0 rfl) ?_
          refine cs_i (va_runSN (As := [.int (iI ((enc x : Nat) : Int))]) (rest := []) ⟨hx, hb, hml, hown, hts⟩ (c_fromOf l D cA cB cS (enc x) (by omega)) ⟨(va_cnB 1 hts (gIn vm_178) rfl rfl rfl (hN _ vn_34) (hts _ (List.mem_cons_of_mem _ vm_6)) (by decide +kernel) ⟨Nat.le_of_ble_eq_true rfl, Nat.le_of_ble_eq_true rfl⟩), (hts _ (List.mem_cons_of_mem _ vm_177)), trivial⟩ (pR.pre (hP.sub [] rfl) hKW) rfl rfl hl.1 rfl (lv_room (Nat.le_of_ble_eq_true rfl)) dC_has_31 ⟨Nat.le_of_ble_eq_true rfl, Nat.le_of_ble_eq_true rfl⟩) (fun z_4 hz_4 => ?_)
          subst hz_4
          refine lv_iload_n hx hb dC_has_34 rfl (lv_at hl 3 rfl) ?_
          refine ii_icmp_gt (tgt := 49) hx hb dC_has_35 (by decide) (by omega) (by omega) (fun c35 => ?_) (fun c35 => ?_)
          · refine lv_iinc (v := iI ((i + 1 : Nat) : Int)) (lv' := [(3, .int (iI ((i + 1 : Nat) : Int))), (4, .int (iI ((enc x : Nat) : Int))), (0, .ref cp), (1, .int (iI (kc : Int))), (2, .int (iI (kr : Int)))]) hx hb dC_has_49 hl (k := 1) rfl (iI_inc _ 1 (by omega)) (by decide) rfl (fun ls hl => ?_)
            refine lv_goto (tgt := 5) hx hb dC_has_52 (by decide) ?_
            exact ih_lp5 (i + 1) T1 hs2 (by omega) (fun y hy => i3 y (List.mem_cons_of_mem _ hy)) (i4.trans ((memL_cons x T1 kr kc).trans ⟨fun q => q.resolve_left (fun w => by omega), Or.inr⟩)) (by rw [List.length_cons] at hm_lp5; omega) _ (lv_sub hl [0, 2, 3, 4] rfl)
          · refine lv_iload_n hx hb dC_has_38 rfl (lv_at hl 3 rfl) ?_
            refine lv_iload hx hb dC_has_39 (lv_at hl 0 rfl) ?_
            refine cs_i (va_runSN (As := [.int (iI ((enc x : Nat) : Int))]) (rest := [.int (iI (kc : Int))]) ⟨hx, hb, hml, hown, hts⟩ (c_endOf l D cA cB cS (enc x) (by omega)) ⟨(va_cnB 1 hts (gIn vm_176) rfl rfl rfl (hN _ vn_35) (hts _ (List.mem_cons_of_mem _ vm_6)) (by decide +kernel) ⟨Nat.le_of_ble_eq_true rfl, Nat.le_of_ble_eq_true rfl⟩), (hts _ (List.mem_cons_of_mem _ vm_175)), trivial⟩ (pR.pre (hP.sub [] rfl) hKW) rfl rfl hl.1 rfl (lv_room (Nat.le_of_ble_eq_true rfl)) dC_has_41 ⟨Nat.le_of_ble_eq_true rfl, Nat.le_of_ble_eq_true rfl⟩) (fun z_5 hz_5 => ?_)
            subst hz_5
            refine ii_icmp_ge (tgt := 49) hx hb dC_has_44 (by decide) (by omega) (by omega) (fun c44 => ?_) (fun c44 => ?_)
            · refine lv_iinc (v := iI ((i + 1 : Nat) : Int)) (lv' := [(3, .int (iI ((i + 1 : Nat) : Int))), (4, .int (iI ((enc x : Nat) : Int))), (0, .ref cp), (1, .int (iI (kc : Int))), (2, .int (iI (kr : Int)))]) hx hb dC_has_49 hl (k := 1) rfl (iI_inc _ 1 (by omega)) (by decide) rfl (fun ls hl => ?_)
              refine lv_goto (tgt := 5) hx hb dC_has_52 (by decide) ?_
              exact ih_lp5 (i + 1) T1 hs2 (by omega) (fun y hy => i3 y (List.mem_cons_of_mem _ hy)) (i4.trans ((memL_cons x T1 kr kc).trans ⟨fun q => q.resolve_left (fun w => by omega), Or.inr⟩)) (by rw [List.length_cons] at hm_lp5; omega) _ (lv_sub hl [0, 2, 3, 4] rfl)
            · refine ii_iconst (n := 1) hx hb dC_has_47 ?_
              rw [← hQ]
              exact rd_zret hx hb hr hlocks (nar_b (by omega)) (Or.inl ⟨rfl, i4.mpr ((memL_cons x T1 kr kc).mpr (Or.inl ⟨by omega, by omega, by omega⟩))⟩) dC_has_48
  exact lp5 (L.length + 1) st0 L h3 h4 h5 Iff.rfl (Nat.lt_succ_self _) _ (lv_sub hl [0, 1, 2, 3] rfl)

def rm_c_pixelCount : Room := { frames := 2, cells := 0, slots := 0, locals := 40 }
set_option maxHeartbeats 4000000 in
set_option maxRecDepth 100000 in
theorem c_pixelCount (l : Launch) (D : va_G) (cA cB cS : ClassId) (cp : Nat) (ai : Nat) (at_ : Nat) (fI : Nat → Int) (fS : Nat → Int) (sv : Nat) (en : Nat) (st0 : Nat) (L : List Run3) (cs : Nat) (rs : Nat) (h1 : sv ≤ 12) (h2 : fS sv = (st0 : Int)) (h3 : segL fI st0 L) (h4 : st0 + L.length = en) (h5 : ∀ x ∈ L, runOk cs rs x) (h6 : cs ≤ 256) (h7 : rs ≤ 256) (h8 : en ≤ 24000) : Met l yC_pixelCount wC_pixelCount rm_c_pixelCount (pR [.ref cp] D vwCl (vwTy cA cB cS) vwNw [(cp, .inr (2, [.ref ai, .ref at_, .int (iI (sv : Int)), .int (iI (en : Int))])), (ai, .inl (cA, 24000, .inl (iA fI))), (at_, .inl (cA, 13, .inl (iA fS)))]) (qI (fun z => z = ((lenS L : Nat) : Int))) 0 0 (fun _ => False) := by
  refine Met.ofW (cc := bC_pixelCount) (maxL := 3) (ret := (some .int)) (by decide +kernel) rfl ?_
  intro p e s m args below meth c s₁ B hml hv
  obtain ⟨rfl, hP, hKW⟩ := hv
  have hK := hKW.1
  have hN := hKW.2.2
  have hx := B.exec
  have hb := B.bytes
  have hr := B.returns
  have hts := atoms_spec (ws := wC_pixelCount) B.pre
  have hown : s.vm.findClass "WindingRaster$ClipPile" = some m.cls := findClass_of_methodNamed B.named
  have hlocks := B.notSynchronized
  have hP : va_P D vwCl [(cp, .inr (2, [.ref ai, .ref at_, .int (iI (sv : Int)), .int (iI (en : Int))])), (ai, .inl (cA, 24000, .inl (iA fI))), (at_, .inl (cA, 13, .inl (iA fS)))] s.heap := hP
  have in_2 : ∀ w ∈ wsC, w ∈ wC_pixelCount := fun w h => List.mem_cons_of_mem _ (in0_C w h)
  have fl_30 := (hts _ (List.mem_cons_of_mem _ vm_54))
  have hl := lv_entry ([.ref cp]) (n := 3) (Nat.le_of_ble_eq_true rfl)
  rw [lg_entry_eq]
  generalize (lg_sl ([.ref cp]) ++ List.replicate (3 - (lg_sl ([.ref cp])).length) Slot.unset).toArray = ls at hl ⊢
  have hl : lv_has ls 3 [(0, .ref cp)] := hl
  generalize hQ : MQ below (qI (fun z => z = ((lenS L : Nat) : Int))) [.ref cp].toArray s 0 0 (fun _ => False) = QQ
  refine ii_iconst (n := 0) hx hb dC_pixelCount_0 ?_
  refine lv_istore_n (lv' := [(1, .int (iI 0)), (0, .ref cp)]) hx hb dC_pixelCount_1 rfl hl (by decide) rfl (fun ls hl => ?_)
  refine lv_aload_n hx hb dC_pixelCount_2 rfl (lv_at hl 1 rfl) ?_
  refine cs_i (va_runV (As := []) (rest := []) ⟨hx, hb, hml, hown, hts⟩ (c_start l D cA cB cS cp ai at_ fI fS sv en st0 (by omega) h2) ⟨(callB_of 0 hts (gIn vm_163) rfl rfl rfl (hts _ (List.mem_cons_of_mem _ vm_5)) (hts _ (List.mem_cons_of_mem _ vm_200)) (by decide +kernel) ⟨Nat.le_of_ble_eq_true rfl, Nat.le_of_ble_eq_true rfl⟩), (hts _ (List.mem_cons_of_mem _ vm_162)), (hts _ (List.mem_cons_of_mem _ vm_408))⟩ (pR.preV (va_recv hK hP (ci := 2) (q0 := 0) rfl rfl) (hP.sub [0, 1, 2] rfl) hKW) rfl rfl hl.1 rfl (lv_room (Nat.le_of_ble_eq_true rfl)) dC_pixelCount_3 ⟨Nat.le_of_ble_eq_true rfl, Nat.le_of_ble_eq_true rfl⟩) (fun z_1 hz_1 => ?_)
  subst hz_1
  refine lv_istore_n (lv' := [(2, .int (iI (st0 : Int))), (1, .int (iI 0)), (0, .ref cp)]) hx hb dC_pixelCount_6 rfl hl (by decide) rfl (fun ls hl => ?_)
  have lp7 : ∀ (n_ : Nat) (i : Nat) (T : List Run3) (sm_ : Nat), (segL fI i T) → (i + T.length = en) → (∀ x ∈ T, runOk cs rs x) → (sm_ + lenS T = lenS L) → (T.length) < n_ → ∀ ls : Array Slot, lv_has ls 3 [(2, .int (iI (i : Int))), (1, .int (iI (sm_ : Int))), (0, .ref cp)] → W p l e (headSpec wC_pixelCount rm_c_pixelCount).room s m [.ref cp].toArray below meth c s.heap [] 0 0 QQ (F0 m 7 ls []) := by
    intro n_
    induction n_ with
    | zero =>
      intro i T sm_ i1 i2 i3 i4 hm_
      exact absurd hm_ (Nat.not_lt_zero _)
    | succ n_ ih_lp7 =>
      intro i T sm_ i1 i2 i3 i4 hm_lp7 ls hl
      refine lv_iload_n hx hb dC_pixelCount_7 rfl (lv_at hl 0 rfl) ?_
      refine lv_aload_n hx hb dC_pixelCount_8 rfl (lv_at hl 2 rfl) ?_
      refine va_get (ci := 2) (v := .int (iI (en : Int))) (C := "WindingRaster$ClipPile") (T := TC) (N := 4) hx hb hts in_2 hown hK hP 0 rfl rfl 3 (by decide) fl_30 (fun _ h9 => h9) rfl dC_pixelCount_9 ?_
      refine ii_icmp_ge (tgt := 32) hx hb dC_pixelCount_12 (by decide) (by omega) (by omega) (fun c12 => ?_) (fun c12 => ?_)
      · refine lv_iload_n hx hb dC_pixelCount_32 rfl (lv_at hl 1 rfl) ?_
        rw [← hQ]
        exact rd_iret hx hb hr hlocks (by rw [List.eq_nil_of_length_eq_zero (l := T) (by omega)] at i4; have e5 : lenS [] = 0 := rfl; omega) dC_pixelCount_33
      · obtain ⟨x, T1, hT⟩ : ∃ x T1, T = x :: T1 := by
          cases T with
          | nil => exact absurd i2 (by rw [List.length_nil]; omega)
          | cons x T1 => exact ⟨x, T1, rfl⟩
        subst hT
        obtain ⟨hs1, hs2⟩ := i1
        have hok := i3 x List.mem_cons_self
        have e1 := enc_row hok h6
        have e2 := enc_from hok h6
        have e3 := enc_end hok h6
        have e4 := enc_lt hok h6 h7
        rw [List.length_cons] at i2
        have hok2 := hok.2.1
        refine lv_iload_n hx hb dC_pixelCount_15 rfl (lv_at hl 1 rfl) ?_
        refine lv_aload_n hx hb dC_pixelCount_16 rfl (lv_at hl 2 rfl) ?_
        refine lv_iload_n hx hb dC_pixelCount_17 rfl (lv_at hl 0 rfl) ?_
        refine cs_i (va_runV (As := [.int (iI (i : Int))]) (rest := [.int (iI (sm_ : Int))]) ⟨hx, hb, hml, hown, hts⟩ (c_runAt l D cA cB cS cp ai at_ fI fS sv en i (enc x) (by omega) (by omega) hs1) ⟨(callB_of 1 hts (gIn vm_165) rfl rfl rfl (hts _ (List.mem_cons_of_mem _ vm_5)) (hts _ (List.mem_cons_of_mem _ vm_209)) (by decide +kernel) ⟨Nat.le_of_ble_eq_true rfl, Nat.le_of_ble_eq_true rfl⟩), (hts _ (List.mem_cons_of_mem _ vm_164)), (hts _ (List.mem_cons_of_mem _ vm_409))⟩ (pR.preV (va_recv hK hP (ci := 2) (q0 := 0) rfl rfl) (hP.sub [0, 1, 2] rfl) hKW) rfl rfl hl.1 rfl (lv_room (Nat.le_of_ble_eq_true rfl)) dC_pixelCount_18 ⟨Nat.le_of_ble_eq_true rfl, Nat.le_of_ble_eq_true rfl⟩) (fun z_2 hz_2 => ?_)
        subst hz_2
        refine cs_i (va_runSN (As := [.int (iI ((enc x : Nat) : Int))]) (rest := [.int (iI (sm_ : Int))]) ⟨hx, hb, hml, hown, hts⟩ (c_lengthOf l D cA cB cS (enc x) (by omega) (by omega)) ⟨(va_cnB 1 hts (gIn vm_191) rfl rfl rfl (hN _ vn_29) (hts _ (List.mem_cons_of_mem _ vm_6)) (by decide +kernel) ⟨Nat.le_of_ble_eq_true rfl, Nat.le_of_ble_eq_true rfl⟩), (hts _ (List.mem_cons_of_mem _ vm_190)), trivial⟩ (pR.pre (hP.sub [] rfl) hKW) rfl rfl hl.1 rfl (lv_room (Nat.le_of_ble_eq_true rfl)) dC_pixelCount_21 ⟨Nat.le_of_ble_eq_true rfl, Nat.le_of_ble_eq_true rfl⟩) (fun z_3 hz_3 => ?_)
        subst hz_3
        refine ii_iadd hx hb dC_pixelCount_24 ?_
        refine ii_top (y := ((sm_ + ((enc x) % 512 - (enc x) / 512 % 512) : Nat) : Int)) (by push_cast; rfl) ?_
        refine lv_istore_n (lv' := [(1, .int (iI ((sm_ + ((enc x) % 512 - (enc x) / 512 % 512) : Nat) : Int))), (2, .int (iI (i : Int))), (0, .ref cp)]) hx hb dC_pixelCount_25 rfl hl (by decide) rfl (fun ls hl => ?_)
        refine lv_iinc (v := iI ((i + 1 : Nat) : Int)) (lv' := [(2, .int (iI ((i + 1 : Nat) : Int))), (1, .int (iI ((sm_ + ((enc x) % 512 - (enc x) / 512 % 512) : Nat) : Int))), (0, .ref cp)]) hx hb dC_pixelCount_26 hl (k := 1) rfl (iI_inc _ 1 (by omega)) (by decide) rfl (fun ls hl => ?_)
        refine lv_goto (tgt := 7) hx hb dC_pixelCount_29 (by decide) ?_
        exact ih_lp7 (i + 1) T1 (sm_ + ((enc x) % 512 - (enc x) / 512 % 512)) hs2 (by omega) (fun y hy => i3 y (List.mem_cons_of_mem _ hy)) (by have e5 : lenS (x :: T1) = (x.2.2 - x.2.1) + lenS T1 := rfl; omega) (by rw [List.length_cons] at hm_lp7; omega) _ (lv_sub hl [0, 1, 2] rfl)
  exact lp7 (L.length + 1) st0 L 0 h3 h4 h5 (Nat.zero_add _) (Nat.lt_succ_self _) _ (lv_sub hl [0, 1, 2] rfl)
