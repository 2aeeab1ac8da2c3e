def rm_m_next : Room := { frames := 0, cells := 0, slots := 0, locals := 0 }
set_option maxHeartbeats 4000000 in
set_option maxRecDepth 100000 in
theorem m_next (l : Launch) (D : va_G) (cA cB cS : ClassId) (mo : Nat) (cs : Nat) (rs : Nat) (mg : Nat) (mm : Nat) (mx : Nat) (my : Nat) (mf : Nat) (mt : Nat) (fB : Nat → Int) (fM : Nat → Int) (gX : Nat → Int) (gY : Nat → Int) (gF : Nat → Int) (gT : Nat → Int) (mv : Nat) (mp : Nat) (me : Nat) (pp : Nat) (h1 : pp < mp) (h2 : mp ≤ 4096) (hf : firM gF mp) : Met l yM_next wM_next rm_m_next (pR [.ref mo, .int (iI (pp : Int))] D vwCl (vwTy cA cB cS) vwNw [(mo, .inr (4, [.int (iI (cs : Int)), .int (iI (rs : Int)), .ref mg, .ref mm, .int (iI (mv : Int)), .ref mx, .ref my, .ref mf, .int (iI (mp : Int)), .ref mt, .int (iI (me : Int))])), (mg, .inl (cB, 65536, .inl (iA fB))), (mm, .inl (cS, 65536, .inl (iA fM))), (mx, .inl (cA, 4096, .inl (iA gX))), (my, .inl (cA, 4096, .inl (iA gY))), (mf, .inl (cA, 4096, .inl (iA gF))), (mt, .inl (cA, 4096, .inl (iA gT)))]) (qI (fun z => z = ((nxM gF mp pp : Nat) : Int))) 0 0 (fun _ => False) := by
  refine Met.ofW (cc := bM_next) (maxL := 2) (ret := (some .int)) (by decide +kernel) rfl ?_
  intro p e s m args below meth c s₁ B hml hv
  obtain ⟨rfl, hP, hKW⟩ := hv
  have hK := hKW.1
  have hN := hKW.2.2
  have hx := B.exec
  have hb := B.bytes
  have hr := B.returns
  have hts := atoms_spec (ws := wM_next) B.pre
  have hown : s.vm.findClass "WindingRasterModel" = some m.cls := findClass_of_methodNamed B.named
  have hlocks := B.notSynchronized
  have hP : va_P D vwCl [(mo, .inr (4, [.int (iI (cs : Int)), .int (iI (rs : Int)), .ref mg, .ref mm, .int (iI (mv : Int)), .ref mx, .ref my, .ref mf, .int (iI (mp : Int)), .ref mt, .int (iI (me : Int))])), (mg, .inl (cB, 65536, .inl (iA fB))), (mm, .inl (cS, 65536, .inl (iA fM))), (mx, .inl (cA, 4096, .inl (iA gX))), (my, .inl (cA, 4096, .inl (iA gY))), (mf, .inl (cA, 4096, .inl (iA gF))), (mt, .inl (cA, 4096, .inl (iA gT)))] s.heap := hP
  have in_4 : ∀ w ∈ wsM, w ∈ wM_next := fun w h => List.mem_cons_of_mem _ (in0_M w h)
  have fl_46 := (hts _ (List.mem_cons_of_mem _ vm_269))
  have fl_25 := (hts _ (List.mem_cons_of_mem _ vm_268))
  have hl := lv_entry ([.ref mo, .int (iI (pp : Int))]) (n := 2) (Nat.le_of_ble_eq_true rfl)
  rw [lg_entry_eq]
  generalize (lg_sl ([.ref mo, .int (iI (pp : Int))]) ++ List.replicate (2 - (lg_sl ([.ref mo, .int (iI (pp : Int))])).length) Slot.unset).toArray = ls at hl ⊢
  have hl : lv_has ls 2 [(0, .ref mo), (1, .int (iI (pp : Int)))] := hl
  generalize hQ : MQ below (qI (fun z => z = ((nxM gF mp pp : Nat) : Int))) [.ref mo, .int (iI (pp : Int))].toArray s 0 0 (fun _ => False) = QQ
  have gf0 := hf pp h1
  refine lv_iload_n hx hb dM_next_0 rfl (lv_at hl 1 rfl) ?_
  refine ii_iconst (n := 1) hx hb dM_next_1 ?_
  refine ii_iadd hx hb dM_next_2 ?_
  refine ii_top (y := ((pp + 1 : Nat) : Int)) (by push_cast; rfl) ?_
  refine lv_aload_n hx hb dM_next_3 rfl (lv_at hl 0 rfl) ?_
  refine va_get (ci := 4) (v := .int (iI (mp : Int))) (C := "WindingRasterModel") (T := TM) (N := 11) hx hb hts in_4 hown hK hP 0 rfl rfl 8 (by decide) fl_46 (fun _ h9 => h9) rfl dM_next_4 ?_
  refine ii_icmp_ge (tgt := 33) hx hb dM_next_7 (by decide) (by omega) (by omega) (fun c7 => ?_) (fun c7 => ?_)
  · refine lv_aload_n hx hb dM_next_33 rfl (lv_at hl 0 rfl) ?_
    refine va_get (ci := 4) (v := .ref mf) (C := "WindingRasterModel") (T := TM) (N := 11) hx hb hts in_4 hown hK hP 0 rfl rfl 7 (by decide) fl_25 (fun _ h9 => h9) rfl dM_next_34 ?_
    refine lv_iload_n hx hb dM_next_37 rfl (lv_at hl 1 rfl) ?_
    refine ii_iald hx hb hK hP 5 0 rfl rfl pp rfl (by omega) (by omega) dM_next_38 ?_
    rw [← hQ]
    exact rd_iret hx hb hr hlocks (by unfold nxM; rw [if_neg (by omega)]; omega) dM_next_39
  · have gf1 := hf (pp + 1) (by omega)
    refine lv_aload_n hx hb dM_next_10 rfl (lv_at hl 0 rfl) ?_
    refine va_get (ci := 4) (v := .ref mf) (C := "WindingRasterModel") (T := TM) (N := 11) hx hb hts in_4 hown hK hP 0 rfl rfl 7 (by decide) fl_25 (fun _ h9 => h9) rfl dM_next_11 ?_
    refine lv_iload_n hx hb dM_next_14 rfl (lv_at hl 1 rfl) ?_
    refine ii_iconst (n := 1) hx hb dM_next_15 ?_
    refine ii_iadd hx hb dM_next_16 ?_
    refine ii_top (y := ((pp + 1 : Nat) : Int)) (by push_cast; rfl) ?_
    refine ii_iald hx hb hK hP 5 0 rfl rfl (pp + 1) rfl (by omega) (by omega) dM_next_17 ?_
    refine lv_aload_n hx hb dM_next_18 rfl (lv_at hl 0 rfl) ?_
    refine va_get (ci := 4) (v := .ref mf) (C := "WindingRasterModel") (T := TM) (N := 11) hx hb hts in_4 hown hK hP 0 rfl rfl 7 (by decide) fl_25 (fun _ h9 => h9) rfl dM_next_19 ?_
    refine lv_iload_n hx hb dM_next_22 rfl (lv_at hl 1 rfl) ?_
    refine ii_iald hx hb hK hP 5 0 rfl rfl pp rfl (by omega) (by omega) dM_next_23 ?_
    refine ii_icmp_ne (tgt := 33) hx hb dM_next_24 (by decide) (by omega) (by omega) (fun c24 => ?_) (fun c24 => ?_)
    · refine lv_aload_n hx hb dM_next_33 rfl (lv_at hl 0 rfl) ?_
      refine va_get (ci := 4) (v := .ref mf) (C := "WindingRasterModel") (T := TM) (N := 11) hx hb hts in_4 hown hK hP 0 rfl rfl 7 (by decide) fl_25 (fun _ h9 => h9) rfl dM_next_34 ?_
      refine lv_iload_n hx hb dM_next_37 rfl (lv_at hl 1 rfl) ?_
      refine ii_iald hx hb hK hP 5 0 rfl rfl pp rfl (by omega) (by omega) dM_next_38 ?_
      rw [← hQ]
      exact rd_iret hx hb hr hlocks (by unfold nxM; rw [if_neg (by omega)]; omega) dM_next_39
    · refine lv_iload_n hx hb dM_next_27 rfl (lv_at hl 1 rfl) ?_
      refine ii_iconst (n := 1) hx hb dM_next_28 ?_
      refine ii_iadd hx hb dM_next_29 ?_
      refine ii_top (y := ((pp + 1 : Nat) : Int)) (by push_cast; rfl) ?_
      refine lv_goto (tgt := 39) hx hb dM_next_30 (by decide) ?_
      rw [← hQ]
      exact rd_iret hx hb hr hlocks (by unfold nxM; rw [if_pos (by omega)]) dM_next_39

def rm_m_centre : Room := { frames := 0, cells := 0, slots := 0, locals := 0 }
set_option maxHeartbeats 4000000 in
set_option maxRecDepth 100000 in
theorem m_centre (l : Launch) (D : va_G) (cA cB cS : ClassId) (kk : Nat) (h1 : kk ≤ 256) : Met l yM_centre wM_centre rm_m_centre (pR [.int (iI (kk : Int))] D vwCl (vwTy cA cB cS) vwNw []) (qL (fun z => z = ((kk * 65536 + 32768 : Nat) : Int))) 0 0 (fun _ => False) := by
  refine Met.ofW (cc := bM_centre) (maxL := 1) (ret := (some .long)) (by decide +kernel) rfl ?_
  intro p e s m args below meth c s₁ B hml hv
  obtain ⟨rfl, hP, hKW⟩ := hv
  have hK := hKW.1
  have hN := hKW.2.2
  have hx := B.exec
  have hb := B.bytes
  have hr := B.returns
  have hts := atoms_spec (ws := wM_centre) B.pre
  have hown : s.vm.findClass "WindingRasterModel" = some m.cls := findClass_of_methodNamed B.named
  have hlocks := B.notSynchronized
  have hP : va_P D vwCl [] s.heap := hP
  have kc_57 := (hts _ (List.mem_cons_of_mem _ vm_326))
  have kc_59 := (hts _ (List.mem_cons_of_mem _ vm_327))
  have hl := lv_entry ([.int (iI (kk : Int))]) (n := 1) (Nat.le_of_ble_eq_true rfl)
  rw [lg_entry_eq]
  generalize (lg_sl ([.int (iI (kk : Int))]) ++ List.replicate (1 - (lg_sl ([.int (iI (kk : Int))])).length) Slot.unset).toArray = ls at hl ⊢
  have hl : lv_has ls 1 [(0, .int (iI (kk : Int)))] := hl
  generalize hQ : MQ below (qL (fun z => z = ((kk * 65536 + 32768 : Nat) : Int))) [.int (iI (kk : Int))].toArray s 0 0 (fun _ => False) = QQ
  refine ii_ldc2 (n := 65536) hx hb hown kc_57 dM_centre_0 (by decide +kernel) ?_
  refine lv_iload_n hx hb dM_centre_3 rfl (lv_at hl 0 rfl) ?_
  refine ii_i2l hx hb dM_centre_4 (by omega) ?_
  refine ii_lmul hx hb dM_centre_5 ?_
  refine ii_ldc2 (n := 32768) hx hb hown kc_59 dM_centre_6 (by decide +kernel) ?_
  refine ii_ladd hx hb dM_centre_9 ?_
  rw [← hQ]
  exact rd_lret hx hb hr hlocks (by omega) dM_centre_10

def rm_m_meet : Room := { frames := 1, cells := 0, slots := 0, locals := 21 }
set_option maxHeartbeats 4000000 in
set_option maxRecDepth 100000 in
theorem m_meet (l : Launch) (D : va_G) (cA cB cS : ClassId) (mo : Nat) (cs : Nat) (rs : Nat) (mg : Nat) (mm : Nat) (mx : Nat) (my : Nat) (mf : Nat) (mt : Nat) (fB : Nat → Int) (fM : Nat → Int) (gX : Nat → Int) (gY : Nat → Int) (gF : Nat → Int) (gT : Nat → Int) (mv : Nat) (mp : Nat) (me : Nat) (kr : Nat) (h2 : mp ≤ 4096) (hf : firM gF mp) (hp : ∀ i, i < mp → (-536870912 ≤ gX i ∧ gX i ≤ 536870912) ∧ (-536870912 ≤ gY i ∧ gY i ≤ 536870912)) (h1 : kr < 256) (sz : Nat) : Met l yM_meet wM_meet rm_m_meet (pW [.ref mo, .int (iI (kr : Int))] D vwCl (vwTy cA cB cS) vwNw [(mo, .inr (4, [.int (iI (cs : Int)), .int (iI (rs : Int)), .ref mg, .ref mm, .int (iI (mv : Int)), .ref mx, .ref my, .ref mf, .int (iI (mp : Int)), .ref mt, .int (iI (me : Int))])), (mg, .inl (cB, 65536, .inl (iA fB))), (mm, .inl (cS, 65536, .inl (iA fM))), (mx, .inl (cA, 4096, .inl (iA gX))), (my, .inl (cA, 4096, .inl (iA gY))), (mf, .inl (cA, 4096, .inl (iA gF))), (mt, .inl (cA, 4096, .inl (iA gT)))] sz) (qV (S := (Nat → Int) × Nat) (fun u : (Nat → Int) × Nat => metI gX gY gF mp ((kr * 65536 + 32768 : Nat) : Int) u.1 u.2 mp) D vwCl [(mo, .inr (4, [.int (iI (cs : Int)), .int (iI (rs : Int)), .ref mg, .ref mm, .int (iI (mv : Int)), .ref mx, .ref my, .ref mf, .int (iI (mp : Int)), .ref mt, .int (iI (me : Int))])), (mg, .inl (cB, 65536, .inl (iA fB))), (mm, .inl (cS, 65536, .inl (iA fM))), (mx, .inl (cA, 4096, .inl (iA gX))), (my, .inl (cA, 4096, .inl (iA gY))), (mf, .inl (cA, 4096, .inl (iA gF))), (mt, .inl (cA, 4096, .inl (iA gT)))] sz (fun u : (Nat → Int) × Nat => [(mo, .inr (4, [.int (iI (cs : Int)), .int (iI (rs : Int)), .ref mg, .ref mm, .int (iI (mv : Int)), .ref mx, .ref my, .ref mf, .int (iI (mp : Int)), .ref mt, .int (iI ((u.2 : Nat) : Int))])), (mg, .inl (cB, 65536, .inl (iA fB))), (mm, .inl (cS, 65536, .inl (iA fM))), (mx, .inl (cA, 4096, .inl (iA gX))), (my, .inl (cA, 4096, .inl (iA gY))), (mf, .inl (cA, 4096, .inl (iA gF))), (mt, .inl (cA, 4096, .inl (iA u.1)))])) 0 0 (va_A [(mo, .inr (4, [.int (iI (cs : Int)), .int (iI (rs : Int)), .ref mg, .ref mm, .int (iI (mv : Int)), .ref mx, .ref my, .ref mf, .int (iI (mp : Int)), .ref mt, .int (iI (me : Int))])), (mg, .inl (cB, 65536, .inl (iA fB))), (mm, .inl (cS, 65536, .inl (iA fM))), (mx, .inl (cA, 4096, .inl (iA gX))), (my, .inl (cA, 4096, .inl (iA gY))), (mf, .inl (cA, 4096, .inl (iA gF))), (mt, .inl (cA, 4096, .inl (iA gT)))] sz) := by
  refine Met.ofW (cc := bM_meet) (maxL := 7) (ret := none) (by decide +kernel) rfl ?_
  intro p e s m args below meth c s₁ B hml hv
  obtain ⟨rfl, hsz, hP, hKW, hD0⟩ := hv
  have hK := hKW.1
  have hN := hKW.2.2
  have hx := B.exec
  have hb := B.bytes
  have hr := B.returns
  have hts := atoms_spec (ws := wM_meet) B.pre
  have hown : s.vm.findClass "WindingRasterModel" = some m.cls := findClass_of_methodNamed B.named
  have hlocks := B.notSynchronized
  subst hsz
  have hD := hD0.self (sz := s.heap.size)
  obtain ⟨A, hAe⟩ : ∃ A, va_A [(mo, .inr (4, [.int (iI (cs : Int)), .int (iI (rs : Int)), .ref mg, .ref mm, .int (iI (mv : Int)), .ref mx, .ref my, .ref mf, .int (iI (mp : Int)), .ref mt, .int (iI (me : Int))])), (mg, .inl (cB, 65536, .inl (iA fB))), (mm, .inl (cS, 65536, .inl (iA fM))), (mx, .inl (cA, 4096, .inl (iA gX))), (my, .inl (cA, 4096, .inl (iA gY))), (mf, .inl (cA, 4096, .inl (iA gF))), (mt, .inl (cA, 4096, .inl (iA gT)))] s.heap.size = A := ⟨_, rfl⟩
  rw [hAe] at hD
  have hA : ∀ q : Nat, s.heap.size ≤ q → A q := fun q h => by rw [← hAe]; exact Or.inr h
  have hS : va_S A s.heap s.heap [] := va_S.rf
  have hP : va_P D vwCl [(mo, .inr (4, [.int (iI (cs : Int)), .int (iI (rs : Int)), .ref mg, .ref mm, .int (iI (mv : Int)), .ref mx, .ref my, .ref mf, .int (iI (mp : Int)), .ref mt, .int (iI (me : Int))])), (mg, .inl (cB, 65536, .inl (iA fB))), (mm, .inl (cS, 65536, .inl (iA fM))), (mx, .inl (cA, 4096, .inl (iA gX))), (my, .inl (cA, 4096, .inl (iA gY))), (mf, .inl (cA, 4096, .inl (iA gF))), (mt, .inl (cA, 4096, .inl (iA gT)))] s.heap := hP
  have in_4 : ∀ w ∈ wsM, w ∈ wM_meet := fun w h => List.mem_cons_of_mem _ (in0_M w h)
  have fl_65 := (hts _ (List.mem_cons_of_mem _ vm_271))
  have fl_46 := (hts _ (List.mem_cons_of_mem _ vm_269))
  have fl_22 := (hts _ (List.mem_cons_of_mem _ vm_267))
  have fl_28 := (hts _ (List.mem_cons_of_mem _ vm_270))
  have hl := lv_entry ([.ref mo, .int (iI (kr : Int))]) (n := 7) (Nat.le_of_ble_eq_true rfl)
  rw [lg_entry_eq]
  generalize (lg_sl ([.ref mo, .int (iI (kr : Int))]) ++ List.replicate (7 - (lg_sl ([.ref mo, .int (iI (kr : Int))])).length) Slot.unset).toArray = ls at hl ⊢
  have hl : lv_has ls 7 [(0, .ref mo), (1, .int (iI (kr : Int)))] := hl
  generalize hQ : MQ below (qV (S := (Nat → Int) × Nat) (fun u : (Nat → Int) × Nat => metI gX gY gF mp ((kr * 65536 + 32768 : Nat) : Int) u.1 u.2 mp) D vwCl [(mo, .inr (4, [.int (iI (cs : Int)), .int (iI (rs : Int)), .ref mg, .ref mm, .int (iI (mv : Int)), .ref mx, .ref my, .ref mf, .int (iI (mp : Int)), .ref mt, .int (iI (me : Int))])), (mg, .inl (cB, 65536, .inl (iA fB))), (mm, .inl (cS, 65536, .inl (iA fM))), (mx, .inl (cA, 4096, .inl (iA gX))), (my, .inl (cA, 4096, .inl (iA gY))), (mf, .inl (cA, 4096, .inl (iA gF))), (mt, .inl (cA, 4096, .inl (iA gT)))] s.heap.size (fun u : (Nat → Int) × Nat => [(mo, .inr (4, [.int (iI (cs : Int)), .int (iI (rs : Int)), .ref mg, .ref mm, .int (iI (mv : Int)), .ref mx, .ref my, .ref mf, .int (iI (mp : Int)), .ref mt, .int (iI ((u.2 : Nat) : Int))])), (mg, .inl (cB, 65536, .inl (iA fB))), (mm, .inl (cS, 65536, .inl (iA fM))), (mx, .inl (cA, 4096, .inl (iA gX))), (my, .inl (cA, 4096, .inl (iA gY))), (mf, .inl (cA, 4096, .inl (iA gF))), (mt, .inl (cA, 4096, .inl (iA u.1)))])) [.ref mo, .int (iI (kr : Int))].toArray s 0 0 (va_A [(mo, .inr (4, [.int (iI (cs : Int)), .int (iI (rs : Int)), .ref mg, .ref mm, .int (iI (mv : Int)), .ref mx, .ref my, .ref mf, .int (iI (mp : Int)), .ref mt, .int (iI (me : Int))])), (mg, .inl (cB, 65536, .inl (iA fB))), (mm, .inl (cS, 65536, .inl (iA fM))), (mx, .inl (cA, 4096, .inl (iA gX))), (my, .inl (cA, 4096, .inl (iA gY))), (mf, .inl (cA, 4096, .inl (iA gF))), (mt, .inl (cA, 4096, .inl (iA gT)))] s.heap.size) = QQ
  refine lv_iload_n hx hb dM_meet_0 rfl (lv_at hl 1 rfl) ?_
  refine cs_l (va_runS (As := [.int (iI (kr : Int))]) (rest := []) ⟨hx, hb, hml, hown, hts⟩ (m_centre l D cA cB cS kr (by omega)) ⟨(callB_of 1 hts (gIn vm_325) rfl rfl rfl (hts _ (List.mem_cons_of_mem _ vm_8)) (hts _ (List.mem_cons_of_mem _ vm_323)) (by decide +kernel) ⟨Nat.le_of_ble_eq_true rfl, Nat.le_of_ble_eq_true rfl⟩), (hts _ (List.mem_cons_of_mem _ vm_324))⟩ (pR.pre (hP.sub [] rfl) hKW) rfl rfl hl.1 rfl (lv_room (Nat.le_of_ble_eq_true rfl)) dM_meet_1 ⟨Nat.le_of_ble_eq_true rfl, Nat.le_of_ble_eq_true rfl⟩) (fun z_1 hz_1 => ?_)
  subst hz_1
  refine lv_lstore_n (lv' := [(2, .long (lI ((kr * 65536 + 32768 : Nat) : Int))), (0, .ref mo), (1, .int (iI (kr : Int)))]) hx hb dM_meet_4 rfl hl (by decide) rfl (fun ls hl => ?_)
  refine lv_aload_n hx hb dM_meet_5 rfl (lv_at hl 1 rfl) ?_
  refine ii_iconst (n := 0) hx hb dM_meet_6 ?_
  refine va_put (ci := 4) (v := .int (iI 0)) (ty := .int) (C := "WindingRasterModel") (T := TM) (N := 11) hx hb hts in_4 tM tM_ok nM hown hK hP hD hS 0 rfl rfl 10 (by decide) fl_65 (fun _ h9 => h9) rfl (by decide +kernel) rfl rfl (Nat.le_of_ble_eq_true rfl) dM_meet_7 (fun H locs hP hD hS => ?_)
  have hP : va_P D vwCl [(mo, .inr (4, [.int (iI (cs : Int)), .int (iI (rs : Int)), .ref mg, .ref mm, .int (iI (mv : Int)), .ref mx, .ref my, .ref mf, .int (iI (mp : Int)), .ref mt, .int (iI 0)])), (mg, .inl (cB, 65536, .inl (iA fB))), (mm, .inl (cS, 65536, .inl (iA fM))), (mx, .inl (cA, 4096, .inl (iA gX))), (my, .inl (cA, 4096, .inl (iA gY))), (mf, .inl (cA, 4096, .inl (iA gF))), (mt, .inl (cA, 4096, .inl (iA gT)))] H := hP
  have hD : va_D A [(mo, .inr (4, [.int (iI (cs : Int)), .int (iI (rs : Int)), .ref mg, .ref mm, .int (iI (mv : Int)), .ref mx, .ref my, .ref mf, .int (iI (mp : Int)), .ref mt, .int (iI 0)])), (mg, .inl (cB, 65536, .inl (iA fB))), (mm, .inl (cS, 65536, .inl (iA fM))), (mx, .inl (cA, 4096, .inl (iA gX))), (my, .inl (cA, 4096, .inl (iA gY))), (mf, .inl (cA, 4096, .inl (iA gF))), (mt, .inl (cA, 4096, .inl (iA gT)))] := hD
  refine ii_iconst (n := 0) hx hb dM_meet_10 ?_
  refine lv_istore (lv' := [(4, .int (iI 0)), (2, .long (lI ((kr * 65536 + 32768 : Nat) : Int))), (0, .ref mo), (1, .int (iI (kr : Int)))]) hx hb dM_meet_11 hl (by decide) rfl (fun ls hl => ?_)
  have lp13 : ∀ (n_ : Nat) (i : Nat) (gU : Nat → Int) (mu : Nat), (i ≤ mp) → (metI gX gY gF mp ((kr * 65536 + 32768 : Nat) : Int) gU mu i) → (mp - i) < n_ → ∀ (H : Heap) (locs : List Loc), va_P D vwCl [(mo, .inr (4, [.int (iI (cs : Int)), .int (iI (rs : Int)), .ref mg, .ref mm, .int (iI (mv : Int)), .ref mx, .ref my, .ref mf, .int (iI (mp : Int)), .ref mt, .int (iI (mu : Int))])), (mg, .inl (cB, 65536, .inl (iA fB))), (mm, .inl (cS, 65536, .inl (iA fM))), (mx, .inl (cA, 4096, .inl (iA gX))), (my, .inl (cA, 4096, .inl (iA gY))), (mf, .inl (cA, 4096, .inl (iA gF))), (mt, .inl (cA, 4096, .inl (iA gU)))] H → va_D A [(mo, .inr (4, [.int (iI (cs : Int)), .int (iI (rs : Int)), .ref mg, .ref mm, .int (iI (mv : Int)), .ref mx, .ref my, .ref mf, .int (iI (mp : Int)), .ref mt, .int (iI (mu : Int))])), (mg, .inl (cB, 65536, .inl (iA fB))), (mm, .inl (cS, 65536, .inl (iA fM))), (mx, .inl (cA, 4096, .inl (iA gX))), (my, .inl (cA, 4096, .inl (iA gY))), (mf, .inl (cA, 4096, .inl (iA gF))), (mt, .inl (cA, 4096, .inl (iA gU)))] → va_S A s.heap H locs → ∀ ls : Array Slot, lv_has ls 7 [(4, .int (iI (i : Int))), (2, .long (lI ((kr * 65536 + 32768 : Nat) : Int))), (0, .ref mo), (1, .int (iI (kr : Int)))] → W p l e (headSpec wM_meet rm_m_meet).room s m [.ref mo, .int (iI (kr : Int))].toArray below meth c H locs 0 0 QQ (F0 m 13 ls []) := by
    intro n_
    induction n_ with
    | zero =>
      intro i gU mu i1 i2 hm_
      exact absurd hm_ (Nat.not_lt_zero _)
    | succ n_ ih_lp13 =>
      intro i gU mu i1 i2 hm_lp13 H locs hP hD hS ls hl
      have hmu := i2.1
      refine lv_iload hx hb dM_meet_13 (lv_at hl 0 rfl) ?_
      refine lv_aload_n hx hb dM_meet_15 rfl (lv_at hl 2 rfl) ?_
      refine va_get (ci := 4) (v := .int (iI (mp : Int))) (C := "WindingRasterModel") (T := TM) (N := 11) hx hb hts in_4 hown hK hP 0 rfl rfl 8 (by decide) fl_46 (fun _ h9 => h9) rfl dM_meet_16 ?_
      refine ii_icmp_ge (tgt := 100) hx hb dM_meet_19 (by decide) (by omega) (by omega) (fun c19 => ?_) (fun c19 => ?_)
      · rw [← hQ]
        exact wr_vret (gU, mu) hx hb hr hlocks hAe (hP.sub [0, 1, 2, 3, 4, 5, 6] rfl) (hD.sub [0, 1, 2, 3, 4, 5, 6] (by decide) rfl) hS (by rw [show i = mp by omega] at i2; exact i2) dM_meet_100
      · have g1 := hp i (by omega)
        have g2 := nxM_lt hf (p := i) (by omega)
        have g3 := hp _ g2
        have g4 := stZ_cases (gY i) (gY (nxM gF mp i)) ((kr * 65536 + 32768 : Nat) : Int)
        refine lv_aload_n hx hb dM_meet_22 rfl (lv_at hl 2 rfl) ?_
        refine va_get (ci := 4) (v := .ref my) (C := "WindingRasterModel") (T := TM) (N := 11) hx hb hts in_4 hown hK hP 0 rfl rfl 6 (by decide) fl_22 (fun _ h9 => h9) rfl dM_meet_23 ?_
        refine lv_iload hx hb dM_meet_26 (lv_at hl 0 rfl) ?_
        refine ii_iald hx hb hK hP 4 0 rfl rfl i rfl (by omega) (by omega) dM_meet_28 ?_
        refine ii_i2l hx hb dM_meet_29 (by omega) ?_
        refine lv_lload_n hx hb dM_meet_30 rfl (lv_at hl 1 rfl) ?_
        refine ii_lcmp hx hb dM_meet_31 (by omega) (by omega) (fun zc_2 hzc_2 => ?_)
        refine ii_if_gt (tgt := 39) hx hb dM_meet_32 (by decide) (by omega) (fun c32 => ?_) (fun c32 => ?_)
        · refine ii_iconst (n := 0) hx hb dM_meet_39 ?_
          refine lv_istore (lv' := [(5, .int (iI 0)), (4, .int (iI (i : Int))), (2, .long (lI ((kr * 65536 + 32768 : Nat) : Int))), (0, .ref mo), (1, .int (iI (kr : Int)))]) hx hb dM_meet_40 hl (by decide) rfl (fun ls hl => ?_)
          refine lv_aload_n hx hb dM_meet_42 rfl (lv_at hl 3 rfl) ?_
          refine va_get (ci := 4) (v := .ref my) (C := "WindingRasterModel") (T := TM) (N := 11) hx hb hts in_4 hown hK hP 0 rfl rfl 6 (by decide) fl_22 (fun _ h9 => h9) rfl dM_meet_43 ?_
          refine lv_aload_n hx hb dM_meet_46 rfl (lv_at hl 3 rfl) ?_
          refine lv_iload hx hb dM_meet_47 (lv_at hl 1 rfl) ?_
          refine cs_i (va_runV (As := [.int (iI (i : Int))]) (rest := [.ref my]) ⟨hx, hb, hml, hown, hts⟩ (m_next l D cA cB cS mo cs rs mg mm mx my mf mt fB fM gX gY gF gU mv mp mu i (by omega) (by omega) (by omega)) ⟨(callB_of 1 hts (gIn vm_330) rfl rfl rfl (hts _ (List.mem_cons_of_mem _ vm_8)) (hts _ (List.mem_cons_of_mem _ vm_328)) (by decide +kernel) ⟨Nat.le_of_ble_eq_true rfl, Nat.le_of_ble_eq_true rfl⟩), (hts _ (List.mem_cons_of_mem _ vm_329)), (hts _ (List.mem_cons_of_mem _ vm_424))⟩ (pR.preV (va_recv hK hP (ci := 4) (q0 := 0) rfl rfl) (hP.sub [0, 1, 2, 3, 4, 5, 6] rfl) hKW) rfl rfl hl.1 rfl (lv_room (Nat.le_of_ble_eq_true rfl)) dM_meet_49 ⟨Nat.le_of_ble_eq_true rfl, Nat.le_of_ble_eq_true rfl⟩) (fun z_3 hz_3 => ?_)
          subst hz_3
          refine ii_iald hx hb hK hP 4 0 rfl rfl (nxM gF mp i) rfl (by omega) (by omega) dM_meet_52 ?_
          refine ii_i2l hx hb dM_meet_53 (by omega) ?_
          refine lv_lload_n hx hb dM_meet_54 rfl (lv_at hl 2 rfl) ?_
          refine ii_lcmp hx hb dM_meet_55 (by omega) (by omega) (fun zc_4 hzc_4 => ?_)
          refine ii_if_gt (tgt := 63) hx hb dM_meet_56 (by decide) (by omega) (fun c56 => ?_) (fun c56 => ?_)
          · refine ii_iconst (n := 0) hx hb dM_meet_63 ?_
            refine lv_istore (lv' := [(6, .int (iI 0)), (5, .int (iI 0)), (4, .int (iI (i : Int))), (2, .long (lI ((kr * 65536 + 32768 : Nat) : Int))), (0, .ref mo), (1, .int (iI (kr : Int)))]) hx hb dM_meet_64 hl (by decide) rfl (fun ls hl => ?_)
            refine lv_iload hx hb dM_meet_66 (lv_at hl 1 rfl) ?_
            refine lv_iload hx hb dM_meet_68 (lv_at hl 0 rfl) ?_
            refine ii_icmp_eq (tgt := 94) hx hb dM_meet_70 (by decide) (by omega) (by omega) (fun c70 => ?_) (fun c70 => ?_)
            · refine lv_iinc (v := iI ((i + 1 : Nat) : Int)) (lv' := [(4, .int (iI ((i + 1 : Nat) : Int))), (6, .int (iI 0)), (5, .int (iI 0)), (2, .long (lI ((kr * 65536 + 32768 : Nat) : Int))), (0, .ref mo), (1, .int (iI (kr : Int)))]) hx hb dM_meet_94 hl (k := 2) rfl (iI_inc _ 1 (by omega)) (by decide) rfl (fun ls hl => ?_)
              refine lv_goto (tgt := 13) hx hb dM_meet_97 (by decide) ?_
              exact ih_lp13 (i + 1) gU mu (by omega) (metI_skip i2 (by omega)) (by omega) _ _ (hP.sub [0, 1, 2, 3, 4, 5, 6] rfl) (hD.sub [0, 1, 2, 3, 4, 5, 6] (by decide) rfl) hS _ (lv_sub hl [0, 3, 4, 5] rfl)
            · exfalso; omega
          · refine ii_iconst (n := 1) hx hb dM_meet_59 ?_
            refine lv_goto (tgt := 64) hx hb dM_meet_60 (by decide) ?_
            refine lv_istore (lv' := [(6, .int (iI 1)), (5, .int (iI 0)), (4, .int (iI (i : Int))), (2, .long (lI ((kr * 65536 + 32768 : Nat) : Int))), (0, .ref mo), (1, .int (iI (kr : Int)))]) hx hb dM_meet_64 hl (by decide) rfl (fun ls hl => ?_)
            refine lv_iload hx hb dM_meet_66 (lv_at hl 1 rfl) ?_
            refine lv_iload hx hb dM_meet_68 (lv_at hl 0 rfl) ?_
            refine ii_icmp_eq (tgt := 94) hx hb dM_meet_70 (by decide) (by omega) (by omega) (fun c70 => ?_) (fun c70 => ?_)
            · exfalso; omega
            · refine lv_aload_n hx hb dM_meet_73 rfl (lv_at hl 4 rfl) ?_
              refine va_get (ci := 4) (v := .ref mt) (C := "WindingRasterModel") (T := TM) (N := 11) hx hb hts in_4 hown hK hP 0 rfl rfl 9 (by decide) fl_28 (fun _ h9 => h9) rfl dM_meet_74 ?_
              refine lv_aload_n hx hb dM_meet_77 rfl (lv_at hl 4 rfl) ?_
              refine va_get (ci := 4) (v := .int (iI (mu : Int))) (C := "WindingRasterModel") (T := TM) (N := 11) hx hb hts in_4 hown hK hP 0 rfl rfl 10 (by decide) fl_65 (fun _ h9 => h9) rfl dM_meet_78 ?_
              refine lv_iload hx hb dM_meet_81 (lv_at hl 2 rfl) ?_
              refine ii_iast hx hb hK hP hD hS 6 0 rfl rfl mu rfl (by omega) (by omega) dM_meet_83 (fun H locs hP hD hS => ?_)
              have hP : va_P D vwCl [(mo, .inr (4, [.int (iI (cs : Int)), .int (iI (rs : Int)), .ref mg, .ref mm, .int (iI (mv : Int)), .ref mx, .ref my, .ref mf, .int (iI (mp : Int)), .ref mt, .int (iI (mu : Int))])), (mg, .inl (cB, 65536, .inl (iA fB))), (mm, .inl (cS, 65536, .inl (iA fM))), (mx, .inl (cA, 4096, .inl (iA gX))), (my, .inl (cA, 4096, .inl (iA gY))), (mf, .inl (cA, 4096, .inl (iA gF))), (mt, .inl (cA, 4096, .inl (iA (uZ gU mu (i : Int)))))] H := hP
              have hD : va_D A [(mo, .inr (4, [.int (iI (cs : Int)), .int (iI (rs : Int)), .ref mg, .ref mm, .int (iI (mv : Int)), .ref mx, .ref my, .ref mf, .int (iI (mp : Int)), .ref mt, .int (iI (mu : Int))])), (mg, .inl (cB, 65536, .inl (iA fB))), (mm, .inl (cS, 65536, .inl (iA fM))), (mx, .inl (cA, 4096, .inl (iA gX))), (my, .inl (cA, 4096, .inl (iA gY))), (mf, .inl (cA, 4096, .inl (iA gF))), (mt, .inl (cA, 4096, .inl (iA (uZ gU mu (i : Int)))))] := hD
              refine lv_aload_n hx hb dM_meet_84 rfl (lv_at hl 4 rfl) ?_
              refine lv_dup hx hb dM_meet_85 rfl ?_
              refine va_get (ci := 4) (v := .int (iI (mu : Int))) (C := "WindingRasterModel") (T := TM) (N := 11) hx hb hts in_4 hown hK hP 0 rfl rfl 10 (by decide) fl_65 (fun _ h9 => h9) rfl dM_meet_86 ?_
              refine ii_iconst (n := 1) hx hb dM_meet_89 ?_
              refine ii_iadd hx hb dM_meet_90 ?_
              refine ii_top (y := ((mu + 1 : Nat) : Int)) (by push_cast; rfl) ?_
              refine va_put (ci := 4) (v := .int (iI ((mu + 1 : Nat) : Int))) (ty := .int) (C := "WindingRasterModel") (T := TM) (N := 11) hx hb hts in_4 tM tM_ok nM hown hK hP hD hS 0 rfl rfl 10 (by decide) fl_65 (fun _ h9 => h9) rfl (by decide +kernel) rfl rfl (Nat.le_of_ble_eq_true rfl) dM_meet_91 (fun H locs hP hD hS => ?_)
              have hP : va_P D vwCl [(mo, .inr (4, [.int (iI (cs : Int)), .int (iI (rs : Int)), .ref mg, .ref mm, .int (iI (mv : Int)), .ref mx, .ref my, .ref mf, .int (iI (mp : Int)), .ref mt, .int (iI ((mu + 1 : Nat) : Int))])), (mg, .inl (cB, 65536, .inl (iA fB))), (mm, .inl (cS, 65536, .inl (iA fM))), (mx, .inl (cA, 4096, .inl (iA gX))), (my, .inl (cA, 4096, .inl (iA gY))), (mf, .inl (cA, 4096, .inl (iA gF))), (mt, .inl (cA, 4096, .inl (iA (uZ gU mu (i : Int)))))] H := hP
              have hD : va_D A [(mo, .inr (4, [.int (iI (cs : Int)), .int (iI (rs : Int)), .ref mg, .ref mm, .int (iI (mv : Int)), .ref mx, .ref my, .ref mf, .int (iI (mp : Int)), .ref mt, .int (iI ((mu + 1 : Nat) : Int))])), (mg, .inl (cB, 65536, .inl (iA fB))), (mm, .inl (cS, 65536, .inl (iA fM))), (mx, .inl (cA, 4096, .inl (iA gX))), (my, .inl (cA, 4096, .inl (iA gY))), (mf, .inl (cA, 4096, .inl (iA gF))), (mt, .inl (cA, 4096, .inl (iA (uZ gU mu (i : Int)))))] := hD
              refine lv_iinc (v := iI ((i + 1 : Nat) : Int)) (lv' := [(4, .int (iI ((i + 1 : Nat) : Int))), (6, .int (iI 1)), (5, .int (iI 0)), (2, .long (lI ((kr * 65536 + 32768 : Nat) : Int))), (0, .ref mo), (1, .int (iI (kr : Int)))]) hx hb dM_meet_94 hl (k := 2) rfl (iI_inc _ 1 (by omega)) (by decide) rfl (fun ls hl => ?_)
              refine lv_goto (tgt := 13) hx hb dM_meet_97 (by decide) ?_
              exact ih_lp13 (i + 1) (uZ gU mu (i : Int)) (mu + 1) (by omega) (metI_add i2 (by omega) (by omega)) (by omega) _ _ (hP.sub [0, 1, 2, 3, 4, 5, 6] rfl) (hD.sub [0, 1, 2, 3, 4, 5, 6] (by decide) rfl) hS _ (lv_sub hl [0, 3, 4, 5] rfl)
        · refine ii_iconst (n := 1) hx hb dM_meet_35 ?_
          refine lv_goto (tgt := 40) hx hb dM_meet_36 (by decide) ?_
          refine lv_istore (lv' := [(5, .int (iI 1)), (4, .int (iI (i : Int))), (2, .long (lI ((kr * 65536 + 32768 : Nat) : Int))), (0, .ref mo), (1, .int (iI (kr : Int)))]) hx hb dM_meet_40 hl (by decide) rfl (fun ls hl => ?_)
          refine lv_aload_n hx hb dM_meet_42 rfl (lv_at hl 3 rfl) ?_
          refine va_get (ci := 4) (v := .ref my) (C := "WindingRasterModel") (T := TM) (N := 11) hx hb hts in_4 hown hK hP 0 rfl rfl 6 (by decide) fl_22 (fun _ h9 => h9) rfl dM_meet_43 ?_
          refine lv_aload_n hx hb dM_meet_46 rfl (lv_at hl 3 rfl) ?_
          refine lv_iload hx hb dM_meet_47 (lv_at hl 1 rfl) ?_
          refine cs_i (va_runV (As := [.int (iI (i : Int))]) (rest := [.ref my]) ⟨hx, hb, hml, hown, hts⟩ (m_next l D cA cB cS mo cs rs mg mm mx my mf mt fB fM gX gY gF gU mv mp mu i (by omega) (by omega) (by omega)) ⟨(callB_of 1 hts (gIn vm_330) rfl rfl rfl (hts _ (List.mem_cons_of_mem _ vm_8)) (hts _ (List.mem_cons_of_mem _ vm_328)) (by decide +kernel) ⟨Nat.le_of_ble_eq_true rfl, Nat.le_of_ble_eq_true rfl⟩), (hts _ (List.mem_cons_of_mem _ vm_329)), (hts _ (List.mem_cons_of_mem _ vm_424))⟩ (pR.preV (va_recv hK hP (ci := 4) (q0 := 0) rfl rfl) (hP.sub [0, 1, 2, 3, 4, 5, 6] rfl) hKW) rfl rfl hl.1 rfl (lv_room (Nat.le_of_ble_eq_true rfl)) dM_meet_49 ⟨Nat.le_of_ble_eq_true rfl, Nat.le_of_ble_eq_true rfl⟩) (fun z_5 hz_5 => ?_)
          subst hz_5
          refine ii_iald hx hb hK hP 4 0 rfl rfl (nxM gF mp i) rfl (by omega) (by omega) dM_meet_52 ?_
          refine ii_i2l hx hb dM_meet_53 (by omega) ?_
          refine lv_lload_n hx hb dM_meet_54 rfl (lv_at hl 2 rfl) ?_
          refine ii_lcmp hx hb dM_meet_55 (by omega) (by omega) (fun zc_6 hzc_6 => ?_)
          refine ii_if_gt (tgt := 63) hx hb dM_meet_56 (by decide) (by omega) (fun c56 => ?_) (fun c56 => ?_)
          · refine ii_iconst (n := 0) hx hb dM_meet_63 ?_
            refine lv_istore (lv' := [(6, .int (iI 0)), (5, .int (iI 1)), (4, .int (iI (i : Int))), (2, .long (lI ((kr * 65536 + 32768 : Nat) : Int))), (0, .ref mo), (1, .int (iI (kr : Int)))]) hx hb dM_meet_64 hl (by decide) rfl (fun ls hl => ?_)
            refine lv_iload hx hb dM_meet_66 (lv_at hl 1 rfl) ?_
            refine lv_iload hx hb dM_meet_68 (lv_at hl 0 rfl) ?_
            refine ii_icmp_eq (tgt := 94) hx hb dM_meet_70 (by decide) (by omega) (by omega) (fun c70 => ?_) (fun c70 => ?_)
            · exfalso; omega
            · refine lv_aload_n hx hb dM_meet_73 rfl (lv_at hl 4 rfl) ?_
              refine va_get (ci := 4) (v := .ref mt) (C := "WindingRasterModel") (T := TM) (N := 11) hx hb hts in_4 hown hK hP 0 rfl rfl 9 (by decide) fl_28 (fun _ h9 => h9) rfl dM_meet_74 ?_
              refine lv_aload_n hx hb dM_meet_77 rfl (lv_at hl 4 rfl) ?_
              refine va_get (ci := 4) (v := .int (iI (mu : Int))) (C := "WindingRasterModel") (T := TM) (N := 11) hx hb hts in_4 hown hK hP 0 rfl rfl 10 (by decide) fl_65 (fun _ h9 => h9) rfl dM_meet_78 ?_
              refine lv_iload hx hb dM_meet_81 (lv_at hl 2 rfl) ?_
              refine ii_iast hx hb hK hP hD hS 6 0 rfl rfl mu rfl (by omega) (by omega) dM_meet_83 (fun H locs hP hD hS => ?_)
              have hP : va_P D vwCl [(mo, .inr (4, [.int (iI (cs : Int)), .int (iI (rs : Int)), .ref mg, .ref mm, .int (iI (mv : Int)), .ref mx, .ref my, .ref mf, .int (iI (mp : Int)), .ref mt, .int (iI (mu : Int))])), (mg, .inl (cB, 65536, .inl (iA fB))), (mm, .inl (cS, 65536, .inl (iA fM))), (mx, .inl (cA, 4096, .inl (iA gX))), (my, .inl (cA, 4096, .inl (iA gY))), (mf, .inl (cA, 4096, .inl (iA gF))), (mt, .inl (cA, 4096, .inl (iA (uZ gU mu (i : Int)))))] H := hP
              have hD : va_D A [(mo, .inr (4, [.int (iI (cs : Int)), .int (iI (rs : Int)), .ref mg, .ref mm, .int (iI (mv : Int)), .ref mx, .ref my, .ref mf, .int (iI (mp : Int)), .ref mt, .int (iI (mu : Int))])), (mg, .inl (cB, 65536, .inl (iA fB))), (mm, .inl (cS, 65536, .inl (iA fM))), (mx, .inl (cA, 4096, .inl (iA gX))), (my, .inl (cA, 4096, .inl (iA gY))), (mf, .inl (cA, 4096, .inl (iA gF))), (mt, .inl (cA, 4096, .inl (iA (uZ gU mu (i : Int)))))] := hD
              refine lv_aload_n hx hb dM_meet_84 rfl (lv_at hl 4 rfl) ?_
              refine lv_dup hx hb dM_meet_85 rfl ?_
              refine va_get (ci := 4) (v := .int (iI (mu : Int))) (C := "WindingRasterModel") (T := TM) (N := 11) hx hb hts in_4 hown hK hP 0 rfl rfl 10 (by decide) fl_65 (fun _ h9 => h9) rfl dM_meet_86 ?_
              refine ii_iconst (n := 1) hx hb dM_meet_89 ?_
              refine ii_iadd hx hb dM_meet_90 ?_
              refine ii_top (y := ((mu + 1 : Nat) : Int)) (by push_cast; rfl) ?_
              refine va_put (ci := 4) (v := .int (iI ((mu + 1 : Nat) : Int))) (ty := .int) (C := "WindingRasterModel") (T := TM) (N := 11) hx hb hts in_4 tM tM_ok nM hown hK hP hD hS 0 rfl rfl 10 (by decide) fl_65 (fun _ h9 => h9) rfl (by decide +kernel) rfl rfl (Nat.le_of_ble_eq_true rfl) dM_meet_91 (fun H locs hP hD hS => ?_)
              have hP : va_P D vwCl [(mo, .inr (4, [.int (iI (cs : Int)), .int (iI (rs : Int)), .ref mg, .ref mm, .int (iI (mv : Int)), .ref mx, .ref my, .ref mf, .int (iI (mp : Int)), .ref mt, .int (iI ((mu + 1 : Nat) : Int))])), (mg, .inl (cB, 65536, .inl (iA fB))), (mm, .inl (cS, 65536, .inl (iA fM))), (mx, .inl (cA, 4096, .inl (iA gX))), (my, .inl (cA, 4096, .inl (iA gY))), (mf, .inl (cA, 4096, .inl (iA gF))), (mt, .inl (cA, 4096, .inl (iA (uZ gU mu (i : Int)))))] H := hP
              have hD : va_D A [(mo, .inr (4, [.int (iI (cs : Int)), .int (iI (rs : Int)), .ref mg, .ref mm, .int (iI (mv : Int)), .ref mx, .ref my, .ref mf, .int (iI (mp : Int)), .ref mt, .int (iI ((mu + 1 : Nat) : Int))])), (mg, .inl (cB, 65536, .inl (iA fB))), (mm, .inl (cS, 65536, .inl (iA fM))), (mx, .inl (cA, 4096, .inl (iA gX))), (my, .inl (cA, 4096, .inl (iA gY))), (mf, .inl (cA, 4096, .inl (iA gF))), (mt, .inl (cA, 4096, .inl (iA (uZ gU mu (i : Int)))))] := hD
              refine lv_iinc (v := iI ((i + 1 : Nat) : Int)) (lv' := [(4, .int (iI ((i + 1 : Nat) : Int))), (6, .int (iI 0)), (5, .int (iI 1)), (2, .long (lI ((kr * 65536 + 32768 : Nat) : Int))), (0, .ref mo), (1, .int (iI (kr : Int)))]) hx hb dM_meet_94 hl (k := 2) rfl (iI_inc _ 1 (by omega)) (by decide) rfl (fun ls hl => ?_)
              refine lv_goto (tgt := 13) hx hb dM_meet_97 (by decide) ?_
              exact ih_lp13 (i + 1) (uZ gU mu (i : Int)) (mu + 1) (by omega) (metI_add i2 (by omega) (by omega)) (by omega) _ _ (hP.sub [0, 1, 2, 3, 4, 5, 6] rfl) (hD.sub [0, 1, 2, 3, 4, 5, 6] (by decide) rfl) hS _ (lv_sub hl [0, 3, 4, 5] rfl)
          · refine ii_iconst (n := 1) hx hb dM_meet_59 ?_
            refine lv_goto (tgt := 64) hx hb dM_meet_60 (by decide) ?_
            refine lv_istore (lv' := [(6, .int (iI 1)), (5, .int (iI 1)), (4, .int (iI (i : Int))), (2, .long (lI ((kr * 65536 + 32768 : Nat) : Int))), (0, .ref mo), (1, .int (iI (kr : Int)))]) hx hb dM_meet_64 hl (by decide) rfl (fun ls hl => ?_)
            refine lv_iload hx hb dM_meet_66 (lv_at hl 1 rfl) ?_
            refine lv_iload hx hb dM_meet_68 (lv_at hl 0 rfl) ?_
            refine ii_icmp_eq (tgt := 94) hx hb dM_meet_70 (by decide) (by omega) (by omega) (fun c70 => ?_) (fun c70 => ?_)
            · refine lv_iinc (v := iI ((i + 1 : Nat) : Int)) (lv' := [(4, .int (iI ((i + 1 : Nat) : Int))), (6, .int (iI 1)), (5, .int (iI 1)), (2, .long (lI ((kr * 65536 + 32768 : Nat) : Int))), (0, .ref mo), (1, .int (iI (kr : Int)))]) hx hb dM_meet_94 hl (k := 2) rfl (iI_inc _ 1 (by omega)) (by decide) rfl (fun ls hl => ?_)
              refine lv_goto (tgt := 13) hx hb dM_meet_97 (by decide) ?_
              exact ih_lp13 (i + 1) gU mu (by omega) (metI_skip i2 (by omega)) (by omega) _ _ (hP.sub [0, 1, 2, 3, 4, 5, 6] rfl) (hD.sub [0, 1, 2, 3, 4, 5, 6] (by decide) rfl) hS _ (lv_sub hl [0, 3, 4, 5] rfl)
            · exfalso; omega
  exact lp13 (mp - 0 + 1) 0 gT 0 (by omega) (metI_0 _ _ _ _ _ _) (Nat.lt_succ_self _) _ _ (hP.sub [0, 1, 2, 3, 4, 5, 6] rfl) (hD.sub [0, 1, 2, 3, 4, 5, 6] (by decide) rfl) hS _ (lv_sub hl [0, 1, 2, 3] rfl)

def rm_m_isLeft : Room := { frames := 1, cells := 0, slots := 0, locals := 21 }
set_option maxHeartbeats 4000000 in
set_option maxRecDepth 100000 in
theorem m_isLeft (l : Launch) (D : va_G) (cA cB cS : ClassId) (mo : Nat) (cs : Nat) (rs : Nat) (mg : Nat) (mm : Nat) (mx : Nat) (my : Nat) (mf : Nat) (mt : Nat) (fB : Nat → Int) (fM : Nat → Int) (gX : Nat → Int) (gY : Nat → Int) (gF : Nat → Int) (gT : Nat → Int) (mv : Nat) (mp : Nat) (me : Nat) (pp : Nat) (xx : Int) (yy : Int) (h2 : mp ≤ 4096) (hf : firM gF mp) (hp : ∀ i, i < mp → (-536870912 ≤ gX i ∧ gX i ≤ 536870912) ∧ (-536870912 ≤ gY i ∧ gY i ≤ 536870912)) (h1 : pp < mp) (h3 : 0 ≤ xx ∧ xx ≤ 16842752) (h4 : 0 ≤ yy ∧ yy ≤ 16842752) : Met l yM_isLeft wM_isLeft rm_m_isLeft (pR [.ref mo, .int (iI (pp : Int)), .long (lI xx), .long (lI yy)] D vwCl (vwTy cA cB cS) vwNw [(mo, .inr (4, [.int (iI (cs : Int)), .int (iI (rs : Int)), .ref mg, .ref mm, .int (iI (mv : Int)), .ref mx, .ref my, .ref mf, .int (iI (mp : Int)), .ref mt, .int (iI (me : Int))])), (mg, .inl (cB, 65536, .inl (iA fB))), (mm, .inl (cS, 65536, .inl (iA fM))), (mx, .inl (cA, 4096, .inl (iA gX))), (my, .inl (cA, 4096, .inl (iA gY))), (mf, .inl (cA, 4096, .inl (iA gF))), (mt, .inl (cA, 4096, .inl (iA gT)))]) (qI (fun z => (z = 1 ∧ ((gY pp < gY (nxM gF mp pp) ∧ (gX (nxM gF mp pp) - gX pp) * (yy - gY pp) ≤ (xx - gX pp) * (gY (nxM gF mp pp) - gY pp)) ∨ (¬ gY pp < gY (nxM gF mp pp) ∧ (xx - gX pp) * (gY (nxM gF mp pp) - gY pp) ≤ (gX (nxM gF mp pp) - gX pp) * (yy - gY pp)))) ∨ (z = 0 ∧ ¬ ((gY pp < gY (nxM gF mp pp) ∧ (gX (nxM gF mp pp) - gX pp) * (yy - gY pp) ≤ (xx - gX pp) * (gY (nxM gF mp pp) - gY pp)) ∨ (¬ gY pp < gY (nxM gF mp pp) ∧ (xx - gX pp) * (gY (nxM gF mp pp) - gY pp) ≤ (gX (nxM gF mp pp) - gX pp) * (yy - gY pp)))))) 0 0 (fun _ => False) := by
  refine Met.ofW (cc := bM_isLeft) (maxL := 11) (ret := (some .boolean)) (by decide +kernel) rfl ?_
  intro p e s m args below meth c s₁ B hml hv
  obtain ⟨rfl, hP, hKW⟩ := hv
  have hK := hKW.1
  have hN := hKW.2.2
  have hx := B.exec
  have hb := B.bytes
  have hr := B.returns
  have hts := atoms_spec (ws := wM_isLeft) B.pre
  have hown : s.vm.findClass "WindingRasterModel" = some m.cls := findClass_of_methodNamed B.named
  have hlocks := B.notSynchronized
  have hP : va_P D vwCl [(mo, .inr (4, [.int (iI (cs : Int)), .int (iI (rs : Int)), .ref mg, .ref mm, .int (iI (mv : Int)), .ref mx, .ref my, .ref mf, .int (iI (mp : Int)), .ref mt, .int (iI (me : Int))])), (mg, .inl (cB, 65536, .inl (iA fB))), (mm, .inl (cS, 65536, .inl (iA fM))), (mx, .inl (cA, 4096, .inl (iA gX))), (my, .inl (cA, 4096, .inl (iA gY))), (mf, .inl (cA, 4096, .inl (iA gF))), (mt, .inl (cA, 4096, .inl (iA gT)))] s.heap := hP
  have in_4 : ∀ w ∈ wsM, w ∈ wM_isLeft := fun w h => List.mem_cons_of_mem _ (in0_M w h)
  have fl_18 := (hts _ (List.mem_cons_of_mem _ vm_266))
  have fl_22 := (hts _ (List.mem_cons_of_mem _ vm_267))
  have hl := lv_entry ([.ref mo, .int (iI (pp : Int)), .long (lI xx), .long (lI yy)]) (n := 11) (Nat.le_of_ble_eq_true rfl)
  rw [lg_entry_eq]
  generalize (lg_sl ([.ref mo, .int (iI (pp : Int)), .long (lI xx), .long (lI yy)]) ++ List.replicate (11 - (lg_sl ([.ref mo, .int (iI (pp : Int)), .long (lI xx), .long (lI yy)])).length) Slot.unset).toArray = ls at hl ⊢
  have hl : lv_has ls 11 [(0, .ref mo), (1, .int (iI (pp : Int))), (2, .long (lI xx)), (4, .long (lI yy))] := hl
  generalize hQ : MQ below (qI (fun z => (z = 1 ∧ ((gY pp < gY (nxM gF mp pp) ∧ (gX (nxM gF mp pp) - gX pp) * (yy - gY pp) ≤ (xx - gX pp) * (gY (nxM gF mp pp) - gY pp)) ∨ (¬ gY pp < gY (nxM gF mp pp) ∧ (xx - gX pp) * (gY (nxM gF mp pp) - gY pp) ≤ (gX (nxM gF mp pp) - gX pp) * (yy - gY pp)))) ∨ (z = 0 ∧ ¬ ((gY pp < gY (nxM gF mp pp) ∧ (gX (nxM gF mp pp) - gX pp) * (yy - gY pp) ≤ (xx - gX pp) * (gY (nxM gF mp pp) - gY pp)) ∨ (¬ gY pp < gY (nxM gF mp pp) ∧ (xx - gX pp) * (gY (nxM gF mp pp) - gY pp) ≤ (gX (nxM gF mp pp) - gX pp) * (yy - gY pp)))))) [.ref mo, .int (iI (pp : Int)), .long (lI xx), .long (lI yy)].toArray s 0 0 (fun _ => False) = QQ
  have g1 := hp pp h1
  have g2 := nxM_lt hf h1
  have g3 := hp _ g2
  have q1 := prod_rng (u := gX (nxM gF mp pp) - gX pp) (v := yy - gY pp) (by omega) (by omega)
  have q2 := prod_rng (u := xx - gX pp) (v := gY (nxM gF mp pp) - gY pp) (by omega) (by omega)
  refine lv_aload_n hx hb dM_isLeft_0 rfl (lv_at hl 0 rfl) ?_
  refine lv_iload_n hx hb dM_isLeft_1 rfl (lv_at hl 1 rfl) ?_
  refine cs_i (va_runV (As := [.int (iI (pp : Int))]) (rest := []) ⟨hx, hb, hml, hown, hts⟩ (m_next l D cA cB cS mo cs rs mg mm mx my mf mt fB fM gX gY gF gT mv mp me pp (by omega) (by omega) (by omega)) ⟨(callB_of 1 hts (gIn vm_330) rfl rfl rfl (hts _ (List.mem_cons_of_mem _ vm_8)) (hts _ (List.mem_cons_of_mem _ vm_328)) (by decide +kernel) ⟨Nat.le_of_ble_eq_true rfl, Nat.le_of_ble_eq_true rfl⟩), (hts _ (List.mem_cons_of_mem _ vm_329)), (hts _ (List.mem_cons_of_mem _ vm_424))⟩ (pR.preV (va_recv hK hP (ci := 4) (q0 := 0) rfl rfl) (hP.sub [0, 1, 2, 3, 4, 5, 6] rfl) hKW) rfl rfl hl.1 rfl (lv_room (Nat.le_of_ble_eq_true rfl)) dM_isLeft_2 ⟨Nat.le_of_ble_eq_true rfl, Nat.le_of_ble_eq_true rfl⟩) (fun z_1 hz_1 => ?_)
  subst hz_1
  refine lv_istore (lv' := [(6, .int (iI ((nxM gF mp pp : Nat) : Int))), (0, .ref mo), (1, .int (iI (pp : Int))), (2, .long (lI xx)), (4, .long (lI yy))]) hx hb dM_isLeft_5 hl (by decide) rfl (fun ls hl => ?_)
  refine lv_aload_n hx hb dM_isLeft_7 rfl (lv_at hl 1 rfl) ?_
  refine va_get (ci := 4) (v := .ref mx) (C := "WindingRasterModel") (T := TM) (N := 11) hx hb hts in_4 hown hK hP 0 rfl rfl 5 (by decide) fl_18 (fun _ h9 => h9) rfl dM_isLeft_8 ?_
  refine lv_iload hx hb dM_isLeft_11 (lv_at hl 0 rfl) ?_
  refine ii_iald hx hb hK hP 3 0 rfl rfl (nxM gF mp pp) rfl (by omega) (by omega) dM_isLeft_13 ?_
  refine ii_i2l hx hb dM_isLeft_14 (by omega) ?_
  refine lv_aload_n hx hb dM_isLeft_15 rfl (lv_at hl 1 rfl) ?_
  refine va_get (ci := 4) (v := .ref mx) (C := "WindingRasterModel") (T := TM) (N := 11) hx hb hts in_4 hown hK hP 0 rfl rfl 5 (by decide) fl_18 (fun _ h9 => h9) rfl dM_isLeft_16 ?_
  refine lv_iload_n hx hb dM_isLeft_19 rfl (lv_at hl 2 rfl) ?_
  refine ii_iald hx hb hK hP 3 0 rfl rfl pp rfl (by omega) (by omega) dM_isLeft_20 ?_
  refine ii_i2l hx hb dM_isLeft_21 (by omega) ?_
  refine ii_lsub hx hb dM_isLeft_22 ?_
  refine lv_lload hx hb dM_isLeft_23 (lv_at hl 4 rfl) ?_
  refine lv_aload_n hx hb dM_isLeft_25 rfl (lv_at hl 1 rfl) ?_
  refine va_get (ci := 4) (v := .ref my) (C := "WindingRasterModel") (T := TM) (N := 11) hx hb hts in_4 hown hK hP 0 rfl rfl 6 (by decide) fl_22 (fun _ h9 => h9) rfl dM_isLeft_26 ?_
  refine lv_iload_n hx hb dM_isLeft_29 rfl (lv_at hl 2 rfl) ?_
  refine ii_iald hx hb hK hP 4 0 rfl rfl pp rfl (by omega) (by omega) dM_isLeft_30 ?_
  refine ii_i2l hx hb dM_isLeft_31 (by omega) ?_
  refine ii_lsub hx hb dM_isLeft_32 ?_
  refine ii_lmul hx hb dM_isLeft_33 ?_
  refine lv_lstore (lv' := [(7, .long (lI (((gX (nxM gF mp pp)) - (gX pp)) * (yy - (gY pp))))), (6, .int (iI ((nxM gF mp pp : Nat) : Int))), (0, .ref mo), (1, .int (iI (pp : Int))), (2, .long (lI xx)), (4, .long (lI yy))]) hx hb dM_isLeft_34 hl (by decide) rfl (fun ls hl => ?_)
  refine lv_lload_n hx hb dM_isLeft_36 rfl (lv_at hl 4 rfl) ?_
  refine lv_aload_n hx hb dM_isLeft_37 rfl (lv_at hl 2 rfl) ?_
  refine va_get (ci := 4) (v := .ref mx) (C := "WindingRasterModel") (T := TM) (N := 11) hx hb hts in_4 hown hK hP 0 rfl rfl 5 (by decide) fl_18 (fun _ h9 => h9) rfl dM_isLeft_38 ?_
  refine lv_iload_n hx hb dM_isLeft_41 rfl (lv_at hl 3 rfl) ?_
  refine ii_iald hx hb hK hP 3 0 rfl rfl pp rfl (by omega) (by omega) dM_isLeft_42 ?_
  refine ii_i2l hx hb dM_isLeft_43 (by omega) ?_
  refine ii_lsub hx hb dM_isLeft_44 ?_
  refine lv_aload_n hx hb dM_isLeft_45 rfl (lv_at hl 2 rfl) ?_
  refine va_get (ci := 4) (v := .ref my) (C := "WindingRasterModel") (T := TM) (N := 11) hx hb hts in_4 hown hK hP 0 rfl rfl 6 (by decide) fl_22 (fun _ h9 => h9) rfl dM_isLeft_46 ?_
  refine lv_iload hx hb dM_isLeft_49 (lv_at hl 1 rfl) ?_
  refine ii_iald hx hb hK hP 4 0 rfl rfl (nxM gF mp pp) rfl (by omega) (by omega) dM_isLeft_51 ?_
  refine ii_i2l hx hb dM_isLeft_52 (by omega) ?_
  refine lv_aload_n hx hb dM_isLeft_53 rfl (lv_at hl 2 rfl) ?_
  refine va_get (ci := 4) (v := .ref my) (C := "WindingRasterModel") (T := TM) (N := 11) hx hb hts in_4 hown hK hP 0 rfl rfl 6 (by decide) fl_22 (fun _ h9 => h9) rfl dM_isLeft_54 ?_
  refine lv_iload_n hx hb dM_isLeft_57 rfl (lv_at hl 3 rfl) ?_
  refine ii_iald hx hb hK hP 4 0 rfl rfl pp rfl (by omega) (by omega) dM_isLeft_58 ?_
  refine ii_i2l hx hb dM_isLeft_59 (by omega) ?_
  refine ii_lsub hx hb dM_isLeft_60 ?_
  refine ii_lmul hx hb dM_isLeft_61 ?_
  refine lv_lstore (lv' := [(9, .long (lI ((xx - (gX pp)) * ((gY (nxM gF mp pp)) - (gY pp))))), (7, .long (lI (((gX (nxM gF mp pp)) - (gX pp)) * (yy - (gY pp))))), (6, .int (iI ((nxM gF mp pp : Nat) : Int))), (0, .ref mo), (1, .int (iI (pp : Int))), (2, .long (lI xx)), (4, .long (lI yy))]) hx hb dM_isLeft_62 hl (by decide) rfl (fun ls hl => ?_)
  refine lv_aload_n hx hb dM_isLeft_64 rfl (lv_at hl 3 rfl) ?_
  refine va_get (ci := 4) (v := .ref my) (C := "WindingRasterModel") (T := TM) (N := 11) hx hb hts in_4 hown hK hP 0 rfl rfl 6 (by decide) fl_22 (fun _ h9 => h9) rfl dM_isLeft_65 ?_
  refine lv_iload hx hb dM_isLeft_68 (lv_at hl 2 rfl) ?_
  refine ii_iald hx hb hK hP 4 0 rfl rfl (nxM gF mp pp) rfl (by omega) (by omega) dM_isLeft_70 ?_
  refine lv_aload_n hx hb dM_isLeft_71 rfl (lv_at hl 3 rfl) ?_
  refine va_get (ci := 4) (v := .ref my) (C := "WindingRasterModel") (T := TM) (N := 11) hx hb hts in_4 hown hK hP 0 rfl rfl 6 (by decide) fl_22 (fun _ h9 => h9) rfl dM_isLeft_72 ?_
  refine lv_iload_n hx hb dM_isLeft_75 rfl (lv_at hl 4 rfl) ?_
  refine ii_iald hx hb hK hP 4 0 rfl rfl pp rfl (by omega) (by omega) dM_isLeft_76 ?_
  refine ii_icmp_le (tgt := 96) hx hb dM_isLeft_77 (by decide) (by omega) (by omega) (fun c77 => ?_) (fun c77 => ?_)
  · refine lv_lload hx hb dM_isLeft_96 (lv_at hl 1 rfl) ?_
    refine lv_lload hx hb dM_isLeft_98 (lv_at hl 0 rfl) ?_
    refine ii_lcmp hx hb dM_isLeft_100 (by omega) (by omega) (fun zc_2 hzc_2 => ?_)
    refine ii_if_lt (tgt := 108) hx hb dM_isLeft_101 (by decide) (by omega) (fun c101 => ?_) (fun c101 => ?_)
    · refine ii_iconst (n := 0) hx hb dM_isLeft_108 ?_
      rw [← hQ]
      exact rd_zret hx hb hr hlocks (nar_b (by omega)) (by omega) dM_isLeft_109
    · refine ii_iconst (n := 1) hx hb dM_isLeft_104 ?_
      refine lv_goto (tgt := 109) hx hb dM_isLeft_105 (by decide) ?_
      rw [← hQ]
      exact rd_zret hx hb hr hlocks (nar_b (by omega)) (by omega) dM_isLeft_109
  · refine lv_lload hx hb dM_isLeft_80 (lv_at hl 1 rfl) ?_
    refine lv_lload hx hb dM_isLeft_82 (lv_at hl 0 rfl) ?_
    refine ii_lcmp hx hb dM_isLeft_84 (by omega) (by omega) (fun zc_3 hzc_3 => ?_)
    refine ii_if_gt (tgt := 92) hx hb dM_isLeft_85 (by decide) (by omega) (fun c85 => ?_) (fun c85 => ?_)
    · refine ii_iconst (n := 0) hx hb dM_isLeft_92 ?_
      refine lv_goto (tgt := 109) hx hb dM_isLeft_93 (by decide) ?_
      rw [← hQ]
      exact rd_zret hx hb hr hlocks (nar_b (by omega)) (by omega) dM_isLeft_109
    · refine ii_iconst (n := 1) hx hb dM_isLeft_88 ?_
      refine lv_goto (tgt := 109) hx hb dM_isLeft_89 (by decide) ?_
      rw [← hQ]
      exact rd_zret hx hb hr hlocks (nar_b (by omega)) (by omega) dM_isLeft_109

def rm_m_windings : Room := { frames := 2, cells := 0, slots := 0, locals := 51 }
set_option maxHeartbeats 4000000 in
set_option maxRecDepth 100000 in
theorem m_windings (l : Launch) (D : va_G) (cA cB cS : ClassId) (mo : Nat) (cs : Nat) (rs : Nat) (mg : Nat) (mm : Nat) (mx : Nat) (my : Nat) (mf : Nat) (mt : Nat) (fB : Nat → Int) (fM : Nat → Int) (gX : Nat → Int) (gY : Nat → Int) (gF : Nat → Int) (gT : Nat → Int) (mv : Nat) (mp : Nat) (me : Nat) (kc : Nat) (kr : Nat) (h2 : mp ≤ 4096) (hf : firM gF mp) (hp : ∀ i, i < mp → (-536870912 ≤ gX i ∧ gX i ≤ 536870912) ∧ (-536870912 ≤ gY i ∧ gY i ≤ 536870912)) (h1 : kr < 256) (h3 : kc < 256) (h4 : metI gX gY gF mp ((kr * 65536 + 32768 : Nat) : Int) gT me mp) : Met l yM_windings wM_windings rm_m_windings (pR [.ref mo, .int (iI (kc : Int)), .int (iI (kr : Int))] D vwCl (vwTy cA cB cS) vwNw [(mo, .inr (4, [.int (iI (cs : Int)), .int (iI (rs : Int)), .ref mg, .ref mm, .int (iI (mv : Int)), .ref mx, .ref my, .ref mf, .int (iI (mp : Int)), .ref mt, .int (iI (me : Int))])), (mg, .inl (cB, 65536, .inl (iA fB))), (mm, .inl (cS, 65536, .inl (iA fM))), (mx, .inl (cA, 4096, .inl (iA gX))), (my, .inl (cA, 4096, .inl (iA gY))), (mf, .inl (cA, 4096, .inl (iA gF))), (mt, .inl (cA, 4096, .inl (iA gT)))]) (qI (fun z => z = wiZ gX gY (nxZ gF mp) mp ((kr * 65536 + 32768 : Nat) : Int) (kc : Int))) 0 0 (fun _ => False) := by
  refine Met.ofW (cc := bM_windings) (maxL := 6) (ret := (some .int)) (by decide +kernel) rfl ?_
  intro p e s m args below meth c s₁ B hml hv
  obtain ⟨rfl, hP, hKW⟩ := hv
  have hK := hKW.1
  have hN := hKW.2.2
  have hx := B.exec
  have hb := B.bytes
  have hr := B.returns
  have hts := atoms_spec (ws := wM_windings) B.pre
  have hown : s.vm.findClass "WindingRasterModel" = some m.cls := findClass_of_methodNamed B.named
  have hlocks := B.notSynchronized
  have hP : va_P D vwCl [(mo, .inr (4, [.int (iI (cs : Int)), .int (iI (rs : Int)), .ref mg, .ref mm, .int (iI (mv : Int)), .ref mx, .ref my, .ref mf, .int (iI (mp : Int)), .ref mt, .int (iI (me : Int))])), (mg, .inl (cB, 65536, .inl (iA fB))), (mm, .inl (cS, 65536, .inl (iA fM))), (mx, .inl (cA, 4096, .inl (iA gX))), (my, .inl (cA, 4096, .inl (iA gY))), (mf, .inl (cA, 4096, .inl (iA gF))), (mt, .inl (cA, 4096, .inl (iA gT)))] s.heap := hP
  have in_4 : ∀ w ∈ wsM, w ∈ wM_windings := fun w h => List.mem_cons_of_mem _ (in0_M w h)
  have fl_65 := (hts _ (List.mem_cons_of_mem _ vm_271))
  have fl_28 := (hts _ (List.mem_cons_of_mem _ vm_270))
  have fl_22 := (hts _ (List.mem_cons_of_mem _ vm_267))
  have hl := lv_entry ([.ref mo, .int (iI (kc : Int)), .int (iI (kr : Int))]) (n := 6) (Nat.le_of_ble_eq_true rfl)
  rw [lg_entry_eq]
  generalize (lg_sl ([.ref mo, .int (iI (kc : Int)), .int (iI (kr : Int))]) ++ List.replicate (6 - (lg_sl ([.ref mo, .int (iI (kc : Int)), .int (iI (kr : Int))])).length) Slot.unset).toArray = ls at hl ⊢
  have hl : lv_has ls 6 [(0, .ref mo), (1, .int (iI (kc : Int))), (2, .int (iI (kr : Int)))] := hl
  generalize hQ : MQ below (qI (fun z => z = wiZ gX gY (nxZ gF mp) mp ((kr * 65536 + 32768 : Nat) : Int) (kc : Int))) [.ref mo, .int (iI (kc : Int)), .int (iI (kr : Int))].toArray s 0 0 (fun _ => False) = QQ
  have hme := h4.1
  refine ii_iconst (n := 0) hx hb dM_windings_0 ?_
  refine lv_istore_n (lv' := [(3, .int (iI 0)), (0, .ref mo), (1, .int (iI (kc : Int))), (2, .int (iI (kr : Int)))]) hx hb dM_windings_1 rfl hl (by decide) rfl (fun ls hl => ?_)
  refine ii_iconst (n := 0) hx hb dM_windings_2 ?_
  refine lv_istore (lv' := [(4, .int (iI 0)), (3, .int (iI 0)), (0, .ref mo), (1, .int (iI (kc : Int))), (2, .int (iI (kr : Int)))]) hx hb dM_windings_3 hl (by decide) rfl (fun ls hl => ?_)
  have lp5 : ∀ (n_ : Nat) (t : Nat) (sn : Int), (t ≤ me) → (sn = sm (fun t => ctM gX gY gF mp ((kr * 65536 + 32768 : Nat) : Int) (kc : Int) (gT t).toNat) t) → (me - t) < n_ → ∀ ls : Array Slot, lv_has ls 6 [(4, .int (iI (t : Int))), (3, .int (iI sn)), (0, .ref mo), (1, .int (iI (kc : Int))), (2, .int (iI (kr : Int)))] → W p l e (headSpec wM_windings rm_m_windings).room s m [.ref mo, .int (iI (kc : Int)), .int (iI (kr : Int))].toArray below meth c s.heap [] 0 0 QQ (F0 m 5 ls []) := by
    intro n_
    induction n_ with
    | zero =>
      intro t sn t1 t2 hm_
      exact absurd hm_ (Nat.not_lt_zero _)
    | succ n_ ih_lp5 =>
      intro t sn t1 t2 hm_lp5 ls hl
      refine lv_iload hx hb dM_windings_5 (lv_at hl 0 rfl) ?_
      refine lv_aload_n hx hb dM_windings_7 rfl (lv_at hl 2 rfl) ?_
      refine va_get (ci := 4) (v := .int (iI (me : Int))) (C := "WindingRasterModel") (T := TM) (N := 11) hx hb hts in_4 hown hK hP 0 rfl rfl 10 (by decide) fl_65 (fun _ h9 => h9) rfl dM_windings_8 ?_
      refine ii_icmp_ge (tgt := 75) hx hb dM_windings_11 (by decide) (by omega) (by omega) (fun c11 => ?_) (fun c11 => ?_)
      · refine lv_iload_n hx hb dM_windings_75 rfl (lv_at hl 1 rfl) ?_
        rw [← hQ]
        exact rd_iret hx hb hr hlocks (by rw [t2, show t = me by omega]; exact h4.2.2 _) dM_windings_76
      · obtain ⟨w1, w2, w3⟩ := h4.2.1 t (by omega)
        obtain ⟨pq, hpq⟩ : ∃ pq : Nat, gT t = (pq : Int) := ⟨(gT t).toNat, by omega⟩
        have epq : (gT t).toNat = pq := by omega
        rw [epq] at w3
        have g1 := hp pq (by omega)
        have g2 := nxM_lt hf (p := pq) (by omega)
        have g3 := hp _ g2
        have g4 := stZ_cases (gY pq) (gY (nxM gF mp pq)) ((kr * 65536 + 32768 : Nat) : Int)
        have g5 : ctM gX gY gF mp ((kr * 65536 + 32768 : Nat) : Int) (kc : Int) pq = ctZ (gX pq) (gY pq) (gX (nxM gF mp pq)) (gY (nxM gF mp pq)) ((kr * 65536 + 32768 : Nat) : Int) (kc : Int) := rfl
        have g6 := ctZ_cases (gX pq) (gY pq) (gX (nxM gF mp pq)) (gY (nxM gF mp pq)) ((kr * 65536 + 32768 : Nat) : Int) (kc : Int)
        have g7 : 0 < gY (nxM gF mp pq) - gY pq → _ := fun w => coZ_pos (a := gX pq) (c := gX (nxM gF mp pq)) (y := ((kr * 65536 + 32768 : Nat) : Int)) (k := (kc : Int)) w
        have g8 : gY (nxM gF mp pq) - gY pq < 0 → _ := fun w => coZ_neg (a := gX pq) (c := gX (nxM gF mp pq)) (y := ((kr * 65536 + 32768 : Nat) : Int)) (k := (kc : Int)) w
        refine lv_aload_n hx hb dM_windings_14 rfl (lv_at hl 2 rfl) ?_
        refine va_get (ci := 4) (v := .ref mt) (C := "WindingRasterModel") (T := TM) (N := 11) hx hb hts in_4 hown hK hP 0 rfl rfl 9 (by decide) fl_28 (fun _ h9 => h9) rfl dM_windings_15 ?_
        refine lv_iload hx hb dM_windings_18 (lv_at hl 0 rfl) ?_
        refine ii_iald hx hb hK hP 6 0 rfl rfl t rfl (by omega) (by omega) dM_windings_20 ?_
        refine ii_top (y := (pq : Int)) hpq ?_
        refine lv_istore (lv' := [(5, .int (iI (pq : Int))), (4, .int (iI (t : Int))), (3, .int (iI sn)), (0, .ref mo), (1, .int (iI (kc : Int))), (2, .int (iI (kr : Int)))]) hx hb dM_windings_21 hl (by decide) rfl (fun ls hl => ?_)
        refine lv_aload_n hx hb dM_windings_23 rfl (lv_at hl 3 rfl) ?_
        refine lv_iload hx hb dM_windings_24 (lv_at hl 0 rfl) ?_
        refine lv_iload_n hx hb dM_windings_26 rfl (lv_at hl 4 rfl) ?_
        refine cs_l (va_runS (As := [.int (iI (kc : Int))]) (rest := [.int (iI (pq : Int)), .ref mo]) ⟨hx, hb, hml, hown, hts⟩ (m_centre l D cA cB cS kc (by omega)) ⟨(callB_of 1 hts (gIn vm_325) rfl rfl rfl (hts _ (List.mem_cons_of_mem _ vm_8)) (hts _ (List.mem_cons_of_mem _ vm_323)) (by decide +kernel) ⟨Nat.le_of_ble_eq_true rfl, Nat.le_of_ble_eq_true rfl⟩), (hts _ (List.mem_cons_of_mem _ vm_324))⟩ (pR.pre (hP.sub [] rfl) hKW) rfl rfl hl.1 rfl (lv_room (Nat.le_of_ble_eq_true rfl)) dM_windings_27 ⟨Nat.le_of_ble_eq_true rfl, Nat.le_of_ble_eq_true rfl⟩) (fun z_1 hz_1 => ?_)
        subst hz_1
        refine ll_top (y := 65536 * (kc : Int) + 32768) (by omega) ?_
        refine lv_iload_n hx hb dM_windings_30 rfl (lv_at hl 5 rfl) ?_
        refine cs_l (va_runS (As := [.int (iI (kr : Int))]) (rest := [.long (lI (65536 * (kc : Int) + 32768)), .int (iI (pq : Int)), .ref mo]) ⟨hx, hb, hml, hown, hts⟩ (m_centre l D cA cB cS kr (by omega)) ⟨(callB_of 1 hts (gIn vm_325) rfl rfl rfl (hts _ (List.mem_cons_of_mem _ vm_8)) (hts _ (List.mem_cons_of_mem _ vm_323)) (by decide +kernel) ⟨Nat.le_of_ble_eq_true rfl, Nat.le_of_ble_eq_true rfl⟩), (hts _ (List.mem_cons_of_mem _ vm_324))⟩ (pR.pre (hP.sub [] rfl) hKW) rfl rfl hl.1 rfl (lv_room (Nat.le_of_ble_eq_true rfl)) dM_windings_31 ⟨Nat.le_of_ble_eq_true rfl, Nat.le_of_ble_eq_true rfl⟩) (fun z_2 hz_2 => ?_)
        subst hz_2
        refine cs_i (va_runV (As := [.int (iI (pq : Int)), .long (lI (65536 * (kc : Int) + 32768)), .long (lI ((kr * 65536 + 32768 : Nat) : Int))]) (rest := []) ⟨hx, hb, hml, hown, hts⟩ (m_isLeft l D cA cB cS mo cs rs mg mm mx my mf mt fB fM gX gY gF gT mv mp me pq (65536 * (kc : Int) + 32768) ((kr * 65536 + 32768 : Nat) : Int) (by omega) (by omega) (by omega) (by omega) (by omega) (by omega)) ⟨(callB_of 3 hts (gIn vm_336) rfl rfl rfl (hts _ (List.mem_cons_of_mem _ vm_8)) (hts _ (List.mem_cons_of_mem _ vm_334)) (by decide +kernel) ⟨Nat.le_of_ble_eq_true rfl, Nat.le_of_ble_eq_true rfl⟩), (hts _ (List.mem_cons_of_mem _ vm_335)), (hts _ (List.mem_cons_of_mem _ vm_426))⟩ (pR.preV (va_recv hK hP (ci := 4) (q0 := 0) rfl rfl) (hP.sub [0, 1, 2, 3, 4, 5, 6] rfl) hKW) rfl rfl hl.1 rfl (lv_room (Nat.le_of_ble_eq_true rfl)) dM_windings_34 ⟨Nat.le_of_ble_eq_true rfl, Nat.le_of_ble_eq_true rfl⟩) (fun zl hzl => ?_)
        refine ii_if_eq (tgt := 69) hx hb dM_windings_37 (by decide) (by omega) (fun c37 => ?_) (fun c37 => ?_)
        · refine lv_iinc (v := iI ((t + 1 : Nat) : Int)) (lv' := [(4, .int (iI ((t + 1 : Nat) : Int))), (5, .int (iI (pq : Int))), (3, .int (iI sn)), (0, .ref mo), (1, .int (iI (kc : Int))), (2, .int (iI (kr : Int)))]) hx hb dM_windings_69 hl (k := 1) rfl (iI_inc _ 1 (by omega)) (by decide) rfl (fun ls hl => ?_)
          refine lv_goto (tgt := 5) hx hb dM_windings_72 (by decide) ?_
          exact ih_lp5 (t + 1) sn (by omega) (by show _ = sm _ t + ctM gX gY gF mp ((kr * 65536 + 32768 : Nat) : Int) (kc : Int) (gT t).toNat; rw [← t2, epq]; omega) (by omega) _ (lv_sub hl [0, 2, 3, 4, 5] rfl)
        · refine lv_iload_n hx hb dM_windings_40 rfl (lv_at hl 2 rfl) ?_
          refine lv_aload_n hx hb dM_windings_41 rfl (lv_at hl 3 rfl) ?_
          refine va_get (ci := 4) (v := .ref my) (C := "WindingRasterModel") (T := TM) (N := 11) hx hb hts in_4 hown hK hP 0 rfl rfl 6 (by decide) fl_22 (fun _ h9 => h9) rfl dM_windings_42 ?_
          refine lv_aload_n hx hb dM_windings_45 rfl (lv_at hl 3 rfl) ?_
          refine lv_iload hx hb dM_windings_46 (lv_at hl 0 rfl) ?_
          refine cs_i (va_runV (As := [.int (iI (pq : Int))]) (rest := [.ref my, .int (iI sn)]) ⟨hx, hb, hml, hown, hts⟩ (m_next l D cA cB cS mo cs rs mg mm mx my mf mt fB fM gX gY gF gT mv mp me pq (by omega) (by omega) (by omega)) ⟨(callB_of 1 hts (gIn vm_330) rfl rfl rfl (hts _ (List.mem_cons_of_mem _ vm_8)) (hts _ (List.mem_cons_of_mem _ vm_328)) (by decide +kernel) ⟨Nat.le_of_ble_eq_true rfl, Nat.le_of_ble_eq_true rfl⟩), (hts _ (List.mem_cons_of_mem _ vm_329)), (hts _ (List.mem_cons_of_mem _ vm_424))⟩ (pR.preV (va_recv hK hP (ci := 4) (q0 := 0) rfl rfl) (hP.sub [0, 1, 2, 3, 4, 5, 6] rfl) hKW) rfl rfl hl.1 rfl (lv_room (Nat.le_of_ble_eq_true rfl)) dM_windings_48 ⟨Nat.le_of_ble_eq_true rfl, Nat.le_of_ble_eq_true rfl⟩) (fun z_3 hz_3 => ?_)
          subst hz_3
          refine ii_iald hx hb hK hP 4 0 rfl rfl (nxM gF mp pq) rfl (by omega) (by omega) dM_windings_51 ?_
          refine lv_aload_n hx hb dM_windings_52 rfl (lv_at hl 3 rfl) ?_
          refine va_get (ci := 4) (v := .ref my) (C := "WindingRasterModel") (T := TM) (N := 11) hx hb hts in_4 hown hK hP 0 rfl rfl 6 (by decide) fl_22 (fun _ h9 => h9) rfl dM_windings_53 ?_
          refine lv_iload hx hb dM_windings_56 (lv_at hl 0 rfl) ?_
          refine ii_iald hx hb hK hP 4 0 rfl rfl pq rfl (by omega) (by omega) dM_windings_58 ?_
          refine ii_icmp_le (tgt := 66) hx hb dM_windings_59 (by decide) (by omega) (by omega) (fun c59 => ?_) (fun c59 => ?_)
          · refine ii_iconst (n := (-1)) hx hb dM_windings_66 ?_
            refine ii_iadd hx hb dM_windings_67 ?_
            refine lv_istore_n (lv' := [(3, .int (iI (sn + (-1)))), (5, .int (iI (pq : Int))), (4, .int (iI (t : Int))), (0, .ref mo), (1, .int (iI (kc : Int))), (2, .int (iI (kr : Int)))]) hx hb dM_windings_68 rfl hl (by decide) rfl (fun ls hl => ?_)
            refine lv_iinc (v := iI ((t + 1 : Nat) : Int)) (lv' := [(4, .int (iI ((t + 1 : Nat) : Int))), (3, .int (iI (sn + (-1)))), (5, .int (iI (pq : Int))), (0, .ref mo), (1, .int (iI (kc : Int))), (2, .int (iI (kr : Int)))]) hx hb dM_windings_69 hl (k := 2) rfl (iI_inc _ 1 (by omega)) (by decide) rfl (fun ls hl => ?_)
            refine lv_goto (tgt := 5) hx hb dM_windings_72 (by decide) ?_
            exact ih_lp5 (t + 1) (sn + (-1)) (by omega) (by show _ = sm _ t + ctM gX gY gF mp ((kr * 65536 + 32768 : Nat) : Int) (kc : Int) (gT t).toNat; rw [← t2, epq]; omega) (by omega) _ (lv_sub hl [0, 1, 3, 4, 5] rfl)
          · refine ii_iconst (n := 1) hx hb dM_windings_62 ?_
            refine lv_goto (tgt := 67) hx hb dM_windings_63 (by decide) ?_
            refine ii_iadd hx hb dM_windings_67 ?_
            refine lv_istore_n (lv' := [(3, .int (iI (sn + 1))), (5, .int (iI (pq : Int))), (4, .int (iI (t : Int))), (0, .ref mo), (1, .int (iI (kc : Int))), (2, .int (iI (kr : Int)))]) hx hb dM_windings_68 rfl hl (by decide) rfl (fun ls hl => ?_)
            refine lv_iinc (v := iI ((t + 1 : Nat) : Int)) (lv' := [(4, .int (iI ((t + 1 : Nat) : Int))), (3, .int (iI (sn + 1))), (5, .int (iI (pq : Int))), (0, .ref mo), (1, .int (iI (kc : Int))), (2, .int (iI (kr : Int)))]) hx hb dM_windings_69 hl (k := 2) rfl (iI_inc _ 1 (by omega)) (by decide) rfl (fun ls hl => ?_)
            refine lv_goto (tgt := 5) hx hb dM_windings_72 (by decide) ?_
            exact ih_lp5 (t + 1) (sn + 1) (by omega) (by show _ = sm _ t + ctM gX gY gF mp ((kr * 65536 + 32768 : Nat) : Int) (kc : Int) (gT t).toNat; rw [← t2, epq]; omega) (by omega) _ (lv_sub hl [0, 1, 3, 4, 5] rfl)
  exact lp5 (me - 0 + 1) 0 0 (by omega) rfl (Nat.lt_succ_self _) _ (lv_sub hl [0, 1, 2, 3, 4] rfl)

def rm_m_isPixel : Room := { frames := 0, cells := 0, slots := 0, locals := 0 }
set_option maxHeartbeats 4000000 in
set_option maxRecDepth 100000 in
theorem m_isPixel (l : Launch) (D : va_G) (cA cB cS : ClassId) (mo : Nat) (cs : Nat) (rs : Nat) (mg : Nat) (mm : Nat) (mx : Nat) (my : Nat) (mf : Nat) (mt : Nat) (fB : Nat → Int) (fM : Nat → Int) (gX : Nat → Int) (gY : Nat → Int) (gF : Nat → Int) (gT : Nat → Int) (mv : Nat) (mp : Nat) (me : Nat) (a1 : Int) (a2 : Int) (h1 : i32 a1) (h3 : i32 a2) (hc : 0 < cs ∧ cs ≤ 256) (hr_ : 0 < rs ∧ rs ≤ 256) : Met l yM_isPixel wM_isPixel rm_m_isPixel (pR [.ref mo, .int (iI a1), .int (iI a2)] D vwCl (vwTy cA cB cS) vwNw [(mo, .inr (4, [.int (iI (cs : Int)), .int (iI (rs : Int)), .ref mg, .ref mm, .int (iI (mv : Int)), .ref mx, .ref my, .ref mf, .int (iI (mp : Int)), .ref mt, .int (iI (me : Int))])), (mg, .inl (cB, 65536, .inl (iA fB))), (mm, .inl (cS, 65536, .inl (iA fM))), (mx, .inl (cA, 4096, .inl (iA gX))), (my, .inl (cA, 4096, .inl (iA gY))), (mf, .inl (cA, 4096, .inl (iA gF))), (mt, .inl (cA, 4096, .inl (iA gT)))]) (qI (fun z => (z = 1 ∧ ((0 ≤ a1 ∧ a1 < (cs : Int) ∧ 0 ≤ a2 ∧ a2 < (rs : Int)))) ∨ (z = 0 ∧ ¬ ((0 ≤ a1 ∧ a1 < (cs : Int) ∧ 0 ≤ a2 ∧ a2 < (rs : Int)))))) 0 0 (fun _ => False) := by
  refine Met.ofW (cc := bM_isPixel) (maxL := 3) (ret := (some .boolean)) (by decide +kernel) rfl ?_
  intro p e s m args below meth c s₁ B hml hv
  obtain ⟨rfl, hP, hKW⟩ := hv
  have hK := hKW.1
  have hN := hKW.2.2
  have hx := B.exec
  have hb := B.bytes
  have hr := B.returns
  have hts := atoms_spec (ws := wM_isPixel) B.pre
  have hown : s.vm.findClass "WindingRasterModel" = some m.cls := findClass_of_methodNamed B.named
  have hlocks := B.notSynchronized
  have hP : va_P D vwCl [(mo, .inr (4, [.int (iI (cs : Int)), .int (iI (rs : Int)), .ref mg, .ref mm, .int (iI (mv : Int)), .ref mx, .ref my, .ref mf, .int (iI (mp : Int)), .ref mt, .int (iI (me : Int))])), (mg, .inl (cB, 65536, .inl (iA fB))), (mm, .inl (cS, 65536, .inl (iA fM))), (mx, .inl (cA, 4096, .inl (iA gX))), (my, .inl (cA, 4096, .inl (iA gY))), (mf, .inl (cA, 4096, .inl (iA gF))), (mt, .inl (cA, 4096, .inl (iA gT)))] s.heap := hP
  have in_4 : ∀ w ∈ wsM, w ∈ wM_isPixel := fun w h => List.mem_cons_of_mem _ (in0_M w h)
  have fl_35 := (hts _ (List.mem_cons_of_mem _ vm_261))
  have fl_39 := (hts _ (List.mem_cons_of_mem _ vm_262))
  have hl := lv_entry ([.ref mo, .int (iI a1), .int (iI a2)]) (n := 3) (Nat.le_of_ble_eq_true rfl)
  rw [lg_entry_eq]
  generalize (lg_sl ([.ref mo, .int (iI a1), .int (iI a2)]) ++ List.replicate (3 - (lg_sl ([.ref mo, .int (iI a1), .int (iI a2)])).length) Slot.unset).toArray = ls at hl ⊢
  have hl : lv_has ls 3 [(0, .ref mo), (1, .int (iI a1)), (2, .int (iI a2))] := hl
  generalize hQ : MQ below (qI (fun z => (z = 1 ∧ ((0 ≤ a1 ∧ a1 < (cs : Int) ∧ 0 ≤ a2 ∧ a2 < (rs : Int)))) ∨ (z = 0 ∧ ¬ ((0 ≤ a1 ∧ a1 < (cs : Int) ∧ 0 ≤ a2 ∧ a2 < (rs : Int)))))) [.ref mo, .int (iI a1), .int (iI a2)].toArray s 0 0 (fun _ => False) = QQ
  refine lv_iload_n hx hb dM_isPixel_0 rfl (lv_at hl 1 rfl) ?_
  refine ii_if_lt (tgt := 28) hx hb dM_isPixel_1 (by decide) (by omega) (fun c1 => ?_) (fun c1 => ?_)
  · refine ii_iconst (n := 0) hx hb dM_isPixel_28 ?_
    rw [← hQ]
    exact rd_zret hx hb hr hlocks (nar_b (by omega)) (by omega) dM_isPixel_29
  · refine lv_iload_n hx hb dM_isPixel_4 rfl (lv_at hl 1 rfl) ?_
    refine lv_aload_n hx hb dM_isPixel_5 rfl (lv_at hl 0 rfl) ?_
    refine va_get (ci := 4) (v := .int (iI (cs : Int))) (C := "WindingRasterModel") (T := TM) (N := 11) hx hb hts in_4 hown hK hP 0 rfl rfl 0 (by decide) fl_35 (fun _ h9 => h9) rfl dM_isPixel_6 ?_
    refine ii_icmp_ge (tgt := 28) hx hb dM_isPixel_9 (by decide) (by omega) (by omega) (fun c9 => ?_) (fun c9 => ?_)
    · refine ii_iconst (n := 0) hx hb dM_isPixel_28 ?_
      rw [← hQ]
      exact rd_zret hx hb hr hlocks (nar_b (by omega)) (by omega) dM_isPixel_29
    · refine lv_iload_n hx hb dM_isPixel_12 rfl (lv_at hl 2 rfl) ?_
      refine ii_if_lt (tgt := 28) hx hb dM_isPixel_13 (by decide) (by omega) (fun c13 => ?_) (fun c13 => ?_)
      · refine ii_iconst (n := 0) hx hb dM_isPixel_28 ?_
        rw [← hQ]
        exact rd_zret hx hb hr hlocks (nar_b (by omega)) (by omega) dM_isPixel_29
      · refine lv_iload_n hx hb dM_isPixel_16 rfl (lv_at hl 2 rfl) ?_
        refine lv_aload_n hx hb dM_isPixel_17 rfl (lv_at hl 0 rfl) ?_
        refine va_get (ci := 4) (v := .int (iI (rs : Int))) (C := "WindingRasterModel") (T := TM) (N := 11) hx hb hts in_4 hown hK hP 0 rfl rfl 1 (by decide) fl_39 (fun _ h9 => h9) rfl dM_isPixel_18 ?_
        refine ii_icmp_ge (tgt := 28) hx hb dM_isPixel_21 (by decide) (by omega) (by omega) (fun c21 => ?_) (fun c21 => ?_)
        · refine ii_iconst (n := 0) hx hb dM_isPixel_28 ?_
          rw [← hQ]
          exact rd_zret hx hb hr hlocks (nar_b (by omega)) (by omega) dM_isPixel_29
        · refine ii_iconst (n := 1) hx hb dM_isPixel_24 ?_
          refine lv_goto (tgt := 29) hx hb dM_isPixel_25 (by decide) ?_
          rw [← hQ]
          exact rd_zret hx hb hr hlocks (nar_b (by omega)) (by omega) dM_isPixel_29

def rm_m_at : Room := { frames := 0, cells := 0, slots := 0, locals := 0 }
set_option maxHeartbeats 4000000 in
set_option maxRecDepth 100000 in
theorem m_at (l : Launch) (D : va_G) (cA cB cS : ClassId) (kc : Nat) (kr : Nat) : Met l yM_at wM_at rm_m_at (pR [.int (iI (kc : Int)), .int (iI (kr : Int))] D vwCl (vwTy cA cB cS) vwNw []) (qI (fun z => z = ((256 * kr + kc : Nat) : Int))) 0 0 (fun _ => False) := by
  refine Met.ofW (cc := bM_at) (maxL := 2) (ret := (some .int)) (by decide +kernel) rfl ?_
  intro p e s m args below meth c s₁ B hml hv
  obtain ⟨rfl, hP, hKW⟩ := hv
  have hK := hKW.1
  have hN := hKW.2.2
  have hx := B.exec
  have hb := B.bytes
  have hr := B.returns
  have hts := atoms_spec (ws := wM_at) B.pre
  have hown : s.vm.findClass "WindingRasterModel" = some m.cls := findClass_of_methodNamed B.named
  have hlocks := B.notSynchronized
  have hP : va_P D vwCl [] s.heap := hP
  have hl := lv_entry ([.int (iI (kc : Int)), .int (iI (kr : Int))]) (n := 2) (Nat.le_of_ble_eq_true rfl)
  rw [lg_entry_eq]
  generalize (lg_sl ([.int (iI (kc : Int)), .int (iI (kr : Int))]) ++ List.replicate (2 - (lg_sl ([.int (iI (kc : Int)), .int (iI (kr : Int))])).length) Slot.unset).toArray = ls at hl ⊢
  have hl : lv_has ls 2 [(0, .int (iI (kc : Int))), (1, .int (iI (kr : Int)))] := hl
  generalize hQ : MQ below (qI (fun z => z = ((256 * kr + kc : Nat) : Int))) [.int (iI (kc : Int)), .int (iI (kr : Int))].toArray s 0 0 (fun _ => False) = QQ
  refine ii_sipush (n := 256) hx hb dM_at_0 (by decide +kernel) ?_
  refine lv_iload_n hx hb dM_at_3 rfl (lv_at hl 1 rfl) ?_
  refine ii_imul hx hb dM_at_4 ?_
  refine ii_top (y := ((256 * kr : Nat) : Int)) (by push_cast; rfl) ?_
  refine lv_iload_n hx hb dM_at_5 rfl (lv_at hl 0 rfl) ?_
  refine ii_iadd hx hb dM_at_6 ?_
  refine ii_top (y := (((256 * kr) + kc : Nat) : Int)) (by push_cast; rfl) ?_
  rw [← hQ]
  exact rd_iret hx hb hr hlocks rfl dM_at_7

def rm_m_winding : Room := { frames := 3, cells := 0, slots := 0, locals := 76 }
set_option maxHeartbeats 4000000 in
set_option maxRecDepth 100000 in
theorem m_winding (l : Launch) (D : va_G) (cA cB cS : ClassId) (mo : Nat) (cs : Nat) (rs : Nat) (mg : Nat) (mm : Nat) (mx : Nat) (my : Nat) (mf : Nat) (mt : Nat) (fB : Nat → Int) (fM : Nat → Int) (gX : Nat → Int) (gY : Nat → Int) (gF : Nat → Int) (gT : Nat → Int) (mv : Nat) (mp : Nat) (me : Nat) (a1 : Int) (a2 : Int) (h1 : i32 a1) (h3 : i32 a2) (hc : 0 < cs ∧ cs ≤ 256) (hr_ : 0 < rs ∧ rs ≤ 256) (h2 : mp ≤ 4096) (hf : firM gF mp) (hp : ∀ i, i < mp → (-536870912 ≤ gX i ∧ gX i ≤ 536870912) ∧ (-536870912 ≤ gY i ∧ gY i ≤ 536870912)) (sz : Nat) : Met l yM_winding wM_winding rm_m_winding (pW [.ref mo, .int (iI a1), .int (iI a2)] D vwCl (vwTy cA cB cS) vwNw [(mo, .inr (4, [.int (iI (cs : Int)), .int (iI (rs : Int)), .ref mg, .ref mm, .int (iI (mv : Int)), .ref mx, .ref my, .ref mf, .int (iI (mp : Int)), .ref mt, .int (iI (me : Int))])), (mg, .inl (cB, 65536, .inl (iA fB))), (mm, .inl (cS, 65536, .inl (iA fM))), (mx, .inl (cA, 4096, .inl (iA gX))), (my, .inl (cA, 4096, .inl (iA gY))), (mf, .inl (cA, 4096, .inl (iA gF))), (mt, .inl (cA, 4096, .inl (iA gT)))] sz) (qW (S := (Nat → Int) × Nat) (fun (z : Int) (u : (Nat → Int) × Nat) => ((0 ≤ a1 ∧ a1 < (cs : Int) ∧ 0 ≤ a2 ∧ a2 < (rs : Int)) ∧ z = wiZ gX gY (nxZ gF mp) mp ((a2.toNat * 65536 + 32768 : Nat) : Int) (a1.toNat : Int)) ∨ (¬ (0 ≤ a1 ∧ a1 < (cs : Int) ∧ 0 ≤ a2 ∧ a2 < (rs : Int)) ∧ z = 0)) D vwCl [(mo, .inr (4, [.int (iI (cs : Int)), .int (iI (rs : Int)), .ref mg, .ref mm, .int (iI (mv : Int)), .ref mx, .ref my, .ref mf, .int (iI (mp : Int)), .ref mt, .int (iI (me : Int))])), (mg, .inl (cB, 65536, .inl (iA fB))), (mm, .inl (cS, 65536, .inl (iA fM))), (mx, .inl (cA, 4096, .inl (iA gX))), (my, .inl (cA, 4096, .inl (iA gY))), (mf, .inl (cA, 4096, .inl (iA gF))), (mt, .inl (cA, 4096, .inl (iA gT)))] sz (fun u : (Nat → Int) × Nat => [(mo, .inr (4, [.int (iI (cs : Int)), .int (iI (rs : Int)), .ref mg, .ref mm, .int (iI (mv : Int)), .ref mx, .ref my, .ref mf, .int (iI (mp : Int)), .ref mt, .int (iI ((u.2 : Nat) : Int))])), (mg, .inl (cB, 65536, .inl (iA fB))), (mm, .inl (cS, 65536, .inl (iA fM))), (mx, .inl (cA, 4096, .inl (iA gX))), (my, .inl (cA, 4096, .inl (iA gY))), (mf, .inl (cA, 4096, .inl (iA gF))), (mt, .inl (cA, 4096, .inl (iA u.1)))])) 0 0 (va_A [(mo, .inr (4, [.int (iI (cs : Int)), .int (iI (rs : Int)), .ref mg, .ref mm, .int (iI (mv : Int)), .ref mx, .ref my, .ref mf, .int (iI (mp : Int)), .ref mt, .int (iI (me : Int))])), (mg, .inl (cB, 65536, .inl (iA fB))), (mm, .inl (cS, 65536, .inl (iA fM))), (mx, .inl (cA, 4096, .inl (iA gX))), (my, .inl (cA, 4096, .inl (iA gY))), (mf, .inl (cA, 4096, .inl (iA gF))), (mt, .inl (cA, 4096, .inl (iA gT)))] sz) := by
  refine Met.ofW (cc := bM_winding) (maxL := 3) (ret := (some .int)) (by decide +kernel) rfl ?_
  intro p e s m args below meth c s₁ B hml hv
  obtain ⟨rfl, hsz, hP, hKW, hD0⟩ := hv
  have hK := hKW.1
  have hN := hKW.2.2
  have hx := B.exec
  have hb := B.bytes
  have hr := B.returns
  have hts := atoms_spec (ws := wM_winding) B.pre
  have hown : s.vm.findClass "WindingRasterModel" = some m.cls := findClass_of_methodNamed B.named
  have hlocks := B.notSynchronized
  subst hsz
  have hD := hD0.self (sz := s.heap.size)
  obtain ⟨A, hAe⟩ : ∃ A, va_A [(mo, .inr (4, [.int (iI (cs : Int)), .int (iI (rs : Int)), .ref mg, .ref mm, .int (iI (mv : Int)), .ref mx, .ref my, .ref mf, .int (iI (mp : Int)), .ref mt, .int (iI (me : Int))])), (mg, .inl (cB, 65536, .inl (iA fB))), (mm, .inl (cS, 65536, .inl (iA fM))), (mx, .inl (cA, 4096, .inl (iA gX))), (my, .inl (cA, 4096, .inl (iA gY))), (mf, .inl (cA, 4096, .inl (iA gF))), (mt, .inl (cA, 4096, .inl (iA gT)))] s.heap.size = A := ⟨_, rfl⟩
  rw [hAe] at hD
  have hA : ∀ q : Nat, s.heap.size ≤ q → A q := fun q h => by rw [← hAe]; exact Or.inr h
  have hS : va_S A s.heap s.heap [] := va_S.rf
  have hP : va_P D vwCl [(mo, .inr (4, [.int (iI (cs : Int)), .int (iI (rs : Int)), .ref mg, .ref mm, .int (iI (mv : Int)), .ref mx, .ref my, .ref mf, .int (iI (mp : Int)), .ref mt, .int (iI (me : Int))])), (mg, .inl (cB, 65536, .inl (iA fB))), (mm, .inl (cS, 65536, .inl (iA fM))), (mx, .inl (cA, 4096, .inl (iA gX))), (my, .inl (cA, 4096, .inl (iA gY))), (mf, .inl (cA, 4096, .inl (iA gF))), (mt, .inl (cA, 4096, .inl (iA gT)))] s.heap := hP
  have hl := lv_entry ([.ref mo, .int (iI a1), .int (iI a2)]) (n := 3) (Nat.le_of_ble_eq_true rfl)
  rw [lg_entry_eq]
  generalize (lg_sl ([.ref mo, .int (iI a1), .int (iI a2)]) ++ List.replicate (3 - (lg_sl ([.ref mo, .int (iI a1), .int (iI a2)])).length) Slot.unset).toArray = ls at hl ⊢
  have hl : lv_has ls 3 [(0, .ref mo), (1, .int (iI a1)), (2, .int (iI a2))] := hl
  generalize hQ : MQ below (qW (S := (Nat → Int) × Nat) (fun (z : Int) (u : (Nat → Int) × Nat) => ((0 ≤ a1 ∧ a1 < (cs : Int) ∧ 0 ≤ a2 ∧ a2 < (rs : Int)) ∧ z = wiZ gX gY (nxZ gF mp) mp ((a2.toNat * 65536 + 32768 : Nat) : Int) (a1.toNat : Int)) ∨ (¬ (0 ≤ a1 ∧ a1 < (cs : Int) ∧ 0 ≤ a2 ∧ a2 < (rs : Int)) ∧ z = 0)) D vwCl [(mo, .inr (4, [.int (iI (cs : Int)), .int (iI (rs : Int)), .ref mg, .ref mm, .int (iI (mv : Int)), .ref mx, .ref my, .ref mf, .int (iI (mp : Int)), .ref mt, .int (iI (me : Int))])), (mg, .inl (cB, 65536, .inl (iA fB))), (mm, .inl (cS, 65536, .inl (iA fM))), (mx, .inl (cA, 4096, .inl (iA gX))), (my, .inl (cA, 4096, .inl (iA gY))), (mf, .inl (cA, 4096, .inl (iA gF))), (mt, .inl (cA, 4096, .inl (iA gT)))] s.heap.size (fun u : (Nat → Int) × Nat => [(mo, .inr (4, [.int (iI (cs : Int)), .int (iI (rs : Int)), .ref mg, .ref mm, .int (iI (mv : Int)), .ref mx, .ref my, .ref mf, .int (iI (mp : Int)), .ref mt, .int (iI ((u.2 : Nat) : Int))])), (mg, .inl (cB, 65536, .inl (iA fB))), (mm, .inl (cS, 65536, .inl (iA fM))), (mx, .inl (cA, 4096, .inl (iA gX))), (my, .inl (cA, 4096, .inl (iA gY))), (mf, .inl (cA, 4096, .inl (iA gF))), (mt, .inl (cA, 4096, .inl (iA u.1)))])) [.ref mo, .int (iI a1), .int (iI a2)].toArray s 0 0 (va_A [(mo, .inr (4, [.int (iI (cs : Int)), .int (iI (rs : Int)), .ref mg, .ref mm, .int (iI (mv : Int)), .ref mx, .ref my, .ref mf, .int (iI (mp : Int)), .ref mt, .int (iI (me : Int))])), (mg, .inl (cB, 65536, .inl (iA fB))), (mm, .inl (cS, 65536, .inl (iA fM))), (mx, .inl (cA, 4096, .inl (iA gX))), (my, .inl (cA, 4096, .inl (iA gY))), (mf, .inl (cA, 4096, .inl (iA gF))), (mt, .inl (cA, 4096, .inl (iA gT)))] s.heap.size) = QQ
  refine lv_aload_n hx hb dM_winding_0 rfl (lv_at hl 0 rfl) ?_
  refine lv_iload_n hx hb dM_winding_1 rfl (lv_at hl 1 rfl) ?_
  refine lv_iload_n hx hb dM_winding_2 rfl (lv_at hl 2 rfl) ?_
  refine cs_i (va_runV (As := [.int (iI a1), .int (iI a2)]) (rest := []) ⟨hx, hb, hml, hown, hts⟩ (m_isPixel l D cA cB cS mo cs rs mg mm mx my mf mt fB fM gX gY gF gT mv mp me a1 a2 (by omega) (by omega) (by omega) (by omega)) ⟨(callB_of 2 hts (gIn vm_319) rfl rfl rfl (hts _ (List.mem_cons_of_mem _ vm_8)) (hts _ (List.mem_cons_of_mem _ vm_317)) (by decide +kernel) ⟨Nat.le_of_ble_eq_true rfl, Nat.le_of_ble_eq_true rfl⟩), (hts _ (List.mem_cons_of_mem _ vm_318)), (hts _ (List.mem_cons_of_mem _ vm_422))⟩ (pR.preV (va_recv hK hP (ci := 4) (q0 := 0) rfl rfl) (hP.sub [0, 1, 2, 3, 4, 5, 6] rfl) hKW) rfl rfl hl.1 rfl (lv_room (Nat.le_of_ble_eq_true rfl)) dM_winding_3 ⟨Nat.le_of_ble_eq_true rfl, Nat.le_of_ble_eq_true rfl⟩) (fun z_1 hz_1 => ?_)
  refine ii_if_ne (tgt := 11) hx hb dM_winding_6 (by decide) (by omega) (fun c6 => ?_) (fun c6 => ?_)
  · obtain ⟨kc, rfl⟩ : ∃ kc : Nat, a1 = (kc : Int) := ⟨a1.toNat, by omega⟩
    obtain ⟨kr, rfl⟩ : ∃ kr : Nat, a2 = (kr : Int) := ⟨a2.toNat, by omega⟩
    refine lv_aload_n hx hb dM_winding_11 rfl (lv_at hl 0 rfl) ?_
    refine lv_iload_n hx hb dM_winding_12 rfl (lv_at hl 2 rfl) ?_
    refine cw_v (wc := [(mo, .inr (4, [.int (iI (cs : Int)), .int (iI (rs : Int)), .ref mg, .ref mm, .int (iI (mv : Int)), .ref mx, .ref my, .ref mf, .int (iI (mp : Int)), .ref mt, .int (iI (me : Int))])), (mg, .inl (cB, 65536, .inl (iA fB))), (mm, .inl (cS, 65536, .inl (iA fM))), (mx, .inl (cA, 4096, .inl (iA gX))), (my, .inl (cA, 4096, .inl (iA gY))), (mf, .inl (cA, 4096, .inl (iA gF))), (mt, .inl (cA, 4096, .inl (iA gT)))]) (wr := []) hP hD hS hA [0, 1, 2, 3, 4, 5, 6] [] rfl rfl (by decide) (by decide) (va_runV (As := [.int (iI (kr : Int))]) (rest := []) ⟨hx, hb, hml, hown, hts⟩ (m_meet l D cA cB cS mo cs rs mg mm mx my mf mt fB fM gX gY gF gT mv mp me kr (by omega) hf hp (by omega) _) ⟨(callB_of 1 hts (gIn vm_322) rfl rfl rfl (hts _ (List.mem_cons_of_mem _ vm_8)) (hts _ (List.mem_cons_of_mem _ vm_320)) (by decide +kernel) ⟨Nat.le_of_ble_eq_true rfl, Nat.le_of_ble_eq_true rfl⟩), (hts _ (List.mem_cons_of_mem _ vm_321)), (hts _ (List.mem_cons_of_mem _ vm_423))⟩ (pW.preV (va_recv hK hP (ci := 4) (q0 := 0) rfl rfl) (hP.sub [0, 1, 2, 3, 4, 5, 6] rfl) (hD.sub [0, 1, 2, 3, 4, 5, 6] (by decide) rfl) hKW) rfl rfl hl.1 rfl (lv_room (Nat.le_of_ble_eq_true rfl)) dM_winding_13 ⟨Nat.le_of_ble_eq_true rfl, Nat.le_of_ble_eq_true rfl⟩) (fun u_2 H locs hzm hP hD hS => ?_)
    obtain ⟨gT1, me1⟩ := u_2
    try dsimp only at hzm
    have hP : va_P D vwCl [(mo, .inr (4, [.int (iI (cs : Int)), .int (iI (rs : Int)), .ref mg, .ref mm, .int (iI (mv : Int)), .ref mx, .ref my, .ref mf, .int (iI (mp : Int)), .ref mt, .int (iI (me1 : Int))])), (mg, .inl (cB, 65536, .inl (iA fB))), (mm, .inl (cS, 65536, .inl (iA fM))), (mx, .inl (cA, 4096, .inl (iA gX))), (my, .inl (cA, 4096, .inl (iA gY))), (mf, .inl (cA, 4096, .inl (iA gF))), (mt, .inl (cA, 4096, .inl (iA gT1)))] H := hP
    have hD : va_D A [(mo, .inr (4, [.int (iI (cs : Int)), .int (iI (rs : Int)), .ref mg, .ref mm, .int (iI (mv : Int)), .ref mx, .ref my, .ref mf, .int (iI (mp : Int)), .ref mt, .int (iI (me1 : Int))])), (mg, .inl (cB, 65536, .inl (iA fB))), (mm, .inl (cS, 65536, .inl (iA fM))), (mx, .inl (cA, 4096, .inl (iA gX))), (my, .inl (cA, 4096, .inl (iA gY))), (mf, .inl (cA, 4096, .inl (iA gF))), (mt, .inl (cA, 4096, .inl (iA gT1)))] := hD
    refine lv_aload_n hx hb dM_winding_16 rfl (lv_at hl 0 rfl) ?_
    refine lv_iload_n hx hb dM_winding_17 rfl (lv_at hl 1 rfl) ?_
    refine lv_iload_n hx hb dM_winding_18 rfl (lv_at hl 2 rfl) ?_
    refine cs_i (va_runV (As := [.int (iI (kc : Int)), .int (iI (kr : Int))]) (rest := []) ⟨hx, hb, hml, hown, hts⟩ (m_windings l D cA cB cS mo cs rs mg mm mx my mf mt fB fM gX gY gF gT1 mv mp me1 kc kr (by omega) hf hp (by omega) (by omega) hzm) ⟨(callB_of 2 hts (gIn vm_333) rfl rfl rfl (hts _ (List.mem_cons_of_mem _ vm_8)) (hts _ (List.mem_cons_of_mem _ vm_331)) (by decide +kernel) ⟨Nat.le_of_ble_eq_true rfl, Nat.le_of_ble_eq_true rfl⟩), (hts _ (List.mem_cons_of_mem _ vm_332)), (hts _ (List.mem_cons_of_mem _ vm_425))⟩ (pR.preV (va_recv hK hP (ci := 4) (q0 := 0) rfl rfl) (hP.sub [0, 1, 2, 3, 4, 5, 6] rfl) hKW) rfl rfl hl.1 rfl (lv_room (Nat.le_of_ble_eq_true rfl)) dM_winding_19 ⟨Nat.le_of_ble_eq_true rfl, Nat.le_of_ble_eq_true rfl⟩) (fun z_3 hz_3 => ?_)
    subst hz_3
    rw [← hQ]
    exact wr_iret (gT1, me1) hx hb hr hlocks hAe (hP.sub [0, 1, 2, 3, 4, 5, 6] rfl) (hD.sub [0, 1, 2, 3, 4, 5, 6] (by decide) rfl) hS (Or.inl ⟨by omega, rfl⟩) dM_winding_22
  · refine ii_iconst (n := 0) hx hb dM_winding_9 ?_
    rw [← hQ]
    exact wr_iret (gT, me) hx hb hr hlocks hAe (hP.sub [0, 1, 2, 3, 4, 5, 6] rfl) (hD.sub [0, 1, 2, 3, 4, 5, 6] (by decide) rfl) hS (Or.inr ⟨by omega, rfl⟩) dM_winding_10

def rm_m_isInside : Room := { frames := 0, cells := 0, slots := 0, locals := 0 }
set_option maxHeartbeats 4000000 in
set_option maxRecDepth 100000 in
theorem m_isInside (l : Launch) (D : va_G) (cA cB cS : ClassId) (a1 : Int) (a2 : Int) (h1 : i32 a1) (h2 : i32 a2) : Met l yM_isInside wM_isInside rm_m_isInside (pR [.int (iI a1), .int (iI a2)] D vwCl (vwTy cA cB cS) vwNw []) (qI (fun z => (z = 1 ∧ ((a2 = 0 ∧ ¬ a1 = 0) ∨ (¬ a2 = 0 ∧ ¬ a1 % 2 = 0))) ∨ (z = 0 ∧ ¬ ((a2 = 0 ∧ ¬ a1 = 0) ∨ (¬ a2 = 0 ∧ ¬ a1 % 2 = 0))))) 0 0 (fun _ => False) := by
  refine Met.ofW (cc := bM_isInside) (maxL := 2) (ret := (some .boolean)) (by decide +kernel) rfl ?_
  intro p e s m args below meth c s₁ B hml hv
  obtain ⟨rfl, hP, hKW⟩ := hv
  have hK := hKW.1
  have hN := hKW.2.2
  have hx := B.exec
  have hb := B.bytes
  have hr := B.returns
  have hts := atoms_spec (ws := wM_isInside) B.pre
  have hown : s.vm.findClass "WindingRasterModel" = some m.cls := findClass_of_methodNamed B.named
  have hlocks := B.notSynchronized
  have hP : va_P D vwCl [] s.heap := hP
  have hl := lv_entry ([.int (iI a1), .int (iI a2)]) (n := 2) (Nat.le_of_ble_eq_true rfl)
  rw [lg_entry_eq]
  generalize (lg_sl ([.int (iI a1), .int (iI a2)]) ++ List.replicate (2 - (lg_sl ([.int (iI a1), .int (iI a2)])).length) Slot.unset).toArray = ls at hl ⊢
  have hl : lv_has ls 2 [(0, .int (iI a1)), (1, .int (iI a2))] := hl
  generalize hQ : MQ below (qI (fun z => (z = 1 ∧ ((a2 = 0 ∧ ¬ a1 = 0) ∨ (¬ a2 = 0 ∧ ¬ a1 % 2 = 0))) ∨ (z = 0 ∧ ¬ ((a2 = 0 ∧ ¬ a1 = 0) ∨ (¬ a2 = 0 ∧ ¬ a1 % 2 = 0))))) [.int (iI a1), .int (iI a2)].toArray s 0 0 (fun _ => False) = QQ
  refine lv_iload_n hx hb dM_isInside_0 rfl (lv_at hl 1 rfl) ?_
  refine ii_if_ne (tgt := 16) hx hb dM_isInside_1 (by decide) (by omega) (fun c1 => ?_) (fun c1 => ?_)
  · refine lv_iload_n hx hb dM_isInside_16 rfl (lv_at hl 0 rfl) ?_
    refine ii_iconst (n := 2) hx hb dM_isInside_17 ?_
    refine ii_irem2 hx hb dM_isInside_18 (by omega) (fun zr_1 hzr_1 gzr_1 => ?_)
    refine ii_if_eq (tgt := 26) hx hb dM_isInside_19 (by decide) (by omega) (fun c19 => ?_) (fun c19 => ?_)
    · refine ii_iconst (n := 0) hx hb dM_isInside_26 ?_
      rw [← hQ]
      exact rd_zret hx hb hr hlocks (nar_b (by omega)) (by omega) dM_isInside_27
    · refine ii_iconst (n := 1) hx hb dM_isInside_22 ?_
      refine lv_goto (tgt := 27) hx hb dM_isInside_23 (by decide) ?_
      rw [← hQ]
      exact rd_zret hx hb hr hlocks (nar_b (by omega)) (by omega) dM_isInside_27
  · refine lv_iload_n hx hb dM_isInside_4 rfl (lv_at hl 0 rfl) ?_
    refine ii_if_eq (tgt := 12) hx hb dM_isInside_5 (by decide) (by omega) (fun c5 => ?_) (fun c5 => ?_)
    · refine ii_iconst (n := 0) hx hb dM_isInside_12 ?_
      refine lv_goto (tgt := 27) hx hb dM_isInside_13 (by decide) ?_
      rw [← hQ]
      exact rd_zret hx hb hr hlocks (nar_b (by omega)) (by omega) dM_isInside_27
    · refine ii_iconst (n := 1) hx hb dM_isInside_8 ?_
      refine lv_goto (tgt := 27) hx hb dM_isInside_9 (by decide) ?_
      rw [← hQ]
      exact rd_zret hx hb hr hlocks (nar_b (by omega)) (by omega) dM_isInside_27
