def rm_c_firstColumn : Room := { frames := 1, cells := 0, slots := 0, locals := 25 }
set_option maxHeartbeats 4000000 in
set_option maxRecDepth 100000 in
theorem c_firstColumn (l : Launch) (D : va_G) (cA cB cS : ClassId) (oo : Nat) (ax : Nat) (ay : Nat) (an : Nat) (fX : Nat → Int) (fY : Nat → Int) (fN : Nat → Int) (np : Nat) (l0 : Nat) (pi : Nat) (yy : Int) (nj : Nat) (h10 : np ≤ 4096) (h1 : pi < np) (h2 : nj < np) (h3 : fN pi = (nj : Int)) (h4 : -536870912 ≤ fX pi ∧ fX pi ≤ 536870912) (h5 : -536870912 ≤ fY pi ∧ fY pi ≤ 536870912) (h6 : -536870912 ≤ fX nj ∧ fX nj ≤ 536870912) (h7 : -536870912 ≤ fY nj ∧ fY nj ≤ 536870912) (h8 : 0 ≤ yy ∧ yy ≤ 16842752) (h9 : (fY pi ≤ yy ∧ yy < fY nj) ∨ (fY nj ≤ yy ∧ yy < fY pi)) : Met l yO_firstColumn wO_firstColumn rm_c_firstColumn (pR [.ref oo, .int (iI (pi : Int)), .int (iI yy)] D vwCl (vwTy cA cB cS) vwNw [(oo, .inr (1, [.ref ax, .ref ay, .ref an, .int (iI (np : Int)), .int (iI (l0 : Int))])), (ax, .inl (cA, 4096, .inl (iA fX))), (ay, .inl (cA, 4096, .inl (iA fY))), (an, .inl (cA, 4096, .inl (iA fN)))]) (qI (fun z => z = coZ (fX pi) (fY pi) (fX nj) (fY nj) yy)) 0 0 (fun _ => False) := by
  refine Met.ofW (cc := bO_firstColumn) (maxL := 13) (ret := (some .int)) (by decide +kernel) rfl ?_
  intro p e s m args below meth c s₁ B hml hv
  obtain ⟨rfl, hP, hKW⟩ := hv
  have hK := hKW.1
  have hN := hKW.2.2
  have hx := B.exec
  have hb := B.bytes
  have hr := B.returns
  have hts := atoms_spec (ws := wO_firstColumn) B.pre
  have hown : s.vm.findClass "WindingRaster$Outline" = some m.cls := findClass_of_methodNamed B.named
  have hlocks := B.notSynchronized
  have hP : va_P D vwCl [(oo, .inr (1, [.ref ax, .ref ay, .ref an, .int (iI (np : Int)), .int (iI (l0 : Int))])), (ax, .inl (cA, 4096, .inl (iA fX))), (ay, .inl (cA, 4096, .inl (iA fY))), (an, .inl (cA, 4096, .inl (iA fN)))] s.heap := hP
  have in_1 : ∀ w ∈ wsO, w ∈ wO_firstColumn := fun w h => List.mem_cons_of_mem _ (in0_O w h)
  have fl_9 := (hts _ (List.mem_cons_of_mem _ vm_32))
  have fl_15 := (hts _ (List.mem_cons_of_mem _ vm_33))
  have fl_18 := (hts _ (List.mem_cons_of_mem _ vm_34))
  have kc_70 := (hts _ (List.mem_cons_of_mem _ vm_148))
  have hl := lv_entry ([.ref oo, .int (iI (pi : Int)), .int (iI yy)]) (n := 13) (Nat.le_of_ble_eq_true rfl)
  rw [lg_entry_eq]
  generalize (lg_sl ([.ref oo, .int (iI (pi : Int)), .int (iI yy)]) ++ List.replicate (13 - (lg_sl ([.ref oo, .int (iI (pi : Int)), .int (iI yy)])).length) Slot.unset).toArray = ls at hl ⊢
  have hl : lv_has ls 13 [(0, .ref oo), (1, .int (iI (pi : Int))), (2, .int (iI yy))] := hl
  generalize hQ : MQ below (qI (fun z => z = coZ (fX pi) (fY pi) (fX nj) (fY nj) yy)) [.ref oo, .int (iI (pi : Int)), .int (iI yy)].toArray s 0 0 (fun _ => False) = QQ
  have hq1 := coZ_rng h4 h6 h9
  unfold coZ at hq1
  have hq2 := prod_rng (u := -(fX nj - fX pi)) (v := yy - fY pi) (by omega) (by omega)
  refine lv_aload_n hx hb dO_firstColumn_0 rfl (lv_at hl 0 rfl) ?_
  refine lv_iload_n hx hb dO_firstColumn_1 rfl (lv_at hl 1 rfl) ?_
  refine cs_i (va_runV (As := [.int (iI (pi : Int))]) (rest := []) ⟨hx, hb, hml, hown, hts⟩ (c_hasEdge l D cA cB cS oo ax ay an fX fY fN np l0 pi nj (by omega) (by omega) h3 (by omega)) ⟨(callB_of 1 hts (gIn vm_141) rfl rfl rfl (hts _ (List.mem_cons_of_mem _ vm_4)) (hts _ (List.mem_cons_of_mem _ vm_139)) (by decide +kernel) ⟨Nat.le_of_ble_eq_true rfl, Nat.le_of_ble_eq_true rfl⟩), (hts _ (List.mem_cons_of_mem _ vm_140)), (hts _ (List.mem_cons_of_mem _ vm_405))⟩ (pR.preV (va_recv hK hP (ci := 1) (q0 := 0) rfl rfl) (hP.sub [0, 1, 2, 3] rfl) hKW) rfl rfl hl.1 rfl (lv_room (Nat.le_of_ble_eq_true rfl)) dO_firstColumn_2 ⟨Nat.le_of_ble_eq_true rfl, Nat.le_of_ble_eq_true rfl⟩) (fun z_1 hz_1 => ?_)
  subst hz_1
  refine ii_if_ne (tgt := 12) hx hb dO_firstColumn_5 (by decide) (by omega) (fun c5 => ?_) (fun c5 => ?_)
  · refine lv_aload_n hx hb dO_firstColumn_12 rfl (lv_at hl 0 rfl) ?_
    refine va_get (ci := 1) (v := .ref ax) (C := "WindingRaster$Outline") (T := TO) (N := 5) hx hb hts in_1 hown hK hP 0 rfl rfl 0 (by decide) fl_9 (fun _ h9 => h9) rfl dO_firstColumn_13 ?_
    refine lv_iload_n hx hb dO_firstColumn_16 rfl (lv_at hl 1 rfl) ?_
    refine ii_iald hx hb hK hP 1 0 rfl rfl pi rfl (by omega) (by omega) dO_firstColumn_17 ?_
    refine ii_i2l hx hb dO_firstColumn_18 (by omega) ?_
    refine lv_lstore_n (lv' := [(3, .long (lI (fX pi))), (0, .ref oo), (1, .int (iI (pi : Int))), (2, .int (iI yy))]) hx hb dO_firstColumn_19 rfl hl (by decide) rfl (fun ls hl => ?_)
    refine lv_aload_n hx hb dO_firstColumn_20 rfl (lv_at hl 1 rfl) ?_
    refine va_get (ci := 1) (v := .ref ay) (C := "WindingRaster$Outline") (T := TO) (N := 5) hx hb hts in_1 hown hK hP 0 rfl rfl 1 (by decide) fl_15 (fun _ h9 => h9) rfl dO_firstColumn_21 ?_
    refine lv_iload_n hx hb dO_firstColumn_24 rfl (lv_at hl 2 rfl) ?_
    refine ii_iald hx hb hK hP 2 0 rfl rfl pi rfl (by omega) (by omega) dO_firstColumn_25 ?_
    refine ii_i2l hx hb dO_firstColumn_26 (by omega) ?_
    refine lv_lstore (lv' := [(5, .long (lI (fY pi))), (3, .long (lI (fX pi))), (0, .ref oo), (1, .int (iI (pi : Int))), (2, .int (iI yy))]) hx hb dO_firstColumn_27 hl (by decide) rfl (fun ls hl => ?_)
    refine lv_aload_n hx hb dO_firstColumn_29 rfl (lv_at hl 2 rfl) ?_
    refine va_get (ci := 1) (v := .ref ax) (C := "WindingRaster$Outline") (T := TO) (N := 5) hx hb hts in_1 hown hK hP 0 rfl rfl 0 (by decide) fl_9 (fun _ h9 => h9) rfl dO_firstColumn_30 ?_
    refine lv_aload_n hx hb dO_firstColumn_33 rfl (lv_at hl 2 rfl) ?_
    refine va_get (ci := 1) (v := .ref an) (C := "WindingRaster$Outline") (T := TO) (N := 5) hx hb hts in_1 hown hK hP 0 rfl rfl 2 (by decide) fl_18 (fun _ h9 => h9) rfl dO_firstColumn_34 ?_
    refine lv_iload_n hx hb dO_firstColumn_37 rfl (lv_at hl 3 rfl) ?_
    refine ii_iald hx hb hK hP 3 0 rfl rfl pi rfl (by omega) (by omega) dO_firstColumn_38 ?_
    refine ii_top (y := (nj : Int)) h3 ?_
    refine ii_iald hx hb hK hP 1 0 rfl rfl nj rfl (by omega) (by omega) dO_firstColumn_39 ?_
    refine ii_i2l hx hb dO_firstColumn_40 (by omega) ?_
    refine lv_lload_n hx hb dO_firstColumn_41 rfl (lv_at hl 1 rfl) ?_
    refine ii_lsub hx hb dO_firstColumn_42 ?_
    refine lv_lstore (lv' := [(7, .long (lI ((fX nj) - (fX pi)))), (5, .long (lI (fY pi))), (3, .long (lI (fX pi))), (0, .ref oo), (1, .int (iI (pi : Int))), (2, .int (iI yy))]) hx hb dO_firstColumn_43 hl (by decide) rfl (fun ls hl => ?_)
    refine lv_aload_n hx hb dO_firstColumn_45 rfl (lv_at hl 3 rfl) ?_
    refine va_get (ci := 1) (v := .ref ay) (C := "WindingRaster$Outline") (T := TO) (N := 5) hx hb hts in_1 hown hK hP 0 rfl rfl 1 (by decide) fl_15 (fun _ h9 => h9) rfl dO_firstColumn_46 ?_
    refine lv_aload_n hx hb dO_firstColumn_49 rfl (lv_at hl 3 rfl) ?_
    refine va_get (ci := 1) (v := .ref an) (C := "WindingRaster$Outline") (T := TO) (N := 5) hx hb hts in_1 hown hK hP 0 rfl rfl 2 (by decide) fl_18 (fun _ h9 => h9) rfl dO_firstColumn_50 ?_
    refine lv_iload_n hx hb dO_firstColumn_53 rfl (lv_at hl 4 rfl) ?_
    refine ii_iald hx hb hK hP 3 0 rfl rfl pi rfl (by omega) (by omega) dO_firstColumn_54 ?_
    refine ii_top (y := (nj : Int)) h3 ?_
    refine ii_iald hx hb hK hP 2 0 rfl rfl nj rfl (by omega) (by omega) dO_firstColumn_55 ?_
    refine ii_i2l hx hb dO_firstColumn_56 (by omega) ?_
    refine lv_lload hx hb dO_firstColumn_57 (lv_at hl 1 rfl) ?_
    refine ii_lsub hx hb dO_firstColumn_59 ?_
    refine lv_lstore (lv' := [(9, .long (lI ((fY nj) - (fY pi)))), (7, .long (lI ((fX nj) - (fX pi)))), (5, .long (lI (fY pi))), (3, .long (lI (fX pi))), (0, .ref oo), (1, .int (iI (pi : Int))), (2, .int (iI yy))]) hx hb dO_firstColumn_60 hl (by decide) rfl (fun ls hl => ?_)
    refine lv_lload hx hb dO_firstColumn_62 (lv_at hl 0 rfl) ?_
    refine ii_lconst (z := 0) hx hb dO_firstColumn_64 (by decide +kernel) ?_
    refine ii_lcmp hx hb dO_firstColumn_65 (by omega) (by omega) (fun zc_2 hzc_2 => ?_)
    refine ii_if_ne (tgt := 73) hx hb dO_firstColumn_66 (by decide) (by omega) (fun c66 => ?_) (fun c66 => ?_)
    · refine lv_lload_n hx hb dO_firstColumn_73 rfl (lv_at hl 3 rfl) ?_
      refine lv_lload hx hb dO_firstColumn_74 (lv_at hl 1 rfl) ?_
      refine ii_lneg hx hb dO_firstColumn_76 ?_
      refine lv_iload_n hx hb dO_firstColumn_77 rfl (lv_at hl 6 rfl) ?_
      refine ii_i2l hx hb dO_firstColumn_78 (by omega) ?_
      refine lv_lload hx hb dO_firstColumn_79 (lv_at hl 2 rfl) ?_
      refine ii_lsub hx hb dO_firstColumn_81 ?_
      refine ii_lmul hx hb dO_firstColumn_82 ?_
      refine lv_lload hx hb dO_firstColumn_83 (lv_at hl 0 rfl) ?_
      refine cs_l (va_runS (As := [.long (lI ((-((fX nj) - (fX pi))) * (yy - (fY pi)))), .long (lI ((fY nj) - (fY pi)))]) (rest := [.long (lI (fX pi))]) ⟨hx, hb, hml, hown, hts⟩ (c_floorDiv l D cA cB cS ((-((fX nj) - (fX pi))) * (yy - (fY pi))) ((fY nj) - (fY pi)) (by omega) (by omega) (by omega)) ⟨(callB_of 2 hts (gIn vm_147) rfl rfl rfl (hts _ (List.mem_cons_of_mem _ vm_2)) (hts _ (List.mem_cons_of_mem _ vm_145)) (by decide +kernel) ⟨Nat.le_of_ble_eq_true rfl, Nat.le_of_ble_eq_true rfl⟩), (hts _ (List.mem_cons_of_mem _ vm_146))⟩ (pR.pre (hP.sub [] rfl) hKW) rfl rfl hl.1 rfl (lv_room (Nat.le_of_ble_eq_true rfl)) dO_firstColumn_85 ⟨Nat.le_of_ble_eq_true rfl, Nat.le_of_ble_eq_true rfl⟩) (fun z_3 hz_3 => ?_)
      subst hz_3
      refine ii_lsub hx hb dO_firstColumn_88 ?_
      refine lv_lstore (lv' := [(11, .long (lI ((fX pi) - (((-((fX nj) - (fX pi))) * (yy - (fY pi))).fdiv ((fY nj) - (fY pi)))))), (9, .long (lI ((fY nj) - (fY pi)))), (7, .long (lI ((fX nj) - (fX pi)))), (5, .long (lI (fY pi))), (3, .long (lI (fX pi))), (0, .ref oo), (1, .int (iI (pi : Int))), (2, .int (iI yy))]) hx hb dO_firstColumn_89 hl (by decide) rfl (fun ls hl => ?_)
      refine lv_lload hx hb dO_firstColumn_91 (lv_at hl 0 rfl) ?_
      refine ii_ldc2 (n := 32768) hx hb hown kc_70 dO_firstColumn_93 (by decide +kernel) ?_
      refine ii_ladd hx hb dO_firstColumn_96 ?_
      refine ii_lconst (z := 1) hx hb dO_firstColumn_97 (by decide +kernel) ?_
      refine ii_lsub hx hb dO_firstColumn_98 ?_
      refine ii_bipush (n := 16) hx hb dO_firstColumn_99 (by decide +kernel) ?_
      refine ii_lshr (z := ((((fX pi) - (((-((fX nj) - (fX pi))) * (yy - (fY pi))).fdiv ((fY nj) - (fY pi)))) + 32768) - 1) / 65536) hx hb dO_firstColumn_101 (lI_shr16 (by omega)) ?_
      refine ii_l2i hx hb dO_firstColumn_102 ?_
      rw [← hQ]
      exact rd_iret hx hb hr hlocks (by unfold coZ; omega) dO_firstColumn_103
    · exfalso; omega
  · exfalso; omega

def rm_c_windingAt : Room := { frames := 2, cells := 0, slots := 0, locals := 57 }
set_option maxHeartbeats 4000000 in
set_option maxRecDepth 100000 in
theorem c_windingAt (l : Launch) (D : va_G) (cA cB cS : ClassId) (oo : Nat) (ax : Nat) (ay : Nat) (an : Nat) (fX : Nat → Int) (fY : Nat → Int) (fN : Nat → Int) (np : Nat) (l0 : Nat) (kc : Nat) (kr : Nat) (h1 : np ≤ 4096) (h2 : kr < 256) (h3 : kc < 256) (h5 : ∀ i, i < np → (-536870912 ≤ fX i ∧ fX i ≤ 536870912) ∧ (-536870912 ≤ fY i ∧ fY i ≤ 536870912)) (h6 : ∀ i, i < np → 0 ≤ fN i ∧ fN i < (np : Int)) : Met l yO_windingAt wO_windingAt rm_c_windingAt (pR [.ref oo, .int (iI (kc : Int)), .int (iI (kr : Int))] D vwCl (vwTy cA cB cS) vwNw [(oo, .inr (1, [.ref ax, .ref ay, .ref an, .int (iI (np : Int)), .int (iI (l0 : Int))])), (ax, .inl (cA, 4096, .inl (iA fX))), (ay, .inl (cA, 4096, .inl (iA fY))), (an, .inl (cA, 4096, .inl (iA fN)))]) (qI (fun z => z = wiZ fX fY fN np ((kr * 65536 + 32768 : Nat) : Int) (kc : Int))) 0 0 (fun _ => False) := by
  refine Met.ofW (cc := bO_windingAt) (maxL := 7) (ret := (some .int)) (by decide +kernel) rfl ?_
  intro p e s m args below meth c s₁ B hml hv
  obtain ⟨rfl, hP, hKW⟩ := hv
  have hK := hKW.1
  have hN := hKW.2.2
  have hx := B.exec
  have hb := B.bytes
  have hr := B.returns
  have hts := atoms_spec (ws := wO_windingAt) B.pre
  have hown : s.vm.findClass "WindingRaster$Outline" = some m.cls := findClass_of_methodNamed B.named
  have hlocks := B.notSynchronized
  have hP : va_P D vwCl [(oo, .inr (1, [.ref ax, .ref ay, .ref an, .int (iI (np : Int)), .int (iI (l0 : Int))])), (ax, .inl (cA, 4096, .inl (iA fX))), (ay, .inl (cA, 4096, .inl (iA fY))), (an, .inl (cA, 4096, .inl (iA fN)))] s.heap := hP
  have in_1 : ∀ w ∈ wsO, w ∈ wO_windingAt := fun w h => List.mem_cons_of_mem _ (in0_O w h)
  have fl_21 := (hts _ (List.mem_cons_of_mem _ vm_35))
  have hl := lv_entry ([.ref oo, .int (iI (kc : Int)), .int (iI (kr : Int))]) (n := 7) (Nat.le_of_ble_eq_true rfl)
  rw [lg_entry_eq]
  generalize (lg_sl ([.ref oo, .int (iI (kc : Int)), .int (iI (kr : Int))]) ++ List.replicate (7 - (lg_sl ([.ref oo, .int (iI (kc : Int)), .int (iI (kr : Int))])).length) Slot.unset).toArray = ls at hl ⊢
  have hl : lv_has ls 7 [(0, .ref oo), (1, .int (iI (kc : Int))), (2, .int (iI (kr : Int)))] := hl
  generalize hQ : MQ below (qI (fun z => z = wiZ fX fY fN np ((kr * 65536 + 32768 : Nat) : Int) (kc : Int))) [.ref oo, .int (iI (kc : Int)), .int (iI (kr : Int))].toArray s 0 0 (fun _ => False) = QQ
  refine lv_iload_n hx hb dO_windingAt_0 rfl (lv_at hl 2 rfl) ?_
  refine cs_i (va_runS (As := [.int (iI (kr : Int))]) (rest := []) ⟨hx, hb, hml, hown, hts⟩ (c_centreOf l D cA cB cS kr) ⟨(callB_of 1 hts (gIn vm_134) rfl rfl rfl (hts _ (List.mem_cons_of_mem _ vm_4)) (hts _ (List.mem_cons_of_mem _ vm_132)) (by decide +kernel) ⟨Nat.le_of_ble_eq_true rfl, Nat.le_of_ble_eq_true rfl⟩), (hts _ (List.mem_cons_of_mem _ vm_133))⟩ (pR.pre (hP.sub [] rfl) hKW) rfl rfl hl.1 rfl (lv_room (Nat.le_of_ble_eq_true rfl)) dO_windingAt_1 ⟨Nat.le_of_ble_eq_true rfl, Nat.le_of_ble_eq_true rfl⟩) (fun z_1 hz_1 => ?_)
  subst hz_1
  refine lv_istore_n (lv' := [(3, .int (iI ((kr * 65536 + 32768 : Nat) : Int))), (0, .ref oo), (1, .int (iI (kc : Int))), (2, .int (iI (kr : Int)))]) hx hb dO_windingAt_4 rfl hl (by decide) rfl (fun ls hl => ?_)
  refine ii_iconst (n := 0) hx hb dO_windingAt_5 ?_
  refine lv_istore (lv' := [(4, .int (iI 0)), (3, .int (iI ((kr * 65536 + 32768 : Nat) : Int))), (0, .ref oo), (1, .int (iI (kc : Int))), (2, .int (iI (kr : Int)))]) hx hb dO_windingAt_6 hl (by decide) rfl (fun ls hl => ?_)
  refine ii_iconst (n := 0) hx hb dO_windingAt_8 ?_
  refine lv_istore (lv' := [(5, .int (iI 0)), (4, .int (iI 0)), (3, .int (iI ((kr * 65536 + 32768 : Nat) : Int))), (0, .ref oo), (1, .int (iI (kc : Int))), (2, .int (iI (kr : Int)))]) hx hb dO_windingAt_9 hl (by decide) rfl (fun ls hl => ?_)
  have lp11 : ∀ (n_ : Nat) (i : Nat) (sm_ : Int), (i ≤ np) → (sm_ = wiZ fX fY fN i ((kr * 65536 + 32768 : Nat) : Int) (kc : Int)) → (np - i) < n_ → ∀ ls : Array Slot, lv_has ls 7 [(5, .int (iI (i : Int))), (4, .int (iI sm_)), (3, .int (iI ((kr * 65536 + 32768 : Nat) : Int))), (0, .ref oo), (1, .int (iI (kc : Int))), (2, .int (iI (kr : Int)))] → W p l e (headSpec wO_windingAt rm_c_windingAt).room s m [.ref oo, .int (iI (kc : Int)), .int (iI (kr : Int))].toArray below meth c s.heap [] 0 0 QQ (F0 m 11 ls []) := by
    intro n_
    induction n_ with
    | zero =>
      intro i sm_ i1 i2 hm_
      exact absurd hm_ (Nat.not_lt_zero _)
    | succ n_ ih_lp11 =>
      intro i sm_ i1 i2 hm_lp11 ls hl
      refine lv_iload hx hb dO_windingAt_11 (lv_at hl 0 rfl) ?_
      refine lv_aload_n hx hb dO_windingAt_13 rfl (lv_at hl 3 rfl) ?_
      refine va_get (ci := 1) (v := .int (iI (np : Int))) (C := "WindingRaster$Outline") (T := TO) (N := 5) hx hb hts in_1 hown hK hP 0 rfl rfl 3 (by decide) fl_21 (fun _ h9 => h9) rfl dO_windingAt_14 ?_
      refine ii_icmp_ge (tgt := 58) hx hb dO_windingAt_17 (by decide) (by omega) (by omega) (fun c17 => ?_) (fun c17 => ?_)
      · refine lv_iload hx hb dO_windingAt_58 (lv_at hl 1 rfl) ?_
        rw [← hQ]
        exact rd_iret hx hb hr hlocks (by rw [i2, show i = np by omega]) dO_windingAt_60
      · have g5 := h5 i (by omega)
        have g6 := h6 i (by omega)
        obtain ⟨nj, hnj⟩ : ∃ nj : Nat, fN i = (nj : Int) := ⟨(fN i).toNat, by omega⟩
        have g7 := h5 nj (by omega)
        have ej : (fN i).toNat = nj := by omega
        refine lv_aload_n hx hb dO_windingAt_20 rfl (lv_at hl 3 rfl) ?_
        refine lv_iload hx hb dO_windingAt_21 (lv_at hl 0 rfl) ?_
        refine lv_iload_n hx hb dO_windingAt_23 rfl (lv_at hl 2 rfl) ?_
        refine cs_i (va_runV (As := [.int (iI (i : Int)), .int (iI ((kr * 65536 + 32768 : Nat) : Int))]) (rest := []) ⟨hx, hb, hml, hown, hts⟩ (c_stepAt l D cA cB cS oo ax ay an fX fY fN np l0 i ((kr * 65536 + 32768 : Nat) : Int) nj (by omega) (by omega) hnj (by omega) (by omega) (by omega) (by omega)) ⟨(callB_of 2 hts (gIn vm_138) rfl rfl rfl (hts _ (List.mem_cons_of_mem _ vm_4)) (hts _ (List.mem_cons_of_mem _ vm_136)) (by decide +kernel) ⟨Nat.le_of_ble_eq_true rfl, Nat.le_of_ble_eq_true rfl⟩), (hts _ (List.mem_cons_of_mem _ vm_137)), (hts _ (List.mem_cons_of_mem _ vm_404))⟩ (pR.preV (va_recv hK hP (ci := 1) (q0 := 0) rfl rfl) (hP.sub [0, 1, 2, 3] rfl) hKW) rfl rfl hl.1 rfl (lv_room (Nat.le_of_ble_eq_true rfl)) dO_windingAt_24 ⟨Nat.le_of_ble_eq_true rfl, Nat.le_of_ble_eq_true rfl⟩) (fun z_2 hz_2 => ?_)
        subst hz_2
        have g8 := stZ_cases (fY i) (fY nj) ((kr * 65536 + 32768 : Nat) : Int)
        refine lv_istore (lv' := [(6, .int (iI (stZ (fY i) (fY nj) ((kr * 65536 + 32768 : Nat) : Int)))), (5, .int (iI (i : Int))), (4, .int (iI sm_)), (3, .int (iI ((kr * 65536 + 32768 : Nat) : Int))), (0, .ref oo), (1, .int (iI (kc : Int))), (2, .int (iI (kr : Int)))]) hx hb dO_windingAt_27 hl (by decide) rfl (fun ls hl => ?_)
        refine lv_iload hx hb dO_windingAt_29 (lv_at hl 0 rfl) ?_
        refine ii_if_eq (tgt := 52) hx hb dO_windingAt_31 (by decide) (by omega) (fun c31 => ?_) (fun c31 => ?_)
        · refine lv_iinc (v := iI ((i + 1 : Nat) : Int)) (lv' := [(5, .int (iI ((i + 1 : Nat) : Int))), (6, .int (iI (stZ (fY i) (fY nj) ((kr * 65536 + 32768 : Nat) : Int)))), (4, .int (iI sm_)), (3, .int (iI ((kr * 65536 + 32768 : Nat) : Int))), (0, .ref oo), (1, .int (iI (kc : Int))), (2, .int (iI (kr : Int)))]) hx hb dO_windingAt_52 hl (k := 1) rfl (iI_inc _ 1 (by omega)) (by decide) rfl (fun ls hl => ?_)
          refine lv_goto (tgt := 11) hx hb dO_windingAt_55 (by decide) ?_
          exact ih_lp11 (i + 1) sm_ (by omega) (by have e1 := wiZ_succ fX fY fN i ((kr * 65536 + 32768 : Nat) : Int) (kc : Int); rw [ej] at e1; have e2 := ctZ_cases (fX i) (fY i) (fX nj) (fY nj) ((kr * 65536 + 32768 : Nat) : Int) (kc : Int); omega) (by omega) _ (lv_sub hl [0, 2, 3, 4, 5, 6] rfl)
        · refine lv_aload_n hx hb dO_windingAt_34 rfl (lv_at hl 4 rfl) ?_
          refine lv_iload hx hb dO_windingAt_35 (lv_at hl 1 rfl) ?_
          refine lv_iload_n hx hb dO_windingAt_37 rfl (lv_at hl 3 rfl) ?_
          refine cs_i (va_runV (As := [.int (iI (i : Int)), .int (iI ((kr * 65536 + 32768 : Nat) : Int))]) (rest := []) ⟨hx, hb, hml, hown, hts⟩ (c_firstColumn l D cA cB cS oo ax ay an fX fY fN np l0 i ((kr * 65536 + 32768 : Nat) : Int) nj (by omega) (by omega) (by omega) hnj g5.1 g5.2 g7.1 g7.2 (by omega) (by have h8 := stZ_cases (fY i) (fY nj) ((kr * 65536 + 32768 : Nat) : Int); omega)) ⟨(callB_of 2 hts (gIn vm_144) rfl rfl rfl (hts _ (List.mem_cons_of_mem _ vm_4)) (hts _ (List.mem_cons_of_mem _ vm_142)) (by decide +kernel) ⟨Nat.le_of_ble_eq_true rfl, Nat.le_of_ble_eq_true rfl⟩), (hts _ (List.mem_cons_of_mem _ vm_143)), (hts _ (List.mem_cons_of_mem _ vm_406))⟩ (pR.preV (va_recv hK hP (ci := 1) (q0 := 0) rfl rfl) (hP.sub [0, 1, 2, 3] rfl) hKW) rfl rfl hl.1 rfl (lv_room (Nat.le_of_ble_eq_true rfl)) dO_windingAt_38 ⟨Nat.le_of_ble_eq_true rfl, Nat.le_of_ble_eq_true rfl⟩) (fun z_3 hz_3 => ?_)
          subst hz_3
          have g9 := coZ_rng (a := fX i) (b := fY i) (c := fX nj) (d := fY nj) (y := ((kr * 65536 + 32768 : Nat) : Int)) g5.1 g7.1 (by omega)
          refine lv_iload_n hx hb dO_windingAt_41 rfl (lv_at hl 5 rfl) ?_
          refine ii_icmp_gt (tgt := 52) hx hb dO_windingAt_42 (by decide) (by omega) (by omega) (fun c42 => ?_) (fun c42 => ?_)
          · refine lv_iinc (v := iI ((i + 1 : Nat) : Int)) (lv' := [(5, .int (iI ((i + 1 : Nat) : Int))), (6, .int (iI (stZ (fY i) (fY nj) ((kr * 65536 + 32768 : Nat) : Int)))), (4, .int (iI sm_)), (3, .int (iI ((kr * 65536 + 32768 : Nat) : Int))), (0, .ref oo), (1, .int (iI (kc : Int))), (2, .int (iI (kr : Int)))]) hx hb dO_windingAt_52 hl (k := 1) rfl (iI_inc _ 1 (by omega)) (by decide) rfl (fun ls hl => ?_)
            refine lv_goto (tgt := 11) hx hb dO_windingAt_55 (by decide) ?_
            exact ih_lp11 (i + 1) sm_ (by omega) (by have e1 := wiZ_succ fX fY fN i ((kr * 65536 + 32768 : Nat) : Int) (kc : Int); rw [ej] at e1; have e2 := ctZ_cases (fX i) (fY i) (fX nj) (fY nj) ((kr * 65536 + 32768 : Nat) : Int) (kc : Int); omega) (by omega) _ (lv_sub hl [0, 2, 3, 4, 5, 6] rfl)
          · refine lv_iload hx hb dO_windingAt_45 (lv_at hl 2 rfl) ?_
            refine lv_iload hx hb dO_windingAt_47 (lv_at hl 0 rfl) ?_
            refine ii_iadd hx hb dO_windingAt_49 ?_
            refine lv_istore (lv' := [(4, .int (iI (sm_ + (stZ (fY i) (fY nj) ((kr * 65536 + 32768 : Nat) : Int))))), (6, .int (iI (stZ (fY i) (fY nj) ((kr * 65536 + 32768 : Nat) : Int)))), (5, .int (iI (i : Int))), (3, .int (iI ((kr * 65536 + 32768 : Nat) : Int))), (0, .ref oo), (1, .int (iI (kc : Int))), (2, .int (iI (kr : Int)))]) hx hb dO_windingAt_50 hl (by decide) rfl (fun ls hl => ?_)
            refine lv_iinc (v := iI ((i + 1 : Nat) : Int)) (lv' := [(5, .int (iI ((i + 1 : Nat) : Int))), (4, .int (iI (sm_ + (stZ (fY i) (fY nj) ((kr * 65536 + 32768 : Nat) : Int))))), (6, .int (iI (stZ (fY i) (fY nj) ((kr * 65536 + 32768 : Nat) : Int)))), (3, .int (iI ((kr * 65536 + 32768 : Nat) : Int))), (0, .ref oo), (1, .int (iI (kc : Int))), (2, .int (iI (kr : Int)))]) hx hb dO_windingAt_52 hl (k := 2) rfl (iI_inc _ 1 (by omega)) (by decide) rfl (fun ls hl => ?_)
            refine lv_goto (tgt := 11) hx hb dO_windingAt_55 (by decide) ?_
            exact ih_lp11 (i + 1) (sm_ + (stZ (fY i) (fY nj) ((kr * 65536 + 32768 : Nat) : Int))) (by omega) (by have e1 := wiZ_succ fX fY fN i ((kr * 65536 + 32768 : Nat) : Int) (kc : Int); rw [ej] at e1; have e2 := ctZ_cases (fX i) (fY i) (fX nj) (fY nj) ((kr * 65536 + 32768 : Nat) : Int) (kc : Int); omega) (by omega) _ (lv_sub hl [0, 1, 3, 4, 5, 6] rfl)
  exact lp11 (np - 0 + 1) 0 0 (by omega) rfl (Nat.lt_succ_self _) _ (lv_sub hl [0, 1, 2, 3, 4, 5] rfl)

def rm_c_windRow : Room := { frames := 2, cells := 0, slots := 0, locals := 57 }
set_option maxHeartbeats 4000000 in
set_option maxRecDepth 100000 in
theorem c_windRow (l : Launch) (D : va_G) (cA cB cS : ClassId) (oo : Nat) (ax : Nat) (ay : Nat) (an : Nat) (fX : Nat → Int) (fY : Nat → Int) (fN : Nat → Int) (np : Nat) (l0 : Nat) (aw : Nat) (cs : Nat) (fW : Nat → Int) (kr : Nat) (h1 : np ≤ 4096) (h2 : kr < 256) (h3 : 0 < cs ∧ cs ≤ 256) (h5 : ∀ i, i < np → (-536870912 ≤ fX i ∧ fX i ≤ 536870912) ∧ (-536870912 ≤ fY i ∧ fY i ≤ 536870912)) (h6 : ∀ i, i < np → 0 ≤ fN i ∧ fN i < (np : Int)) (sz : Nat) : Met l yO_windRow wO_windRow rm_c_windRow (pW [.ref oo, .int (iI (kr : Int)), .ref aw] D vwCl (vwTy cA cB cS) vwNw [(oo, .inr (1, [.ref ax, .ref ay, .ref an, .int (iI (np : Int)), .int (iI (l0 : Int))])), (ax, .inl (cA, 4096, .inl (iA fX))), (ay, .inl (cA, 4096, .inl (iA fY))), (an, .inl (cA, 4096, .inl (iA fN))), (aw, .inl (cA, cs, .inl (iA fW)))] sz) (qW (S := (Nat → Int)) (fun (z : Int) (fG : (Nat → Int)) => (z = 0 ∨ z = 1) ∧ (∀ k, k < cs → fG k = wiZ fX fY fN np ((kr * 65536 + 32768 : Nat) : Int) (k : Int)) ∧ (z = 0 → ∀ k : Int, wiZ fX fY fN np ((kr * 65536 + 32768 : Nat) : Int) k = 0)) D vwCl [(oo, .inr (1, [.ref ax, .ref ay, .ref an, .int (iI (np : Int)), .int (iI (l0 : Int))])), (ax, .inl (cA, 4096, .inl (iA fX))), (ay, .inl (cA, 4096, .inl (iA fY))), (an, .inl (cA, 4096, .inl (iA fN))), (aw, .inl (cA, cs, .inl (iA fW)))] sz (fun fG : (Nat → Int) => [(oo, .inr (1, [.ref ax, .ref ay, .ref an, .int (iI (np : Int)), .int (iI (l0 : Int))])), (ax, .inl (cA, 4096, .inl (iA fX))), (ay, .inl (cA, 4096, .inl (iA fY))), (an, .inl (cA, 4096, .inl (iA fN))), (aw, .inl (cA, cs, .inl (iA fG)))])) 0 0 (va_A [(oo, .inr (1, [.ref ax, .ref ay, .ref an, .int (iI (np : Int)), .int (iI (l0 : Int))])), (ax, .inl (cA, 4096, .inl (iA fX))), (ay, .inl (cA, 4096, .inl (iA fY))), (an, .inl (cA, 4096, .inl (iA fN))), (aw, .inl (cA, cs, .inl (iA fW)))] sz) := by
  refine Met.ofW (cc := bO_windRow) (maxL := 8) (ret := (some .boolean)) (by decide +kernel) rfl ?_
  intro p e s m args below meth c s₁ B hml hv
  obtain ⟨rfl, hsz, hP, hKW, hD0⟩ := hv
  have hK := hKW.1
  have hN := hKW.2.2
  have hx := B.exec
  have hb := B.bytes
  have hr := B.returns
  have hts := atoms_spec (ws := wO_windRow) B.pre
  have hown : s.vm.findClass "WindingRaster$Outline" = some m.cls := findClass_of_methodNamed B.named
  have hlocks := B.notSynchronized
  subst hsz
  have hD := hD0.self (sz := s.heap.size)
  obtain ⟨A, hAe⟩ : ∃ A, va_A [(oo, .inr (1, [.ref ax, .ref ay, .ref an, .int (iI (np : Int)), .int (iI (l0 : Int))])), (ax, .inl (cA, 4096, .inl (iA fX))), (ay, .inl (cA, 4096, .inl (iA fY))), (an, .inl (cA, 4096, .inl (iA fN))), (aw, .inl (cA, cs, .inl (iA fW)))] s.heap.size = A := ⟨_, rfl⟩
  rw [hAe] at hD
  have hA : ∀ q : Nat, s.heap.size ≤ q → A q := fun q h => by rw [← hAe]; exact Or.inr h
  have hS : va_S A s.heap s.heap [] := va_S.rf
  have hP : va_P D vwCl [(oo, .inr (1, [.ref ax, .ref ay, .ref an, .int (iI (np : Int)), .int (iI (l0 : Int))])), (ax, .inl (cA, 4096, .inl (iA fX))), (ay, .inl (cA, 4096, .inl (iA fY))), (an, .inl (cA, 4096, .inl (iA fN))), (aw, .inl (cA, cs, .inl (iA fW)))] s.heap := hP
  have in_1 : ∀ w ∈ wsO, w ∈ wO_windRow := fun w h => List.mem_cons_of_mem _ (in0_O w h)
  have fl_21 := (hts _ (List.mem_cons_of_mem _ vm_35))
  have ml_56 := (hts _ (List.mem_cons_of_mem _ vm_171))
  have ms_max := (hts _ (List.mem_cons_of_mem _ vm_22))
  have mi_math := (hts _ (List.mem_cons_of_mem _ vm_2))
  have mc_max := (hts _ (List.mem_cons_of_mem _ vx_max))
  have hl := lv_entry ([.ref oo, .int (iI (kr : Int)), .ref aw]) (n := 8) (Nat.le_of_ble_eq_true rfl)
  rw [lg_entry_eq]
  generalize (lg_sl ([.ref oo, .int (iI (kr : Int)), .ref aw]) ++ List.replicate (8 - (lg_sl ([.ref oo, .int (iI (kr : Int)), .ref aw])).length) Slot.unset).toArray = ls at hl ⊢
  have hl : lv_has ls 8 [(0, .ref oo), (1, .int (iI (kr : Int))), (2, .ref aw)] := hl
  generalize hQ : MQ below (qW (S := (Nat → Int)) (fun (z : Int) (fG : (Nat → Int)) => (z = 0 ∨ z = 1) ∧ (∀ k, k < cs → fG k = wiZ fX fY fN np ((kr * 65536 + 32768 : Nat) : Int) (k : Int)) ∧ (z = 0 → ∀ k : Int, wiZ fX fY fN np ((kr * 65536 + 32768 : Nat) : Int) k = 0)) D vwCl [(oo, .inr (1, [.ref ax, .ref ay, .ref an, .int (iI (np : Int)), .int (iI (l0 : Int))])), (ax, .inl (cA, 4096, .inl (iA fX))), (ay, .inl (cA, 4096, .inl (iA fY))), (an, .inl (cA, 4096, .inl (iA fN))), (aw, .inl (cA, cs, .inl (iA fW)))] s.heap.size (fun fG : (Nat → Int) => [(oo, .inr (1, [.ref ax, .ref ay, .ref an, .int (iI (np : Int)), .int (iI (l0 : Int))])), (ax, .inl (cA, 4096, .inl (iA fX))), (ay, .inl (cA, 4096, .inl (iA fY))), (an, .inl (cA, 4096, .inl (iA fN))), (aw, .inl (cA, cs, .inl (iA fG)))])) [.ref oo, .int (iI (kr : Int)), .ref aw].toArray s 0 0 (va_A [(oo, .inr (1, [.ref ax, .ref ay, .ref an, .int (iI (np : Int)), .int (iI (l0 : Int))])), (ax, .inl (cA, 4096, .inl (iA fX))), (ay, .inl (cA, 4096, .inl (iA fY))), (an, .inl (cA, 4096, .inl (iA fN))), (aw, .inl (cA, cs, .inl (iA fW)))] s.heap.size) = QQ
  refine lv_iload_n hx hb dO_windRow_0 rfl (lv_at hl 1 rfl) ?_
  refine cs_i (va_runS (As := [.int (iI (kr : Int))]) (rest := []) ⟨hx, hb, hml, hown, hts⟩ (c_centreOf l D cA cB cS kr) ⟨(callB_of 1 hts (gIn vm_134) rfl rfl rfl (hts _ (List.mem_cons_of_mem _ vm_4)) (hts _ (List.mem_cons_of_mem _ vm_132)) (by decide +kernel) ⟨Nat.le_of_ble_eq_true rfl, Nat.le_of_ble_eq_true rfl⟩), (hts _ (List.mem_cons_of_mem _ vm_133))⟩ (pR.pre (hP.sub [] rfl) hKW) rfl rfl hl.1 rfl (lv_room (Nat.le_of_ble_eq_true rfl)) dO_windRow_1 ⟨Nat.le_of_ble_eq_true rfl, Nat.le_of_ble_eq_true rfl⟩) (fun z_1 hz_1 => ?_)
  subst hz_1
  refine lv_istore_n (lv' := [(3, .int (iI ((kr * 65536 + 32768 : Nat) : Int))), (0, .ref oo), (1, .int (iI (kr : Int))), (2, .ref aw)]) hx hb dO_windRow_4 rfl hl (by decide) rfl (fun ls hl => ?_)
  refine ii_iconst (n := 0) hx hb dO_windRow_5 ?_
  refine lv_istore (lv' := [(4, .int (iI 0)), (3, .int (iI ((kr * 65536 + 32768 : Nat) : Int))), (0, .ref oo), (1, .int (iI (kr : Int))), (2, .ref aw)]) hx hb dO_windRow_6 hl (by decide) rfl (fun ls hl => ?_)
  refine lv_aload_n hx hb dO_windRow_8 rfl (lv_at hl 4 rfl) ?_
  refine ii_iconst (n := 0) hx hb dO_windRow_9 ?_
  refine cw_v (wc := [(aw, .inl (cA, cs, .inl (iA fW)))]) (wr := [(oo, .inr (1, [.ref ax, .ref ay, .ref an, .int (iI (np : Int)), .int (iI (l0 : Int))])), (ax, .inl (cA, 4096, .inl (iA fX))), (ay, .inl (cA, 4096, .inl (iA fY))), (an, .inl (cA, 4096, .inl (iA fN)))]) hP hD hS hA [4] [0, 1, 2, 3] rfl rfl (by decide) (by decide) (va_runS (As := [.ref aw, .int (iI 0)]) (rest := []) ⟨hx, hb, hml, hown, hts⟩ (c_afill l D cA cB cS aw cs fW 0 (by omega) _) ⟨(callB_of 2 hts (gIn vm_26) rfl rfl rfl (hts _ (List.mem_cons_of_mem _ vm_3)) (hts _ (List.mem_cons_of_mem _ vm_170)) (by decide +kernel) ⟨Nat.le_of_ble_eq_true rfl, Nat.le_of_ble_eq_true rfl⟩), (hts _ (List.mem_cons_of_mem _ vm_25))⟩ (pW.pre (hP.sub [4] rfl) (hD.sub [4] (by decide) rfl) hKW) rfl rfl hl.1 rfl (lv_room (Nat.le_of_ble_eq_true rfl)) dO_windRow_10 ⟨Nat.le_of_ble_eq_true rfl, Nat.le_of_ble_eq_true rfl⟩) (fun u_2 H locs hzf hP hD hS => ?_)
  obtain ⟨fU, rfl⟩ : ∃ z_, z_ = u_2 := ⟨_, rfl⟩
  try dsimp only at hzf
  have hP : va_P D vwCl [(oo, .inr (1, [.ref ax, .ref ay, .ref an, .int (iI (np : Int)), .int (iI (l0 : Int))])), (ax, .inl (cA, 4096, .inl (iA fX))), (ay, .inl (cA, 4096, .inl (iA fY))), (an, .inl (cA, 4096, .inl (iA fN))), (aw, .inl (cA, cs, .inl (iA fU)))] H := hP
  have hD : va_D A [(oo, .inr (1, [.ref ax, .ref ay, .ref an, .int (iI (np : Int)), .int (iI (l0 : Int))])), (ax, .inl (cA, 4096, .inl (iA fX))), (ay, .inl (cA, 4096, .inl (iA fY))), (an, .inl (cA, 4096, .inl (iA fN))), (aw, .inl (cA, cs, .inl (iA fU)))] := hD
  have hfU := hzf
  refine ii_iconst (n := 0) hx hb dO_windRow_13 ?_
  refine lv_istore (lv' := [(5, .int (iI 0)), (4, .int (iI 0)), (3, .int (iI ((kr * 65536 + 32768 : Nat) : Int))), (0, .ref oo), (1, .int (iI (kr : Int))), (2, .ref aw)]) hx hb dO_windRow_14 hl (by decide) rfl (fun ls hl => ?_)
  have lp16 : ∀ (n_ : Nat) (i : Nat) (cr : Int) (fV : Nat → Int), (i ≤ np) → (cr = 0 ∨ cr = 1) → (∀ k : Nat, k < cs → sm fV (k + 1) = wiZ fX fY fN i ((kr * 65536 + 32768 : Nat) : Int) (k : Int)) → (cr = 0 → ∀ k : Int, wiZ fX fY fN i ((kr * 65536 + 32768 : Nat) : Int) k = 0) → (np - i) < n_ → ∀ (H : Heap) (locs : List Loc), va_P D vwCl [(oo, .inr (1, [.ref ax, .ref ay, .ref an, .int (iI (np : Int)), .int (iI (l0 : Int))])), (ax, .inl (cA, 4096, .inl (iA fX))), (ay, .inl (cA, 4096, .inl (iA fY))), (an, .inl (cA, 4096, .inl (iA fN))), (aw, .inl (cA, cs, .inl (iA fV)))] H → va_D A [(oo, .inr (1, [.ref ax, .ref ay, .ref an, .int (iI (np : Int)), .int (iI (l0 : Int))])), (ax, .inl (cA, 4096, .inl (iA fX))), (ay, .inl (cA, 4096, .inl (iA fY))), (an, .inl (cA, 4096, .inl (iA fN))), (aw, .inl (cA, cs, .inl (iA fV)))] → va_S A s.heap H locs → ∀ ls : Array Slot, lv_has ls 8 [(5, .int (iI (i : Int))), (4, .int (iI cr)), (3, .int (iI ((kr * 65536 + 32768 : Nat) : Int))), (0, .ref oo), (1, .int (iI (kr : Int))), (2, .ref aw)] → W p l e (headSpec wO_windRow rm_c_windRow).room s m [.ref oo, .int (iI (kr : Int)), .ref aw].toArray below meth c H locs 0 0 QQ (F0 m 16 ls []) := by
    intro n_
    induction n_ with
    | zero =>
      intro i cr fV i1 i2 i3 i4 hm_
      exact absurd hm_ (Nat.not_lt_zero _)
    | succ n_ ih_lp16 =>
      intro i cr fV i1 i2 i3 i4 hm_lp16 H locs hP hD hS ls hl
      refine lv_iload hx hb dO_windRow_16 (lv_at hl 0 rfl) ?_
      refine lv_aload_n hx hb dO_windRow_18 rfl (lv_at hl 3 rfl) ?_
      refine va_get (ci := 1) (v := .int (iI (np : Int))) (C := "WindingRaster$Outline") (T := TO) (N := 5) hx hb hts in_1 hown hK hP 0 rfl rfl 3 (by decide) fl_21 (fun _ h9 => h9) rfl dO_windRow_19 ?_
      refine ii_icmp_ge (tgt := 77) hx hb dO_windRow_22 (by decide) (by omega) (by omega) (fun c22 => ?_) (fun c22 => ?_)
      · refine ii_iconst (n := 1) hx hb dO_windRow_77 ?_
        refine lv_istore (lv' := [(5, .int (iI 1)), (4, .int (iI cr)), (3, .int (iI ((kr * 65536 + 32768 : Nat) : Int))), (0, .ref oo), (1, .int (iI (kr : Int))), (2, .ref aw)]) hx hb dO_windRow_78 hl (by decide) rfl (fun ls hl => ?_)
        have lp80 : ∀ (n_ : Nat) (j : Nat) (fV2 : Nat → Int), (1 ≤ j ∧ j ≤ cs) → (∀ k, k < j → fV2 k = sm fV (k + 1)) → (∀ k, j ≤ k → fV2 k = fV k) → (cs - j) < n_ → ∀ (H : Heap) (locs : List Loc), va_P D vwCl [(oo, .inr (1, [.ref ax, .ref ay, .ref an, .int (iI (np : Int)), .int (iI (l0 : Int))])), (ax, .inl (cA, 4096, .inl (iA fX))), (ay, .inl (cA, 4096, .inl (iA fY))), (an, .inl (cA, 4096, .inl (iA fN))), (aw, .inl (cA, cs, .inl (iA fV2)))] H → va_D A [(oo, .inr (1, [.ref ax, .ref ay, .ref an, .int (iI (np : Int)), .int (iI (l0 : Int))])), (ax, .inl (cA, 4096, .inl (iA fX))), (ay, .inl (cA, 4096, .inl (iA fY))), (an, .inl (cA, 4096, .inl (iA fN))), (aw, .inl (cA, cs, .inl (iA fV2)))] → va_S A s.heap H locs → ∀ ls : Array Slot, lv_has ls 8 [(5, .int (iI (j : Int))), (4, .int (iI cr)), (3, .int (iI ((kr * 65536 + 32768 : Nat) : Int))), (0, .ref oo), (1, .int (iI (kr : Int))), (2, .ref aw)] → W p l e (headSpec wO_windRow rm_c_windRow).room s m [.ref oo, .int (iI (kr : Int)), .ref aw].toArray below meth c H locs 0 0 QQ (F0 m 80 ls []) := by
          intro n_
          induction n_ with
          | zero =>
            intro j fV2 j1 j2 j3 hm_
            exact absurd hm_ (Nat.not_lt_zero _)
          | succ n_ ih_lp80 =>
            intro j fV2 j1 j2 j3 hm_lp80 H locs hP hD hS ls hl
            refine lv_iload hx hb dO_windRow_80 (lv_at hl 0 rfl) ?_
            refine lv_aload_n hx hb dO_windRow_82 rfl (lv_at hl 5 rfl) ?_
            refine ii_alen hx hb hK hP 4 0 rfl rfl dO_windRow_83 ?_
            refine ii_icmp_ge (tgt := 106) hx hb dO_windRow_84 (by decide) (by omega) (by omega) (fun c84 => ?_) (fun c84 => ?_)
            · refine lv_iload hx hb dO_windRow_106 (lv_at hl 1 rfl) ?_
              rw [← hQ]
              exact wr_zret fV2 hx hb hr hlocks (nar_b (by omega)) hAe (hP.sub [0, 1, 2, 3, 4] rfl) (hD.sub [0, 1, 2, 3, 4] (by decide) rfl) hS ⟨i2, fun k hk => by rw [j2 k (by omega), i3 k hk, show i = np by omega], fun h k => by have e3 := i4 h k; rw [show i = np by omega] at e3; exact e3⟩ dO_windRow_108
            · refine lv_aload_n hx hb dO_windRow_87 rfl (lv_at hl 5 rfl) ?_
              refine lv_iload hx hb dO_windRow_88 (lv_at hl 0 rfl) ?_
              refine lv_dup2_11 hx hb dO_windRow_90 rfl rfl ?_
              refine ii_iald hx hb hK hP 4 0 rfl rfl j rfl (by omega) (by omega) dO_windRow_91 ?_
              refine lv_aload_n hx hb dO_windRow_92 rfl (lv_at hl 5 rfl) ?_
              refine lv_iload hx hb dO_windRow_93 (lv_at hl 0 rfl) ?_
              refine ii_iconst (n := 1) hx hb dO_windRow_95 ?_
              refine ii_isub hx hb dO_windRow_96 ?_
              refine ii_iald hx hb hK hP 4 0 rfl rfl (j - 1) (by omega) (by omega) (by omega) dO_windRow_97 ?_
              refine ii_iadd hx hb dO_windRow_98 ?_
              refine ii_iast hx hb hK hP hD hS 4 0 rfl rfl j rfl (by omega) (by omega) dO_windRow_99 (fun H locs hP hD hS => ?_)
              have hP : va_P D vwCl [(oo, .inr (1, [.ref ax, .ref ay, .ref an, .int (iI (np : Int)), .int (iI (l0 : Int))])), (ax, .inl (cA, 4096, .inl (iA fX))), (ay, .inl (cA, 4096, .inl (iA fY))), (an, .inl (cA, 4096, .inl (iA fN))), (aw, .inl (cA, cs, .inl (iA (uZ fV2 j ((fV2 j) + (fV2 (j - 1)))))))] H := hP
              have hD : va_D A [(oo, .inr (1, [.ref ax, .ref ay, .ref an, .int (iI (np : Int)), .int (iI (l0 : Int))])), (ax, .inl (cA, 4096, .inl (iA fX))), (ay, .inl (cA, 4096, .inl (iA fY))), (an, .inl (cA, 4096, .inl (iA fN))), (aw, .inl (cA, cs, .inl (iA (uZ fV2 j ((fV2 j) + (fV2 (j - 1)))))))] := hD
              refine lv_iinc (v := iI ((j + 1 : Nat) : Int)) (lv' := [(5, .int (iI ((j + 1 : Nat) : Int))), (4, .int (iI cr)), (3, .int (iI ((kr * 65536 + 32768 : Nat) : Int))), (0, .ref oo), (1, .int (iI (kr : Int))), (2, .ref aw)]) hx hb dO_windRow_100 hl (k := 0) rfl (iI_inc _ 1 (by omega)) (by decide) rfl (fun ls hl => ?_)
              refine lv_goto (tgt := 80) hx hb dO_windRow_103 (by decide) ?_
              exact ih_lp80 (j + 1) (uZ fV2 j ((fV2 j) + (fV2 (j - 1)))) (by omega) (fun k hk => by unfold uZ; split; (next h => rw [h, j3 j (Nat.le_refl _), j2 (j - 1) (by omega), show j - 1 + 1 = j by omega]; show _ = sm fV j + fV j; omega); (next h => exact j2 k (by omega))) (fun k hk => by unfold uZ; rw [if_neg (by omega)]; exact j3 k (by omega)) (by omega) _ _ (hP.sub [0, 1, 2, 3, 4] rfl) (hD.sub [0, 1, 2, 3, 4] (by decide) rfl) hS _ (lv_sub hl [0, 1, 2, 3, 4, 5] rfl)
        exact lp80 (cs - 1 + 1) 1 fV (by omega) (fun k hk => by rw [show k = 0 by omega]; show fV 0 = 0 + fV 0; omega) (fun _ _ => rfl) (Nat.lt_succ_self _) _ _ (hP.sub [0, 1, 2, 3, 4] rfl) (hD.sub [0, 1, 2, 3, 4] (by decide) rfl) hS _ (lv_sub hl [0, 1, 2, 3, 4, 5] rfl)
      · have g5 := h5 i (by omega)
        have g6 := h6 i (by omega)
        obtain ⟨nj, hnj⟩ : ∃ nj : Nat, fN i = (nj : Int) := ⟨(fN i).toNat, by omega⟩
        have g7 := h5 nj (by omega)
        have ej : (fN i).toNat = nj := by omega
        refine lv_aload_n hx hb dO_windRow_25 rfl (lv_at hl 3 rfl) ?_
        refine lv_iload hx hb dO_windRow_26 (lv_at hl 0 rfl) ?_
        refine lv_iload_n hx hb dO_windRow_28 rfl (lv_at hl 2 rfl) ?_
        refine cs_i (va_runV (As := [.int (iI (i : Int)), .int (iI ((kr * 65536 + 32768 : Nat) : Int))]) (rest := []) ⟨hx, hb, hml, hown, hts⟩ (c_stepAt l D cA cB cS oo ax ay an fX fY fN np l0 i ((kr * 65536 + 32768 : Nat) : Int) nj (by omega) (by omega) hnj (by omega) (by omega) (by omega) (by omega)) ⟨(callB_of 2 hts (gIn vm_138) rfl rfl rfl (hts _ (List.mem_cons_of_mem _ vm_4)) (hts _ (List.mem_cons_of_mem _ vm_136)) (by decide +kernel) ⟨Nat.le_of_ble_eq_true rfl, Nat.le_of_ble_eq_true rfl⟩), (hts _ (List.mem_cons_of_mem _ vm_137)), (hts _ (List.mem_cons_of_mem _ vm_404))⟩ (pR.preV (va_recv hK hP (ci := 1) (q0 := 0) rfl rfl) (hP.sub [0, 1, 2, 3] rfl) hKW) rfl rfl hl.1 rfl (lv_room (Nat.le_of_ble_eq_true rfl)) dO_windRow_29 ⟨Nat.le_of_ble_eq_true rfl, Nat.le_of_ble_eq_true rfl⟩) (fun z_3 hz_3 => ?_)
        subst hz_3
        have g8 := stZ_cases (fY i) (fY nj) ((kr * 65536 + 32768 : Nat) : Int)
        refine lv_istore (lv' := [(6, .int (iI (stZ (fY i) (fY nj) ((kr * 65536 + 32768 : Nat) : Int)))), (5, .int (iI (i : Int))), (4, .int (iI cr)), (3, .int (iI ((kr * 65536 + 32768 : Nat) : Int))), (0, .ref oo), (1, .int (iI (kr : Int))), (2, .ref aw)]) hx hb dO_windRow_32 hl (by decide) rfl (fun ls hl => ?_)
        refine lv_iload hx hb dO_windRow_34 (lv_at hl 0 rfl) ?_
        refine ii_if_eq (tgt := 71) hx hb dO_windRow_36 (by decide) (by omega) (fun c36 => ?_) (fun c36 => ?_)
        · refine lv_iinc (v := iI ((i + 1 : Nat) : Int)) (lv' := [(5, .int (iI ((i + 1 : Nat) : Int))), (6, .int (iI (stZ (fY i) (fY nj) ((kr * 65536 + 32768 : Nat) : Int)))), (4, .int (iI cr)), (3, .int (iI ((kr * 65536 + 32768 : Nat) : Int))), (0, .ref oo), (1, .int (iI (kr : Int))), (2, .ref aw)]) hx hb dO_windRow_71 hl (k := 1) rfl (iI_inc _ 1 (by omega)) (by decide) rfl (fun ls hl => ?_)
          refine lv_goto (tgt := 16) hx hb dO_windRow_74 (by decide) ?_
          exact ih_lp16 (i + 1) cr fV (by omega) (by omega) (fun k hk => by have e1 := wiZ_succ fX fY fN i ((kr * 65536 + 32768 : Nat) : Int) (k : Int); rw [ej] at e1; have e2 := ctZ_cases (fX i) (fY i) (fX nj) (fY nj) ((kr * 65536 + 32768 : Nat) : Int) (k : Int); have e3 := i3 k hk; omega) (fun h k => by have e1 := wiZ_succ fX fY fN i ((kr * 65536 + 32768 : Nat) : Int) k; rw [ej] at e1; have e2 := ctZ_cases (fX i) (fY i) (fX nj) (fY nj) ((kr * 65536 + 32768 : Nat) : Int) k; have e3 := i4 h k; omega) (by omega) _ _ (hP.sub [0, 1, 2, 3, 4] rfl) (hD.sub [0, 1, 2, 3, 4] (by decide) rfl) hS _ (lv_sub hl [0, 2, 3, 4, 5, 6] rfl)
        · refine ii_iconst (n := 1) hx hb dO_windRow_39 ?_
          refine lv_istore (lv' := [(4, .int (iI 1)), (6, .int (iI (stZ (fY i) (fY nj) ((kr * 65536 + 32768 : Nat) : Int)))), (5, .int (iI (i : Int))), (3, .int (iI ((kr * 65536 + 32768 : Nat) : Int))), (0, .ref oo), (1, .int (iI (kr : Int))), (2, .ref aw)]) hx hb dO_windRow_40 hl (by decide) rfl (fun ls hl => ?_)
          refine ii_iconst (n := 0) hx hb dO_windRow_42 ?_
          refine lv_aload_n hx hb dO_windRow_43 rfl (lv_at hl 4 rfl) ?_
          refine lv_iload hx hb dO_windRow_44 (lv_at hl 2 rfl) ?_
          refine lv_iload_n hx hb dO_windRow_46 rfl (lv_at hl 3 rfl) ?_
          refine cs_i (va_runV (As := [.int (iI (i : Int)), .int (iI ((kr * 65536 + 32768 : Nat) : Int))]) (rest := [.int (iI 0)]) ⟨hx, hb, hml, hown, hts⟩ (c_firstColumn l D cA cB cS oo ax ay an fX fY fN np l0 i ((kr * 65536 + 32768 : Nat) : Int) nj (by omega) (by omega) (by omega) hnj g5.1 g5.2 g7.1 g7.2 (by omega) (by have h8 := stZ_cases (fY i) (fY nj) ((kr * 65536 + 32768 : Nat) : Int); omega)) ⟨(callB_of 2 hts (gIn vm_144) rfl rfl rfl (hts _ (List.mem_cons_of_mem _ vm_4)) (hts _ (List.mem_cons_of_mem _ vm_142)) (by decide +kernel) ⟨Nat.le_of_ble_eq_true rfl, Nat.le_of_ble_eq_true rfl⟩), (hts _ (List.mem_cons_of_mem _ vm_143)), (hts _ (List.mem_cons_of_mem _ vm_406))⟩ (pR.preV (va_recv hK hP (ci := 1) (q0 := 0) rfl rfl) (hP.sub [0, 1, 2, 3] rfl) hKW) rfl rfl hl.1 rfl (lv_room (Nat.le_of_ble_eq_true rfl)) dO_windRow_47 ⟨Nat.le_of_ble_eq_true rfl, Nat.le_of_ble_eq_true rfl⟩) (fun z_4 hz_4 => ?_)
          subst hz_4
          have g9 := coZ_rng (a := fX i) (b := fY i) (c := fX nj) (d := fY nj) (y := ((kr * 65536 + 32768 : Nat) : Int)) g5.1 g7.1 (by omega)
          refine ii_mmax hx hb (hml.trans hl.1.symm) hown ml_56 ms_max mi_math mc_max (Nat.le_of_ble_eq_true rfl) (Nat.le_of_ble_eq_true rfl) (Nat.le_of_ble_eq_true rfl) (Nat.le_of_ble_eq_true rfl) (by omega) (by omega) dO_windRow_50 ?_
          obtain ⟨q, hq⟩ : ∃ q : Nat, max 0 (coZ (fX i) (fY i) (fX nj) (fY nj) ((kr * 65536 + 32768 : Nat) : Int)) = (q : Int) := ⟨(max 0 (coZ (fX i) (fY i) (fX nj) (fY nj) ((kr * 65536 + 32768 : Nat) : Int))).toNat, by omega⟩
          refine ii_top (y := (q : Int)) hq ?_
          refine lv_istore (lv' := [(7, .int (iI (q : Int))), (4, .int (iI 1)), (6, .int (iI (stZ (fY i) (fY nj) ((kr * 65536 + 32768 : Nat) : Int)))), (5, .int (iI (i : Int))), (3, .int (iI ((kr * 65536 + 32768 : Nat) : Int))), (0, .ref oo), (1, .int (iI (kr : Int))), (2, .ref aw)]) hx hb dO_windRow_53 hl (by decide) rfl (fun ls hl => ?_)
          refine lv_iload hx hb dO_windRow_55 (lv_at hl 0 rfl) ?_
          refine lv_aload_n hx hb dO_windRow_57 rfl (lv_at hl 7 rfl) ?_
          refine ii_alen hx hb hK hP 4 0 rfl rfl dO_windRow_58 ?_
          refine ii_icmp_ge (tgt := 71) hx hb dO_windRow_59 (by decide) (by omega) (by omega) (fun c59 => ?_) (fun c59 => ?_)
          · refine lv_iinc (v := iI ((i + 1 : Nat) : Int)) (lv' := [(5, .int (iI ((i + 1 : Nat) : Int))), (7, .int (iI (q : Int))), (4, .int (iI 1)), (6, .int (iI (stZ (fY i) (fY nj) ((kr * 65536 + 32768 : Nat) : Int)))), (3, .int (iI ((kr * 65536 + 32768 : Nat) : Int))), (0, .ref oo), (1, .int (iI (kr : Int))), (2, .ref aw)]) hx hb dO_windRow_71 hl (k := 3) rfl (iI_inc _ 1 (by omega)) (by decide) rfl (fun ls hl => ?_)
            refine lv_goto (tgt := 16) hx hb dO_windRow_74 (by decide) ?_
            exact ih_lp16 (i + 1) 1 fV (by omega) (by omega) (fun k hk => by have e1 := wiZ_succ fX fY fN i ((kr * 65536 + 32768 : Nat) : Int) (k : Int); rw [ej] at e1; have e2 := ctZ_cases (fX i) (fY i) (fX nj) (fY nj) ((kr * 65536 + 32768 : Nat) : Int) (k : Int); have e3 := i3 k hk; omega) (fun h => absurd h (by decide)) (by omega) _ _ (hP.sub [0, 1, 2, 3, 4] rfl) (hD.sub [0, 1, 2, 3, 4] (by decide) rfl) hS _ (lv_sub hl [0, 2, 4, 5, 6, 7] rfl)
          · refine lv_aload_n hx hb dO_windRow_62 rfl (lv_at hl 7 rfl) ?_
            refine lv_iload hx hb dO_windRow_63 (lv_at hl 0 rfl) ?_
            refine lv_dup2_11 hx hb dO_windRow_65 rfl rfl ?_
            refine ii_iald hx hb hK hP 4 0 rfl rfl q rfl (by omega) (by omega) dO_windRow_66 ?_
            refine lv_iload hx hb dO_windRow_67 (lv_at hl 2 rfl) ?_
            refine ii_iadd hx hb dO_windRow_69 ?_
            refine ii_iast hx hb hK hP hD hS 4 0 rfl rfl q rfl (by omega) (by omega) dO_windRow_70 (fun H locs hP hD hS => ?_)
            have hP : va_P D vwCl [(oo, .inr (1, [.ref ax, .ref ay, .ref an, .int (iI (np : Int)), .int (iI (l0 : Int))])), (ax, .inl (cA, 4096, .inl (iA fX))), (ay, .inl (cA, 4096, .inl (iA fY))), (an, .inl (cA, 4096, .inl (iA fN))), (aw, .inl (cA, cs, .inl (iA (uZ fV q ((fV q) + (stZ (fY i) (fY nj) ((kr * 65536 + 32768 : Nat) : Int)))))))] H := hP
            have hD : va_D A [(oo, .inr (1, [.ref ax, .ref ay, .ref an, .int (iI (np : Int)), .int (iI (l0 : Int))])), (ax, .inl (cA, 4096, .inl (iA fX))), (ay, .inl (cA, 4096, .inl (iA fY))), (an, .inl (cA, 4096, .inl (iA fN))), (aw, .inl (cA, cs, .inl (iA (uZ fV q ((fV q) + (stZ (fY i) (fY nj) ((kr * 65536 + 32768 : Nat) : Int)))))))] := hD
            refine lv_iinc (v := iI ((i + 1 : Nat) : Int)) (lv' := [(5, .int (iI ((i + 1 : Nat) : Int))), (7, .int (iI (q : Int))), (4, .int (iI 1)), (6, .int (iI (stZ (fY i) (fY nj) ((kr * 65536 + 32768 : Nat) : Int)))), (3, .int (iI ((kr * 65536 + 32768 : Nat) : Int))), (0, .ref oo), (1, .int (iI (kr : Int))), (2, .ref aw)]) hx hb dO_windRow_71 hl (k := 3) rfl (iI_inc _ 1 (by omega)) (by decide) rfl (fun ls hl => ?_)
            refine lv_goto (tgt := 16) hx hb dO_windRow_74 (by decide) ?_
            exact ih_lp16 (i + 1) 1 (uZ fV q ((fV q) + (stZ (fY i) (fY nj) ((kr * 65536 + 32768 : Nat) : Int)))) (by omega) (by omega) (fun k hk => by have e1 := wiZ_succ fX fY fN i ((kr * 65536 + 32768 : Nat) : Int) (k : Int); rw [ej] at e1; have e2 := ctZ_cases (fX i) (fY i) (fX nj) (fY nj) ((kr * 65536 + 32768 : Nat) : Int) (k : Int); have e3 := i3 k hk; have e4 := sm_uZ fV q (stZ (fY i) (fY nj) ((kr * 65536 + 32768 : Nat) : Int)) (k + 1); split at e4 <;> omega) (fun h => absurd h (by decide)) (by omega) _ _ (hP.sub [0, 1, 2, 3, 4] rfl) (hD.sub [0, 1, 2, 3, 4] (by decide) rfl) hS _ (lv_sub hl [0, 2, 4, 5, 6, 7] rfl)
  exact lp16 (np - 0 + 1) 0 0 fU (by omega) (by omega) (fun k hk => by rw [sm_zero (fun j hj => hfU j (by omega))]; rfl) (fun _ _ => rfl) (Nat.lt_succ_self _) _ _ (hP.sub [0, 1, 2, 3, 4] rfl) (hD.sub [0, 1, 2, 3, 4] (by decide) rfl) hS _ (lv_sub hl [0, 1, 2, 3, 4, 5] rfl)
