def rm_c_hasPixel : Room := { frames := 0, cells := 0, slots := 0, locals := 0 }
set_option maxHeartbeats 4000000 in
set_option maxRecDepth 100000 in
theorem c_hasPixel (l : Launch) (D : va_G) (cA cB cS : ClassId) (wr : Nat) (cs : Nat) (rs : Nat) (ag : Nat) (oo : Nat) (cp : Nat) (aw : Nat) (pl : Nat) (a1 : Int) (a2 : Int) (h1 : i32 a1) (h2 : i32 a2) (h3 : cs ≤ 256) (h4 : rs ≤ 256) : Met l yW_hasPixel wW_hasPixel rm_c_hasPixel (pR [.ref wr, .int (iI a1), .int (iI a2)] D vwCl (vwTy cA cB cS) vwNw [(wr, .inr (0, [.int (iI (cs : Int)), .int (iI (rs : Int)), .ref ag, .ref oo, .ref cp, .ref aw, .ref pl]))]) (qI (fun z => (z = 1 ∧ (0 ≤ a1 ∧ a1 < (cs : Int) ∧ 0 ≤ a2 ∧ a2 < (rs : Int))) ∨ (z = 0 ∧ ¬ (0 ≤ a1 ∧ a1 < (cs : Int) ∧ 0 ≤ a2 ∧ a2 < (rs : Int))))) 0 0 (fun _ => False) := by
  refine Met.ofW (cc := bW_hasPixel) (maxL := 3) (ret := (some .boolean)) (by decide +kernel) rfl ?_
  intro p e s m args below meth c s₁ B hml hv
  obtain ⟨rfl, hP, hKW⟩ := hv
  have hK := hKW.1
  have hN := hKW.2.2
  have hx := B.exec
  have hb := B.bytes
  have hr := B.returns
  have hts := atoms_spec (ws := wW_hasPixel) B.pre
  have hown : s.vm.findClass "WindingRaster" = some m.cls := findClass_of_methodNamed B.named
  have hlocks := B.notSynchronized
  have hP : va_P D vwCl [(wr, .inr (0, [.int (iI (cs : Int)), .int (iI (rs : Int)), .ref ag, .ref oo, .ref cp, .ref aw, .ref pl]))] s.heap := hP
  have in_0 : ∀ w ∈ wsW, w ∈ wW_hasPixel := fun w h => List.mem_cons_of_mem _ (in0_W w h)
  have fl_18 := (hts _ (List.mem_cons_of_mem _ vm_69))
  have fl_22 := (hts _ (List.mem_cons_of_mem _ vm_70))
  have hl := lv_entry ([.ref wr, .int (iI a1), .int (iI a2)]) (n := 3) (Nat.le_of_ble_eq_true rfl)
  rw [lg_entry_eq]
  generalize (lg_sl ([.ref wr, .int (iI a1), .int (iI a2)]) ++ List.replicate (3 - (lg_sl ([.ref wr, .int (iI a1), .int (iI a2)])).length) Slot.unset).toArray = ls at hl ⊢
  have hl : lv_has ls 3 [(0, .ref wr), (1, .int (iI a1)), (2, .int (iI a2))] := hl
  generalize hQ : MQ below (qI (fun z => (z = 1 ∧ (0 ≤ a1 ∧ a1 < (cs : Int) ∧ 0 ≤ a2 ∧ a2 < (rs : Int))) ∨ (z = 0 ∧ ¬ (0 ≤ a1 ∧ a1 < (cs : Int) ∧ 0 ≤ a2 ∧ a2 < (rs : Int))))) [.ref wr, .int (iI a1), .int (iI a2)].toArray s 0 0 (fun _ => False) = QQ
  refine lv_iload_n hx hb dW_hasPixel_0 rfl (lv_at hl 1 rfl) ?_
  refine ii_if_lt (tgt := 28) hx hb dW_hasPixel_1 (by decide) (by omega) (fun c1 => ?_) (fun c1 => ?_)
  · refine ii_iconst (n := 0) hx hb dW_hasPixel_28 ?_
    rw [← hQ]
    exact rd_zret hx hb hr hlocks (nar_b (by omega)) (by omega) dW_hasPixel_29
  · refine lv_iload_n hx hb dW_hasPixel_4 rfl (lv_at hl 1 rfl) ?_
    refine lv_aload_n hx hb dW_hasPixel_5 rfl (lv_at hl 0 rfl) ?_
    refine va_get (ci := 0) (v := .int (iI (cs : Int))) (C := "WindingRaster") (T := TW) (N := 7) hx hb hts in_0 hown hK hP 0 rfl rfl 0 (by decide) fl_18 (fun _ h9 => h9) rfl dW_hasPixel_6 ?_
    refine ii_icmp_ge (tgt := 28) hx hb dW_hasPixel_9 (by decide) (by omega) (by omega) (fun c9 => ?_) (fun c9 => ?_)
    · refine ii_iconst (n := 0) hx hb dW_hasPixel_28 ?_
      rw [← hQ]
      exact rd_zret hx hb hr hlocks (nar_b (by omega)) (by omega) dW_hasPixel_29
    · refine lv_iload_n hx hb dW_hasPixel_12 rfl (lv_at hl 2 rfl) ?_
      refine ii_if_lt (tgt := 28) hx hb dW_hasPixel_13 (by decide) (by omega) (fun c13 => ?_) (fun c13 => ?_)
      · refine ii_iconst (n := 0) hx hb dW_hasPixel_28 ?_
        rw [← hQ]
        exact rd_zret hx hb hr hlocks (nar_b (by omega)) (by omega) dW_hasPixel_29
      · refine lv_iload_n hx hb dW_hasPixel_16 rfl (lv_at hl 2 rfl) ?_
        refine lv_aload_n hx hb dW_hasPixel_17 rfl (lv_at hl 0 rfl) ?_
        refine va_get (ci := 0) (v := .int (iI (rs : Int))) (C := "WindingRaster") (T := TW) (N := 7) hx hb hts in_0 hown hK hP 0 rfl rfl 1 (by decide) fl_22 (fun _ h9 => h9) rfl dW_hasPixel_18 ?_
        refine ii_icmp_ge (tgt := 28) hx hb dW_hasPixel_21 (by decide) (by omega) (by omega) (fun c21 => ?_) (fun c21 => ?_)
        · refine ii_iconst (n := 0) hx hb dW_hasPixel_28 ?_
          rw [← hQ]
          exact rd_zret hx hb hr hlocks (nar_b (by omega)) (by omega) dW_hasPixel_29
        · refine ii_iconst (n := 1) hx hb dW_hasPixel_24 ?_
          refine lv_goto (tgt := 29) hx hb dW_hasPixel_25 (by decide) ?_
          rw [← hQ]
          exact rd_zret hx hb hr hlocks (nar_b (by omega)) (by omega) dW_hasPixel_29

def rm_c_paintRun : Room := { frames := 2, cells := 0, slots := 0, locals := 40 }
set_option maxHeartbeats 4000000 in
set_option maxRecDepth 100000 in
theorem c_paintRun (l : Launch) (D : va_G) (cA cB cS : ClassId) (wr : Nat) (cs : Nat) (rs : Nat) (ag : Nat) (oo : Nat) (cp : Nat) (aw : Nat) (pl : Nat) (fG : Nat → Int) (gv : Int) (x : Run3) (h1 : runOk cs rs x) (h6 : cs ≤ 256) (h7 : rs ≤ 256) (h10 : cs * rs ≤ 65536) (sz : Nat) : Met l yW_paintRun wW_paintRun rm_c_paintRun (pW [.ref wr, .int (iI ((enc x : Nat) : Int)), .int (iI gv)] D vwCl (vwTy cA cB cS) vwNw [(wr, .inr (0, [.int (iI (cs : Int)), .int (iI (rs : Int)), .ref ag, .ref oo, .ref cp, .ref aw, .ref pl])), (ag, .inl (cA, cs * rs, .inl (iA fG)))] sz) (qV (S := (Nat → Int)) (fun fG1 : (Nat → Int) => ∀ p, fG1 p = if x.1 * cs + x.2.1 ≤ p ∧ p < x.1 * cs + x.2.2 then gv else fG p) D vwCl [(wr, .inr (0, [.int (iI (cs : Int)), .int (iI (rs : Int)), .ref ag, .ref oo, .ref cp, .ref aw, .ref pl])), (ag, .inl (cA, cs * rs, .inl (iA fG)))] sz (fun fG1 : (Nat → Int) => [(wr, .inr (0, [.int (iI (cs : Int)), .int (iI (rs : Int)), .ref ag, .ref oo, .ref cp, .ref aw, .ref pl])), (ag, .inl (cA, cs * rs, .inl (iA fG1)))])) 0 0 (va_A [(wr, .inr (0, [.int (iI (cs : Int)), .int (iI (rs : Int)), .ref ag, .ref oo, .ref cp, .ref aw, .ref pl])), (ag, .inl (cA, cs * rs, .inl (iA fG)))] sz) := by
  refine Met.ofW (cc := bW_paintRun) (maxL := 6) (ret := none) (by decide +kernel) rfl ?_
  intro p e s m args below meth c s₁ B hml hv
  obtain ⟨rfl, hsz, hP, hKW, hD0⟩ := hv
  have hK := hKW.1
  have hN := hKW.2.2
  have hx := B.exec
  have hb := B.bytes
  have hr := B.returns
  have hts := atoms_spec (ws := wW_paintRun) B.pre
  have hown : s.vm.findClass "WindingRaster" = some m.cls := findClass_of_methodNamed B.named
  have hlocks := B.notSynchronized
  subst hsz
  have hD := hD0.self (sz := s.heap.size)
  obtain ⟨A, hAe⟩ : ∃ A, va_A [(wr, .inr (0, [.int (iI (cs : Int)), .int (iI (rs : Int)), .ref ag, .ref oo, .ref cp, .ref aw, .ref pl])), (ag, .inl (cA, cs * rs, .inl (iA fG)))] s.heap.size = A := ⟨_, rfl⟩
  rw [hAe] at hD
  have hA : ∀ q : Nat, s.heap.size ≤ q → A q := fun q h => by rw [← hAe]; exact Or.inr h
  have hS : va_S A s.heap s.heap [] := va_S.rf
  have hP : va_P D vwCl [(wr, .inr (0, [.int (iI (cs : Int)), .int (iI (rs : Int)), .ref ag, .ref oo, .ref cp, .ref aw, .ref pl])), (ag, .inl (cA, cs * rs, .inl (iA fG)))] s.heap := hP
  have in_0 : ∀ w ∈ wsW, w ∈ wW_paintRun := fun w h => List.mem_cons_of_mem _ (in0_W w h)
  have fl_18 := (hts _ (List.mem_cons_of_mem _ vm_69))
  have fl_25 := (hts _ (List.mem_cons_of_mem _ vm_71))
  have ml_9 := (hts _ (List.mem_cons_of_mem _ vm_18))
  have ms_min := (hts _ (List.mem_cons_of_mem _ vm_19))
  have mi_math := (hts _ (List.mem_cons_of_mem _ vm_2))
  have mc_min := (hts _ (List.mem_cons_of_mem _ vx_min))
  have ml_15 := (hts _ (List.mem_cons_of_mem _ vm_21))
  have ms_max := (hts _ (List.mem_cons_of_mem _ vm_22))
  have mc_max := (hts _ (List.mem_cons_of_mem _ vx_max))
  have hl := lv_entry ([.ref wr, .int (iI ((enc x : Nat) : Int)), .int (iI gv)]) (n := 6) (Nat.le_of_ble_eq_true rfl)
  rw [lg_entry_eq]
  generalize (lg_sl ([.ref wr, .int (iI ((enc x : Nat) : Int)), .int (iI gv)]) ++ List.replicate (6 - (lg_sl ([.ref wr, .int (iI ((enc x : Nat) : Int)), .int (iI gv)])).length) Slot.unset).toArray = ls at hl ⊢
  have hl : lv_has ls 6 [(0, .ref wr), (1, .int (iI ((enc x : Nat) : Int))), (2, .int (iI gv))] := hl
  generalize hQ : MQ below (qV (S := (Nat → Int)) (fun fG1 : (Nat → Int) => ∀ p, fG1 p = if x.1 * cs + x.2.1 ≤ p ∧ p < x.1 * cs + x.2.2 then gv else fG p) D vwCl [(wr, .inr (0, [.int (iI (cs : Int)), .int (iI (rs : Int)), .ref ag, .ref oo, .ref cp, .ref aw, .ref pl])), (ag, .inl (cA, cs * rs, .inl (iA fG)))] s.heap.size (fun fG1 : (Nat → Int) => [(wr, .inr (0, [.int (iI (cs : Int)), .int (iI (rs : Int)), .ref ag, .ref oo, .ref cp, .ref aw, .ref pl])), (ag, .inl (cA, cs * rs, .inl (iA fG1)))])) [.ref wr, .int (iI ((enc x : Nat) : Int)), .int (iI gv)].toArray s 0 0 (va_A [(wr, .inr (0, [.int (iI (cs : Int)), .int (iI (rs : Int)), .ref ag, .ref oo, .ref cp, .ref aw, .ref pl])), (ag, .inl (cA, cs * rs, .inl (iA fG)))] s.heap.size) = QQ
  have e1 := enc_row h1 h6
  have e2 := enc_from h1 h6
  have e3 := enc_end h1 h6
  have e4 := enc_lt h1 h6 h7
  have hok1 := h1.1
  have hok2 := h1.2.1
  have hok3 := h1.2.2
  have hix := idx_le (cs := cs) h1.1
  refine lv_iload_n hx hb dW_paintRun_0 rfl (lv_at hl 1 rfl) ?_
  refine cs_i (va_runSN (As := [.int (iI ((enc x : Nat) : Int))]) (rest := []) ⟨hx, hb, hml, hown, hts⟩ (c_rowOf l D cA cB cS (enc x) (by omega)) ⟨(va_cnB 1 hts (gIn vm_167) rfl rfl rfl (hN _ vn_20) (hts _ (List.mem_cons_of_mem _ vm_6)) (by decide +kernel) ⟨Nat.le_of_ble_eq_true rfl, Nat.le_of_ble_eq_true rfl⟩), (hts _ (List.mem_cons_of_mem _ vm_166)), trivial⟩ (pR.pre (hP.sub [] rfl) hKW) rfl rfl hl.1 rfl (lv_room (Nat.le_of_ble_eq_true rfl)) dW_paintRun_1 ⟨Nat.le_of_ble_eq_true rfl, Nat.le_of_ble_eq_true rfl⟩) (fun z_1 hz_1 => ?_)
  subst hz_1
  refine ii_top (y := ((x.1 : Nat) : Int)) (by rw [e1]) ?_
  refine lv_aload_n hx hb dW_paintRun_4 rfl (lv_at hl 0 rfl) ?_
  refine va_get (ci := 0) (v := .int (iI (cs : Int))) (C := "WindingRaster") (T := TW) (N := 7) hx hb hts in_0 hown hK hP 0 rfl rfl 0 (by decide) fl_18 (fun _ h9 => h9) rfl dW_paintRun_5 ?_
  refine ii_imul hx hb dW_paintRun_8 ?_
  refine ii_top (y := ((x.1 * cs : Nat) : Int)) (by push_cast; rfl) ?_
  refine lv_iload_n hx hb dW_paintRun_9 rfl (lv_at hl 1 rfl) ?_
  refine cs_i (va_runSN (As := [.int (iI ((enc x : Nat) : Int))]) (rest := [.int (iI ((x.1 * cs : Nat) : Int))]) ⟨hx, hb, hml, hown, hts⟩ (c_fromOf l D cA cB cS (enc x) (by omega)) ⟨(va_cnB 1 hts (gIn vm_178) rfl rfl rfl (hN _ vn_23) (hts _ (List.mem_cons_of_mem _ vm_6)) (by decide +kernel) ⟨Nat.le_of_ble_eq_true rfl, Nat.le_of_ble_eq_true rfl⟩), (hts _ (List.mem_cons_of_mem _ vm_177)), trivial⟩ (pR.pre (hP.sub [] rfl) hKW) rfl rfl hl.1 rfl (lv_room (Nat.le_of_ble_eq_true rfl)) dW_paintRun_10 ⟨Nat.le_of_ble_eq_true rfl, Nat.le_of_ble_eq_true rfl⟩) (fun z_2 hz_2 => ?_)
  subst hz_2
  refine ii_top (y := ((x.2.1 : Nat) : Int)) (by rw [e2]) ?_
  refine ii_iadd hx hb dW_paintRun_13 ?_
  refine ii_top (y := (((x.1 * cs) + x.2.1 : Nat) : Int)) (by push_cast; rfl) ?_
  refine lv_istore_n (lv' := [(3, .int (iI (((x.1 * cs) + x.2.1 : Nat) : Int))), (0, .ref wr), (1, .int (iI ((enc x : Nat) : Int))), (2, .int (iI gv))]) hx hb dW_paintRun_14 rfl hl (by decide) rfl (fun ls hl => ?_)
  refine lv_iload_n hx hb dW_paintRun_15 rfl (lv_at hl 0 rfl) ?_
  refine lv_iload_n hx hb dW_paintRun_16 rfl (lv_at hl 2 rfl) ?_
  refine cs_i (va_runSN (As := [.int (iI ((enc x : Nat) : Int))]) (rest := [.int (iI (((x.1 * cs) + x.2.1 : Nat) : Int))]) ⟨hx, hb, hml, hown, hts⟩ (c_lengthOf l D cA cB cS (enc x) (by omega) (by omega)) ⟨(va_cnB 1 hts (gIn vm_191) rfl rfl rfl (hN _ vn_26) (hts _ (List.mem_cons_of_mem _ vm_6)) (by decide +kernel) ⟨Nat.le_of_ble_eq_true rfl, Nat.le_of_ble_eq_true rfl⟩), (hts _ (List.mem_cons_of_mem _ vm_190)), trivial⟩ (pR.pre (hP.sub [] rfl) hKW) rfl rfl hl.1 rfl (lv_room (Nat.le_of_ble_eq_true rfl)) dW_paintRun_17 ⟨Nat.le_of_ble_eq_true rfl, Nat.le_of_ble_eq_true rfl⟩) (fun z_3 hz_3 => ?_)
  subst hz_3
  refine ii_top (y := ((x.2.2 - x.2.1 : Nat) : Int)) (by rw [e2, e3]) ?_
  refine ii_iadd hx hb dW_paintRun_20 ?_
  refine ii_top (y := ((((x.1 * cs) + x.2.1) + (x.2.2 - x.2.1) : Nat) : Int)) (by push_cast; rfl) ?_
  refine lv_aload_n hx hb dW_paintRun_21 rfl (lv_at hl 1 rfl) ?_
  refine va_get (ci := 0) (v := .ref ag) (C := "WindingRaster") (T := TW) (N := 7) hx hb hts in_0 hown hK hP 0 rfl rfl 2 (by decide) fl_25 (fun _ h9 => h9) rfl dW_paintRun_22 ?_
  refine ii_alen hx hb hK hP 1 0 rfl rfl dW_paintRun_25 ?_
  refine ii_mmin hx hb (hml.trans hl.1.symm) hown ml_9 ms_min mi_math mc_min (Nat.le_of_ble_eq_true rfl) (Nat.le_of_ble_eq_true rfl) (Nat.le_of_ble_eq_true rfl) (Nat.le_of_ble_eq_true rfl) (by omega) (by omega) dW_paintRun_26 ?_
  refine ii_top (y := ((x.1 * cs + x.2.2 : Nat) : Int)) (by omega) ?_
  refine lv_istore (lv' := [(4, .int (iI ((x.1 * cs + x.2.2 : Nat) : Int))), (3, .int (iI (((x.1 * cs) + x.2.1 : Nat) : Int))), (0, .ref wr), (1, .int (iI ((enc x : Nat) : Int))), (2, .int (iI gv))]) hx hb dW_paintRun_29 hl (by decide) rfl (fun ls hl => ?_)
  refine ii_iconst (n := 0) hx hb dW_paintRun_31 ?_
  refine lv_iload_n hx hb dW_paintRun_32 rfl (lv_at hl 1 rfl) ?_
  refine ii_mmax hx hb (hml.trans hl.1.symm) hown ml_15 ms_max mi_math mc_max (Nat.le_of_ble_eq_true rfl) (Nat.le_of_ble_eq_true rfl) (Nat.le_of_ble_eq_true rfl) (Nat.le_of_ble_eq_true rfl) (by omega) (by omega) dW_paintRun_33 ?_
  refine ii_top (y := ((x.1 * cs + x.2.1 : Nat) : Int)) (by omega) ?_
  refine lv_istore (lv' := [(5, .int (iI ((x.1 * cs + x.2.1 : Nat) : Int))), (4, .int (iI ((x.1 * cs + x.2.2 : Nat) : Int))), (3, .int (iI (((x.1 * cs) + x.2.1 : Nat) : Int))), (0, .ref wr), (1, .int (iI ((enc x : Nat) : Int))), (2, .int (iI gv))]) hx hb dW_paintRun_36 hl (by decide) rfl (fun ls hl => ?_)
  have lp38 : ∀ (n_ : Nat) (k : Nat) (fK : Nat → Int), (x.1 * cs + x.2.1 ≤ k ∧ k ≤ x.1 * cs + x.2.2) → (∀ p, fK p = if x.1 * cs + x.2.1 ≤ p ∧ p < k then gv else fG p) → ((x.1 * cs + x.2.2) - k) < n_ → ∀ (H : Heap) (locs : List Loc), va_P D vwCl [(wr, .inr (0, [.int (iI (cs : Int)), .int (iI (rs : Int)), .ref ag, .ref oo, .ref cp, .ref aw, .ref pl])), (ag, .inl (cA, cs * rs, .inl (iA fK)))] H → va_D A [(wr, .inr (0, [.int (iI (cs : Int)), .int (iI (rs : Int)), .ref ag, .ref oo, .ref cp, .ref aw, .ref pl])), (ag, .inl (cA, cs * rs, .inl (iA fK)))] → va_S A s.heap H locs → ∀ ls : Array Slot, lv_has ls 6 [(5, .int (iI (k : Int))), (4, .int (iI ((x.1 * cs + x.2.2 : Nat) : Int))), (3, .int (iI ((x.1 * cs + x.2.1 : Nat) : Int))), (0, .ref wr), (1, .int (iI ((enc x : Nat) : Int))), (2, .int (iI gv))] → W p l e (headSpec wW_paintRun rm_c_paintRun).room s m [.ref wr, .int (iI ((enc x : Nat) : Int)), .int (iI gv)].toArray below meth c H locs 0 0 QQ (F0 m 38 ls []) := by
    intro n_
    induction n_ with
    | zero =>
      intro k fK k1 k2 hm_
      exact absurd hm_ (Nat.not_lt_zero _)
    | succ n_ ih_lp38 =>
      intro k fK k1 k2 hm_lp38 H locs hP hD hS ls hl
      refine lv_iload hx hb dW_paintRun_38 (lv_at hl 0 rfl) ?_
      refine lv_iload hx hb dW_paintRun_40 (lv_at hl 1 rfl) ?_
      refine ii_icmp_ge (tgt := 59) hx hb dW_paintRun_42 (by decide) (by omega) (by omega) (fun c42 => ?_) (fun c42 => ?_)
      · rw [← hQ]
        exact wr_vret fK hx hb hr hlocks hAe (hP.sub [0, 1] rfl) (hD.sub [0, 1] (by decide) rfl) hS (fun p => by have e9 : k = x.1 * cs + x.2.2 := (by omega); rw [k2 p, e9]) dW_paintRun_59
      · refine lv_aload_n hx hb dW_paintRun_45 rfl (lv_at hl 3 rfl) ?_
        refine va_get (ci := 0) (v := .ref ag) (C := "WindingRaster") (T := TW) (N := 7) hx hb hts in_0 hown hK hP 0 rfl rfl 2 (by decide) fl_25 (fun _ h9 => h9) rfl dW_paintRun_46 ?_
        refine lv_iload hx hb dW_paintRun_49 (lv_at hl 0 rfl) ?_
        refine lv_iload_n hx hb dW_paintRun_51 rfl (lv_at hl 5 rfl) ?_
        refine ii_iast hx hb hK hP hD hS 1 0 rfl rfl k rfl (by omega) (by omega) dW_paintRun_52 (fun H locs hP hD hS => ?_)
        have hP : va_P D vwCl [(wr, .inr (0, [.int (iI (cs : Int)), .int (iI (rs : Int)), .ref ag, .ref oo, .ref cp, .ref aw, .ref pl])), (ag, .inl (cA, cs * rs, .inl (iA (uZ fK k gv))))] H := hP
        have hD : va_D A [(wr, .inr (0, [.int (iI (cs : Int)), .int (iI (rs : Int)), .ref ag, .ref oo, .ref cp, .ref aw, .ref pl])), (ag, .inl (cA, cs * rs, .inl (iA (uZ fK k gv))))] := hD
        refine lv_iinc (v := iI ((k + 1 : Nat) : Int)) (lv' := [(5, .int (iI ((k + 1 : Nat) : Int))), (4, .int (iI ((x.1 * cs + x.2.2 : Nat) : Int))), (3, .int (iI ((x.1 * cs + x.2.1 : Nat) : Int))), (0, .ref wr), (1, .int (iI ((enc x : Nat) : Int))), (2, .int (iI gv))]) hx hb dW_paintRun_53 hl (k := 0) rfl (iI_inc _ 1 (by omega)) (by decide) rfl (fun ls hl => ?_)
        refine lv_goto (tgt := 38) hx hb dW_paintRun_56 (by decide) ?_
        exact ih_lp38 (k + 1) (uZ fK k gv) (by omega) (fun p => by unfold uZ; by_cases hp : p = k; (rw [if_pos hp, if_pos (by omega)]); (rw [if_neg hp, k2 p]; by_cases hp2 : x.1 * cs + x.2.1 ≤ p ∧ p < k; (rw [if_pos hp2, if_pos (by omega)]); (rw [if_neg hp2, if_neg (by omega)]))) (by omega) _ _ (hP.sub [0, 1] rfl) (hD.sub [0, 1] (by decide) rfl) hS _ (lv_sub hl [0, 1, 2, 3, 4, 5] rfl)
  exact lp38 ((x.1 * cs + x.2.2) - (x.1 * cs + x.2.1) + 1) (x.1 * cs + x.2.1) fG (by omega) (fun p => by rw [if_neg (by omega)]) (Nat.lt_succ_self _) _ _ (hP.sub [0, 1] rfl) (hD.sub [0, 1] (by decide) rfl) hS _ (lv_sub hl [0, 1, 2, 3, 4, 5] rfl)

def rm_c_paint : Room := { frames := 3, cells := 0, slots := 0, locals := 65 }
set_option maxHeartbeats 4000000 in
set_option maxRecDepth 100000 in
theorem c_paint (l : Launch) (D : va_G) (cA cB cS : ClassId) (wr : Nat) (cs : Nat) (rs : Nat) (ag : Nat) (oo : Nat) (cp : Nat) (aw : Nat) (pl : Nat) (it : Nat) (itn : Nat) (fT : Nat → Int) (fG : Nat → Int) (st0 : Nat) (e0 : Nat) (gv : Int) (L : List Run3) (h1 : segL fT st0 L) (h2 : st0 + L.length = e0) (h5 : ∀ x ∈ L, runOk cs rs x) (h6 : cs ≤ 256) (h7 : rs ≤ 256) (h8 : e0 ≤ itn) (h9 : itn < 2147483648) (h10 : cs * rs ≤ 65536) (sz : Nat) : Met l yW_paint wW_paint rm_c_paint (pW [.ref wr, .ref it, .int (iI (st0 : Int)), .int (iI (e0 : Int)), .int (iI gv)] D vwCl (vwTy cA cB cS) vwNw [(wr, .inr (0, [.int (iI (cs : Int)), .int (iI (rs : Int)), .ref ag, .ref oo, .ref cp, .ref aw, .ref pl])), (it, .inl (cA, itn, .inl (iA fT))), (ag, .inl (cA, cs * rs, .inl (iA fG)))] sz) (qW (S := (Nat → Int)) (fun (z : Int) (fG1 : (Nat → Int)) => z = ((lenS L : Nat) : Int) ∧ ∀ p, fG1 p = paL cs gv L fG p) D vwCl [(wr, .inr (0, [.int (iI (cs : Int)), .int (iI (rs : Int)), .ref ag, .ref oo, .ref cp, .ref aw, .ref pl])), (it, .inl (cA, itn, .inl (iA fT))), (ag, .inl (cA, cs * rs, .inl (iA fG)))] sz (fun fG1 : (Nat → Int) => [(wr, .inr (0, [.int (iI (cs : Int)), .int (iI (rs : Int)), .ref ag, .ref oo, .ref cp, .ref aw, .ref pl])), (it, .inl (cA, itn, .inl (iA fT))), (ag, .inl (cA, cs * rs, .inl (iA fG1)))])) 0 0 (va_A [(wr, .inr (0, [.int (iI (cs : Int)), .int (iI (rs : Int)), .ref ag, .ref oo, .ref cp, .ref aw, .ref pl])), (it, .inl (cA, itn, .inl (iA fT))), (ag, .inl (cA, cs * rs, .inl (iA fG)))] sz) := by
  refine Met.ofW (cc := bW_paint) (maxL := 7) (ret := (some .int)) (by decide +kernel) rfl ?_
  intro p e s m args below meth c s₁ B hml hv
  obtain ⟨rfl, hsz, hP, hKW, hD0⟩ := hv
  have hK := hKW.1
  have hN := hKW.2.2
  have hx := B.exec
  have hb := B.bytes
  have hr := B.returns
  have hts := atoms_spec (ws := wW_paint) B.pre
  have hown : s.vm.findClass "WindingRaster" = some m.cls := findClass_of_methodNamed B.named
  have hlocks := B.notSynchronized
  subst hsz
  have hD := hD0.self (sz := s.heap.size)
  obtain ⟨A, hAe⟩ : ∃ A, va_A [(wr, .inr (0, [.int (iI (cs : Int)), .int (iI (rs : Int)), .ref ag, .ref oo, .ref cp, .ref aw, .ref pl])), (it, .inl (cA, itn, .inl (iA fT))), (ag, .inl (cA, cs * rs, .inl (iA fG)))] s.heap.size = A := ⟨_, rfl⟩
  rw [hAe] at hD
  have hA : ∀ q : Nat, s.heap.size ≤ q → A q := fun q h => by rw [← hAe]; exact Or.inr h
  have hS : va_S A s.heap s.heap [] := va_S.rf
  have hP : va_P D vwCl [(wr, .inr (0, [.int (iI (cs : Int)), .int (iI (rs : Int)), .ref ag, .ref oo, .ref cp, .ref aw, .ref pl])), (it, .inl (cA, itn, .inl (iA fT))), (ag, .inl (cA, cs * rs, .inl (iA fG)))] s.heap := hP
  have ml_15 := (hts _ (List.mem_cons_of_mem _ vm_21))
  have ms_max := (hts _ (List.mem_cons_of_mem _ vm_22))
  have mi_math := (hts _ (List.mem_cons_of_mem _ vm_2))
  have mc_max := (hts _ (List.mem_cons_of_mem _ vx_max))
  have hl := lv_entry ([.ref wr, .ref it, .int (iI (st0 : Int)), .int (iI (e0 : Int)), .int (iI gv)]) (n := 7) (Nat.le_of_ble_eq_true rfl)
  rw [lg_entry_eq]
  generalize (lg_sl ([.ref wr, .ref it, .int (iI (st0 : Int)), .int (iI (e0 : Int)), .int (iI gv)]) ++ List.replicate (7 - (lg_sl ([.ref wr, .ref it, .int (iI (st0 : Int)), .int (iI (e0 : Int)), .int (iI gv)])).length) Slot.unset).toArray = ls at hl ⊢
  have hl : lv_has ls 7 [(0, .ref wr), (1, .ref it), (2, .int (iI (st0 : Int))), (3, .int (iI (e0 : Int))), (4, .int (iI gv))] := hl
  generalize hQ : MQ below (qW (S := (Nat → Int)) (fun (z : Int) (fG1 : (Nat → Int)) => z = ((lenS L : Nat) : Int) ∧ ∀ p, fG1 p = paL cs gv L fG p) D vwCl [(wr, .inr (0, [.int (iI (cs : Int)), .int (iI (rs : Int)), .ref ag, .ref oo, .ref cp, .ref aw, .ref pl])), (it, .inl (cA, itn, .inl (iA fT))), (ag, .inl (cA, cs * rs, .inl (iA fG)))] s.heap.size (fun fG1 : (Nat → Int) => [(wr, .inr (0, [.int (iI (cs : Int)), .int (iI (rs : Int)), .ref ag, .ref oo, .ref cp, .ref aw, .ref pl])), (it, .inl (cA, itn, .inl (iA fT))), (ag, .inl (cA, cs * rs, .inl (iA fG1)))])) [.ref wr, .ref it, .int (iI (st0 : Int)), .int (iI (e0 : Int)), .int (iI gv)].toArray s 0 0 (va_A [(wr, .inr (0, [.int (iI (cs : Int)), .int (iI (rs : Int)), .ref ag, .ref oo, .ref cp, .ref aw, .ref pl])), (it, .inl (cA, itn, .inl (iA fT))), (ag, .inl (cA, cs * rs, .inl (iA fG)))] s.heap.size) = QQ
  refine ii_iconst (n := 0) hx hb dW_paint_0 ?_
  refine lv_istore (lv' := [(5, .int (iI 0)), (0, .ref wr), (1, .ref it), (2, .int (iI (st0 : Int))), (3, .int (iI (e0 : Int))), (4, .int (iI gv))]) hx hb dW_paint_1 hl (by decide) rfl (fun ls hl => ?_)
  refine ii_iconst (n := 0) hx hb dW_paint_3 ?_
  refine lv_iload_n hx hb dW_paint_4 rfl (lv_at hl 3 rfl) ?_
  refine ii_mmax hx hb (hml.trans hl.1.symm) hown ml_15 ms_max mi_math mc_max (Nat.le_of_ble_eq_true rfl) (Nat.le_of_ble_eq_true rfl) (Nat.le_of_ble_eq_true rfl) (Nat.le_of_ble_eq_true rfl) (by omega) (by omega) dW_paint_5 ?_
  refine ii_top (y := (st0 : Int)) (by omega) ?_
  refine lv_istore (lv' := [(6, .int (iI (st0 : Int))), (5, .int (iI 0)), (0, .ref wr), (1, .ref it), (2, .int (iI (st0 : Int))), (3, .int (iI (e0 : Int))), (4, .int (iI gv))]) hx hb dW_paint_8 hl (by decide) rfl (fun ls hl => ?_)
  have lp10 : ∀ (n_ : Nat) (i : Nat) (T : List Run3) (pt : Nat) (fH : Nat → Int), (segL fT i T) → (i + T.length = e0) → (∀ x ∈ T, runOk cs rs x) → (pt + lenS T = lenS L) → (∀ p, paL cs gv T fH p = paL cs gv L fG p) → (T.length) < n_ → ∀ (H : Heap) (locs : List Loc), va_P D vwCl [(wr, .inr (0, [.int (iI (cs : Int)), .int (iI (rs : Int)), .ref ag, .ref oo, .ref cp, .ref aw, .ref pl])), (it, .inl (cA, itn, .inl (iA fT))), (ag, .inl (cA, cs * rs, .inl (iA fH)))] H → va_D A [(wr, .inr (0, [.int (iI (cs : Int)), .int (iI (rs : Int)), .ref ag, .ref oo, .ref cp, .ref aw, .ref pl])), (it, .inl (cA, itn, .inl (iA fT))), (ag, .inl (cA, cs * rs, .inl (iA fH)))] → va_S A s.heap H locs → ∀ ls : Array Slot, lv_has ls 7 [(6, .int (iI (i : Int))), (5, .int (iI (pt : Int))), (0, .ref wr), (1, .ref it), (2, .int (iI (st0 : Int))), (3, .int (iI (e0 : Int))), (4, .int (iI gv))] → W p l e (headSpec wW_paint rm_c_paint).room s m [.ref wr, .ref it, .int (iI (st0 : Int)), .int (iI (e0 : Int)), .int (iI gv)].toArray below meth c H locs 0 0 QQ (F0 m 10 ls []) := by
    intro n_
    induction n_ with
    | zero =>
      intro i T pt fH i1 i2 i3 i4 i5 hm_
      exact absurd hm_ (Nat.not_lt_zero _)
    | succ n_ ih_lp10 =>
      intro i T pt fH i1 i2 i3 i4 i5 hm_lp10 H locs hP hD hS ls hl
      refine lv_iload hx hb dW_paint_10 (lv_at hl 0 rfl) ?_
      refine lv_iload_n hx hb dW_paint_12 rfl (lv_at hl 5 rfl) ?_
      refine ii_icmp_ge (tgt := 51) hx hb dW_paint_13 (by decide) (by omega) (by omega) (fun c13 => ?_) (fun c13 => ?_)
      · refine lv_iload hx hb dW_paint_51 (lv_at hl 1 rfl) ?_
        rw [← hQ]
        exact wr_iret fH hx hb hr hlocks hAe (hP.sub [0, 1, 2] rfl) (hD.sub [0, 1, 2] (by decide) rfl) hS ⟨by rw [List.eq_nil_of_length_eq_zero (l := T) (by omega)] at i4; have e5 : lenS [] = 0 := rfl; omega, fun p => by have e5 := i5 p; rw [List.eq_nil_of_length_eq_zero (l := T) (by omega)] at e5; exact e5⟩ dW_paint_53
      · obtain ⟨x, T1, hT⟩ : ∃ x T1, T = x :: T1 := by
          cases T with
          | nil => exact absurd i2 (by rw [List.length_nil]; omega)
          | cons x T1 => exact ⟨x, T1, rfl⟩
        subst hT
        obtain ⟨hs1, hs2⟩ := i1
        have hok := i3 x List.mem_cons_self
        have e1 := enc_row hok h6
        have e2 := enc_from hok h6
        have e3 := enc_end hok h6
        have e4 := enc_lt hok h6 h7
        rw [List.length_cons] at i2
        have hok2 := hok.2.1
        refine lv_iload hx hb dW_paint_16 (lv_at hl 0 rfl) ?_
        refine lv_aload_n hx hb dW_paint_18 rfl (lv_at hl 3 rfl) ?_
        refine ii_alen hx hb hK hP 1 0 rfl rfl dW_paint_19 ?_
        refine ii_icmp_ge (tgt := 51) hx hb dW_paint_20 (by decide) (by omega) (by omega) (fun c20 => ?_) (fun c20 => ?_)
        · exfalso; omega
        · refine lv_aload_n hx hb dW_paint_23 rfl (lv_at hl 2 rfl) ?_
          refine lv_aload_n hx hb dW_paint_24 rfl (lv_at hl 3 rfl) ?_
          refine lv_iload hx hb dW_paint_25 (lv_at hl 0 rfl) ?_
          refine ii_iald hx hb hK hP 1 0 rfl rfl i rfl (by omega) (by omega) dW_paint_27 ?_
          refine ii_top (y := ((enc x : Nat) : Int)) hs1 ?_
          refine lv_iload hx hb dW_paint_28 (lv_at hl 6 rfl) ?_
          refine cw_v (wc := [(wr, .inr (0, [.int (iI (cs : Int)), .int (iI (rs : Int)), .ref ag, .ref oo, .ref cp, .ref aw, .ref pl])), (ag, .inl (cA, cs * rs, .inl (iA fH)))]) (wr := [(it, .inl (cA, itn, .inl (iA fT)))]) hP hD hS hA [0, 2] [1] rfl rfl (by decide) (by decide) (va_runV (As := [.int (iI ((enc x : Nat) : Int)), .int (iI gv)]) (rest := []) ⟨hx, hb, hml, hown, hts⟩ (c_paintRun l D cA cB cS wr cs rs ag oo cp aw pl fH gv x hok (by omega) (by omega) (by omega) _) ⟨(callB_of 2 hts (gIn vm_189) rfl rfl rfl (hts _ (List.mem_cons_of_mem _ vm_1)) (hts _ (List.mem_cons_of_mem _ vm_187)) (by decide +kernel) ⟨Nat.le_of_ble_eq_true rfl, Nat.le_of_ble_eq_true rfl⟩), (hts _ (List.mem_cons_of_mem _ vm_188)), (hts _ (List.mem_cons_of_mem _ vm_414))⟩ (pW.preV (va_recv hK hP (ci := 0) (q0 := 0) rfl rfl) (hP.sub [0, 2] rfl) (hD.sub [0, 2] (by decide) rfl) hKW) rfl rfl hl.1 rfl (lv_room (Nat.le_of_ble_eq_true rfl)) dW_paint_30 ⟨Nat.le_of_ble_eq_true rfl, Nat.le_of_ble_eq_true rfl⟩) (fun u_1 H locs hzp hP hD hS => ?_)
          obtain ⟨fK, rfl⟩ : ∃ z_, z_ = u_1 := ⟨_, rfl⟩
          try dsimp only at hzp
          have hP : va_P D vwCl [(it, .inl (cA, itn, .inl (iA fT))), (wr, .inr (0, [.int (iI (cs : Int)), .int (iI (rs : Int)), .ref ag, .ref oo, .ref cp, .ref aw, .ref pl])), (ag, .inl (cA, cs * rs, .inl (iA fK)))] H := hP
          have hD : va_D A [(it, .inl (cA, itn, .inl (iA fT))), (wr, .inr (0, [.int (iI (cs : Int)), .int (iI (rs : Int)), .ref ag, .ref oo, .ref cp, .ref aw, .ref pl])), (ag, .inl (cA, cs * rs, .inl (iA fK)))] := hD
          refine lv_iload hx hb dW_paint_33 (lv_at hl 1 rfl) ?_
          refine lv_aload_n hx hb dW_paint_35 rfl (lv_at hl 3 rfl) ?_
          refine lv_iload hx hb dW_paint_36 (lv_at hl 0 rfl) ?_
          refine ii_iald hx hb hK hP 0 0 rfl rfl i rfl (by omega) (by omega) dW_paint_38 ?_
          refine ii_top (y := ((enc x : Nat) : Int)) hs1 ?_
          refine cs_i (va_runSN (As := [.int (iI ((enc x : Nat) : Int))]) (rest := [.int (iI (pt : Int))]) ⟨hx, hb, hml, hown, hts⟩ (c_lengthOf l D cA cB cS (enc x) (by omega) (by omega)) ⟨(va_cnB 1 hts (gIn vm_191) rfl rfl rfl (hN _ vn_26) (hts _ (List.mem_cons_of_mem _ vm_6)) (by decide +kernel) ⟨Nat.le_of_ble_eq_true rfl, Nat.le_of_ble_eq_true rfl⟩), (hts _ (List.mem_cons_of_mem _ vm_190)), trivial⟩ (pR.pre (hP.sub [] rfl) hKW) rfl rfl hl.1 rfl (lv_room (Nat.le_of_ble_eq_true rfl)) dW_paint_39 ⟨Nat.le_of_ble_eq_true rfl, Nat.le_of_ble_eq_true rfl⟩) (fun z_2 hz_2 => ?_)
          subst hz_2
          refine ii_top (y := ((x.2.2 - x.2.1 : Nat) : Int)) (by rw [e2, e3]) ?_
          refine ii_iadd hx hb dW_paint_42 ?_
          refine ii_top (y := ((pt + (x.2.2 - x.2.1) : Nat) : Int)) (by push_cast; rfl) ?_
          refine lv_istore (lv' := [(5, .int (iI ((pt + (x.2.2 - x.2.1) : Nat) : Int))), (6, .int (iI (i : Int))), (0, .ref wr), (1, .ref it), (2, .int (iI (st0 : Int))), (3, .int (iI (e0 : Int))), (4, .int (iI gv))]) hx hb dW_paint_43 hl (by decide) rfl (fun ls hl => ?_)
          refine lv_iinc (v := iI ((i + 1 : Nat) : Int)) (lv' := [(6, .int (iI ((i + 1 : Nat) : Int))), (5, .int (iI ((pt + (x.2.2 - x.2.1) : Nat) : Int))), (0, .ref wr), (1, .ref it), (2, .int (iI (st0 : Int))), (3, .int (iI (e0 : Int))), (4, .int (iI gv))]) hx hb dW_paint_45 hl (k := 1) rfl (iI_inc _ 1 (by omega)) (by decide) rfl (fun ls hl => ?_)
          refine lv_goto (tgt := 10) hx hb dW_paint_48 (by decide) ?_
          exact ih_lp10 (i + 1) T1 (pt + (x.2.2 - x.2.1)) fK hs2 (by omega) (fun y hy => i3 y (List.mem_cons_of_mem _ hy)) (by have e5 : lenS (x :: T1) = (x.2.2 - x.2.1) + lenS T1 := rfl; omega) (fun p => by rw [← i5 p]; exact paL_congr cs gv T1 _ _ (fun p => hzp p) p) (by rw [List.length_cons] at hm_lp10; omega) _ _ (hP.sub [1, 0, 2] rfl) (hD.sub [1, 0, 2] (by decide) rfl) hS _ (lv_sub hl [0, 1, 2, 3, 4, 5, 6] rfl)
  exact lp10 (L.length + 1) st0 L 0 fG h1 h2 h5 (Nat.zero_add _) (fun _ => rfl) (Nat.lt_succ_self _) _ _ (hP.sub [0, 1, 2] rfl) (hD.sub [0, 1, 2] (by decide) rfl) hS _ (lv_sub hl [0, 1, 2, 3, 4, 5, 6] rfl)

def rm_c_cutRun : Room := { frames := 1, cells := 0, slots := 0, locals := 22 }
set_option maxHeartbeats 4000000 in
set_option maxRecDepth 100000 in
theorem c_cutRun (l : Launch) (D : va_G) (cA cB cS : ClassId) (wr : Nat) (cs : Nat) (rs : Nat) (ag : Nat) (oo : Nat) (cp : Nat) (aw : Nat) (pl : Nat) (fW : Nat → Int) (ap : Nat) (fP : Nat → Int) (pn : Nat) (pm : Nat) (x : Run3) (rl : Int) (P : List Run3) (h1 : runOk cs rs x) (h2 : P.length = pn) (h3 : segL fP 0 P) (h4 : (P ++ cutG (fun k => insB rl (fW k)) x.1 (x.2.2 - x.2.1) x.2.1 none).length ≤ pm) (h5 : pm < 2147483648) (h6 : cs ≤ 256) (h7 : rs ≤ 256) (h8 : i32 rl) (h9 : ∀ k, k < cs → i32 (fW k)) (sz : Nat) : Met l yW_cutRun wW_cutRun rm_c_cutRun (pW [.ref wr, .int (iI ((enc x : Nat) : Int)), .int (iI rl)] D vwCl (vwTy cA cB cS) vwNw [(wr, .inr (0, [.int (iI (cs : Int)), .int (iI (rs : Int)), .ref ag, .ref oo, .ref cp, .ref aw, .ref pl])), (aw, .inl (cA, cs, .inl (iA fW))), (pl, .inr (3, [.ref ap, .int (iI (pn : Int))])), (ap, .inl (cA, pm, .inl (iA fP)))] sz) (qV (S := (Nat → Int) × Nat) (fun u : (Nat → Int) × Nat => segL u.1 0 (P ++ cutG (fun k => insB rl (fW k)) x.1 (x.2.2 - x.2.1) x.2.1 none) ∧ (P ++ cutG (fun k => insB rl (fW k)) x.1 (x.2.2 - x.2.1) x.2.1 none).length = u.2) D vwCl [(wr, .inr (0, [.int (iI (cs : Int)), .int (iI (rs : Int)), .ref ag, .ref oo, .ref cp, .ref aw, .ref pl])), (aw, .inl (cA, cs, .inl (iA fW))), (pl, .inr (3, [.ref ap, .int (iI (pn : Int))])), (ap, .inl (cA, pm, .inl (iA fP)))] sz (fun u : (Nat → Int) × Nat => [(wr, .inr (0, [.int (iI (cs : Int)), .int (iI (rs : Int)), .ref ag, .ref oo, .ref cp, .ref aw, .ref pl])), (aw, .inl (cA, cs, .inl (iA fW))), (pl, .inr (3, [.ref ap, .int (iI ((u.2 : Nat) : Int))])), (ap, .inl (cA, pm, .inl (iA u.1)))])) 0 0 (va_A [(wr, .inr (0, [.int (iI (cs : Int)), .int (iI (rs : Int)), .ref ag, .ref oo, .ref cp, .ref aw, .ref pl])), (aw, .inl (cA, cs, .inl (iA fW))), (pl, .inr (3, [.ref ap, .int (iI (pn : Int))])), (ap, .inl (cA, pm, .inl (iA fP)))] sz) := by
  refine Met.ofW (cc := bW_cutRun) (maxL := 8) (ret := none) (by decide +kernel) rfl ?_
  intro p e s m args below meth c s₁ B hml hv
  obtain ⟨rfl, hsz, hP, hKW, hD0⟩ := hv
  have hK := hKW.1
  have hN := hKW.2.2
  have hx := B.exec
  have hb := B.bytes
  have hr := B.returns
  have hts := atoms_spec (ws := wW_cutRun) B.pre
  have hown : s.vm.findClass "WindingRaster" = some m.cls := findClass_of_methodNamed B.named
  have hlocks := B.notSynchronized
  subst hsz
  have hD := hD0.self (sz := s.heap.size)
  obtain ⟨A, hAe⟩ : ∃ A, va_A [(wr, .inr (0, [.int (iI (cs : Int)), .int (iI (rs : Int)), .ref ag, .ref oo, .ref cp, .ref aw, .ref pl])), (aw, .inl (cA, cs, .inl (iA fW))), (pl, .inr (3, [.ref ap, .int (iI (pn : Int))])), (ap, .inl (cA, pm, .inl (iA fP)))] s.heap.size = A := ⟨_, rfl⟩
  rw [hAe] at hD
  have hA : ∀ q : Nat, s.heap.size ≤ q → A q := fun q h => by rw [← hAe]; exact Or.inr h
  have hS : va_S A s.heap s.heap [] := va_S.rf
  have hP : va_P D vwCl [(wr, .inr (0, [.int (iI (cs : Int)), .int (iI (rs : Int)), .ref ag, .ref oo, .ref cp, .ref aw, .ref pl])), (aw, .inl (cA, cs, .inl (iA fW))), (pl, .inr (3, [.ref ap, .int (iI (pn : Int))])), (ap, .inl (cA, pm, .inl (iA fP)))] s.heap := hP
  have in_0 : ∀ w ∈ wsW, w ∈ wW_cutRun := fun w h => List.mem_cons_of_mem _ (in0_W w h)
  have fl_51 := (hts _ (List.mem_cons_of_mem _ vm_74))
  have ml_9 := (hts _ (List.mem_cons_of_mem _ vm_18))
  have ms_min := (hts _ (List.mem_cons_of_mem _ vm_19))
  have mi_math := (hts _ (List.mem_cons_of_mem _ vm_2))
  have mc_min := (hts _ (List.mem_cons_of_mem _ vx_min))
  have fl_59 := (hts _ (List.mem_cons_of_mem _ vm_75))
  have hl := lv_entry ([.ref wr, .int (iI ((enc x : Nat) : Int)), .int (iI rl)]) (n := 8) (Nat.le_of_ble_eq_true rfl)
  rw [lg_entry_eq]
  generalize (lg_sl ([.ref wr, .int (iI ((enc x : Nat) : Int)), .int (iI rl)]) ++ List.replicate (8 - (lg_sl ([.ref wr, .int (iI ((enc x : Nat) : Int)), .int (iI rl)])).length) Slot.unset).toArray = ls at hl ⊢
  have hl : lv_has ls 8 [(0, .ref wr), (1, .int (iI ((enc x : Nat) : Int))), (2, .int (iI rl))] := hl
  generalize hQ : MQ below (qV (S := (Nat → Int) × Nat) (fun u : (Nat → Int) × Nat => segL u.1 0 (P ++ cutG (fun k => insB rl (fW k)) x.1 (x.2.2 - x.2.1) x.2.1 none) ∧ (P ++ cutG (fun k => insB rl (fW k)) x.1 (x.2.2 - x.2.1) x.2.1 none).length = u.2) D vwCl [(wr, .inr (0, [.int (iI (cs : Int)), .int (iI (rs : Int)), .ref ag, .ref oo, .ref cp, .ref aw, .ref pl])), (aw, .inl (cA, cs, .inl (iA fW))), (pl, .inr (3, [.ref ap, .int (iI (pn : Int))])), (ap, .inl (cA, pm, .inl (iA fP)))] s.heap.size (fun u : (Nat → Int) × Nat => [(wr, .inr (0, [.int (iI (cs : Int)), .int (iI (rs : Int)), .ref ag, .ref oo, .ref cp, .ref aw, .ref pl])), (aw, .inl (cA, cs, .inl (iA fW))), (pl, .inr (3, [.ref ap, .int (iI ((u.2 : Nat) : Int))])), (ap, .inl (cA, pm, .inl (iA u.1)))])) [.ref wr, .int (iI ((enc x : Nat) : Int)), .int (iI rl)].toArray s 0 0 (va_A [(wr, .inr (0, [.int (iI (cs : Int)), .int (iI (rs : Int)), .ref ag, .ref oo, .ref cp, .ref aw, .ref pl])), (aw, .inl (cA, cs, .inl (iA fW))), (pl, .inr (3, [.ref ap, .int (iI (pn : Int))])), (ap, .inl (cA, pm, .inl (iA fP)))] s.heap.size) = QQ
  have e1 := enc_row h1 h6
  have e2 := enc_from h1 h6
  have e3 := enc_end h1 h6
  have e4 := enc_lt h1 h6 h7
  have hok1 := h1.1
  have hok2 := h1.2.1
  have hok3 := h1.2.2
  refine lv_iload_n hx hb dW_cutRun_0 rfl (lv_at hl 1 rfl) ?_
  refine cs_i (va_runSN (As := [.int (iI ((enc x : Nat) : Int))]) (rest := []) ⟨hx, hb, hml, hown, hts⟩ (c_rowOf l D cA cB cS (enc x) (by omega)) ⟨(va_cnB 1 hts (gIn vm_167) rfl rfl rfl (hN _ vn_20) (hts _ (List.mem_cons_of_mem _ vm_6)) (by decide +kernel) ⟨Nat.le_of_ble_eq_true rfl, Nat.le_of_ble_eq_true rfl⟩), (hts _ (List.mem_cons_of_mem _ vm_166)), trivial⟩ (pR.pre (hP.sub [] rfl) hKW) rfl rfl hl.1 rfl (lv_room (Nat.le_of_ble_eq_true rfl)) dW_cutRun_1 ⟨Nat.le_of_ble_eq_true rfl, Nat.le_of_ble_eq_true rfl⟩) (fun z_1 hz_1 => ?_)
  subst hz_1
  refine ii_top (y := ((x.1 : Nat) : Int)) (by rw [e1]) ?_
  refine lv_istore_n (lv' := [(3, .int (iI ((x.1 : Nat) : Int))), (0, .ref wr), (1, .int (iI ((enc x : Nat) : Int))), (2, .int (iI rl))]) hx hb dW_cutRun_4 rfl hl (by decide) rfl (fun ls hl => ?_)
  refine lv_iload_n hx hb dW_cutRun_5 rfl (lv_at hl 2 rfl) ?_
  refine cs_i (va_runSN (As := [.int (iI ((enc x : Nat) : Int))]) (rest := []) ⟨hx, hb, hml, hown, hts⟩ (c_endOf l D cA cB cS (enc x) (by omega)) ⟨(va_cnB 1 hts (gIn vm_176) rfl rfl rfl (hN _ vn_22) (hts _ (List.mem_cons_of_mem _ vm_6)) (by decide +kernel) ⟨Nat.le_of_ble_eq_true rfl, Nat.le_of_ble_eq_true rfl⟩), (hts _ (List.mem_cons_of_mem _ vm_175)), trivial⟩ (pR.pre (hP.sub [] rfl) hKW) rfl rfl hl.1 rfl (lv_room (Nat.le_of_ble_eq_true rfl)) dW_cutRun_6 ⟨Nat.le_of_ble_eq_true rfl, Nat.le_of_ble_eq_true rfl⟩) (fun z_2 hz_2 => ?_)
  subst hz_2
  refine ii_top (y := ((x.2.2 : Nat) : Int)) (by rw [e3]) ?_
  refine lv_aload_n hx hb dW_cutRun_9 rfl (lv_at hl 1 rfl) ?_
  refine va_get (ci := 0) (v := .ref aw) (C := "WindingRaster") (T := TW) (N := 7) hx hb hts in_0 hown hK hP 0 rfl rfl 5 (by decide) fl_51 (fun _ h9 => h9) rfl dW_cutRun_10 ?_
  refine ii_alen hx hb hK hP 1 0 rfl rfl dW_cutRun_13 ?_
  refine ii_mmin hx hb (hml.trans hl.1.symm) hown ml_9 ms_min mi_math mc_min (Nat.le_of_ble_eq_true rfl) (Nat.le_of_ble_eq_true rfl) (Nat.le_of_ble_eq_true rfl) (Nat.le_of_ble_eq_true rfl) (by omega) (by omega) dW_cutRun_14 ?_
  refine ii_top (y := ((x.2.2 : Nat) : Int)) (by omega) ?_
  refine lv_istore (lv' := [(4, .int (iI ((x.2.2 : Nat) : Int))), (3, .int (iI ((x.1 : Nat) : Int))), (0, .ref wr), (1, .int (iI ((enc x : Nat) : Int))), (2, .int (iI rl))]) hx hb dW_cutRun_17 hl (by decide) rfl (fun ls hl => ?_)
  refine ii_iconst (n := (-1)) hx hb dW_cutRun_19 ?_
  refine lv_istore (lv' := [(5, .int (iI (-1))), (4, .int (iI ((x.2.2 : Nat) : Int))), (3, .int (iI ((x.1 : Nat) : Int))), (0, .ref wr), (1, .int (iI ((enc x : Nat) : Int))), (2, .int (iI rl))]) hx hb dW_cutRun_20 hl (by decide) rfl (fun ls hl => ?_)
  refine lv_iload_n hx hb dW_cutRun_22 rfl (lv_at hl 4 rfl) ?_
  refine cs_i (va_runSN (As := [.int (iI ((enc x : Nat) : Int))]) (rest := []) ⟨hx, hb, hml, hown, hts⟩ (c_fromOf l D cA cB cS (enc x) (by omega)) ⟨(va_cnB 1 hts (gIn vm_178) rfl rfl rfl (hN _ vn_23) (hts _ (List.mem_cons_of_mem _ vm_6)) (by decide +kernel) ⟨Nat.le_of_ble_eq_true rfl, Nat.le_of_ble_eq_true rfl⟩), (hts _ (List.mem_cons_of_mem _ vm_177)), trivial⟩ (pR.pre (hP.sub [] rfl) hKW) rfl rfl hl.1 rfl (lv_room (Nat.le_of_ble_eq_true rfl)) dW_cutRun_23 ⟨Nat.le_of_ble_eq_true rfl, Nat.le_of_ble_eq_true rfl⟩) (fun z_3 hz_3 => ?_)
  subst hz_3
  refine ii_top (y := ((x.2.1 : Nat) : Int)) (by rw [e2]) ?_
  refine lv_istore (lv' := [(6, .int (iI ((x.2.1 : Nat) : Int))), (5, .int (iI (-1))), (4, .int (iI ((x.2.2 : Nat) : Int))), (3, .int (iI ((x.1 : Nat) : Int))), (0, .ref wr), (1, .int (iI ((enc x : Nat) : Int))), (2, .int (iI rl))]) hx hb dW_cutRun_26 hl (by decide) rfl (fun ls hl => ?_)
  have lp28 : ∀ (n_ : Nat) (k : Nat) (fr : Int) (Pc : List Run3) (fQ : Nat → Int) (pq : Nat), (x.2.1 ≤ k ∧ k ≤ x.2.2) → (segL fQ 0 Pc ∧ Pc.length = pq) → (cutI (fun k => insB rl (fW k)) x.1 x.2.2 k fr Pc (P ++ cutG (fun k => insB rl (fW k)) x.1 (x.2.2 - x.2.1) x.2.1 none)) → (x.2.2 - k) < n_ → ∀ (H : Heap) (locs : List Loc), va_P D vwCl [(wr, .inr (0, [.int (iI (cs : Int)), .int (iI (rs : Int)), .ref ag, .ref oo, .ref cp, .ref aw, .ref pl])), (aw, .inl (cA, cs, .inl (iA fW))), (pl, .inr (3, [.ref ap, .int (iI (pq : Int))])), (ap, .inl (cA, pm, .inl (iA fQ)))] H → va_D A [(wr, .inr (0, [.int (iI (cs : Int)), .int (iI (rs : Int)), .ref ag, .ref oo, .ref cp, .ref aw, .ref pl])), (aw, .inl (cA, cs, .inl (iA fW))), (pl, .inr (3, [.ref ap, .int (iI (pq : Int))])), (ap, .inl (cA, pm, .inl (iA fQ)))] → va_S A s.heap H locs → ∀ ls : Array Slot, lv_has ls 8 [(6, .int (iI (k : Int))), (5, .int (iI fr)), (4, .int (iI ((x.2.2 : Nat) : Int))), (3, .int (iI ((x.1 : Nat) : Int))), (0, .ref wr), (1, .int (iI ((enc x : Nat) : Int))), (2, .int (iI rl))] → W p l e (headSpec wW_cutRun rm_c_cutRun).room s m [.ref wr, .int (iI ((enc x : Nat) : Int)), .int (iI rl)].toArray below meth c H locs 0 0 QQ (F0 m 28 ls []) := by
    intro n_
    induction n_ with
    | zero =>
      intro k fr Pc fQ pq k1 k2 k3 hm_
      exact absurd hm_ (Nat.not_lt_zero _)
    | succ n_ ih_lp28 =>
      intro k fr Pc fQ pq k1 k2 k3 hm_lp28 H locs hP hD hS ls hl
      have hfr : -1 ≤ fr ∧ fr < 256 := by rcases k3 with ⟨w1, w2⟩ | ⟨a, w1, w2, w3⟩ <;> omega
      refine lv_iload hx hb dW_cutRun_28 (lv_at hl 0 rfl) ?_
      refine lv_iload hx hb dW_cutRun_30 (lv_at hl 2 rfl) ?_
      refine ii_icmp_ge (tgt := 96) hx hb dW_cutRun_32 (by decide) (by omega) (by omega) (fun c32 => ?_) (fun c32 => ?_)
      · refine lv_iload hx hb dW_cutRun_96 (lv_at hl 1 rfl) ?_
        refine ii_if_lt (tgt := 116) hx hb dW_cutRun_98 (by decide) (by omega) (fun c98 => ?_) (fun c98 => ?_)
        · rw [← hQ]
          exact wr_vret (fQ, pq) hx hb hr hlocks hAe (hP.sub [0, 1, 2, 3] rfl) (hD.sub [0, 1, 2, 3] (by decide) rfl) hS (by have w : Pc = (P ++ cutG (fun k => insB rl (fW k)) x.1 (x.2.2 - x.2.1) x.2.1 none) := (by rcases k3 with ⟨w1, w2⟩ | ⟨a, w1, w2, w3⟩; (rw [show x.2.2 - k = 0 by omega, cutG_e0, List.append_nil] at w2; exact w2); (exfalso; omega)); rw [← w]; exact k2) dW_cutRun_116
        · obtain ⟨a, rfl, ha, k3⟩ := Or.resolve_left k3 (fun w => by omega)
          rw [show x.2.2 - k = 0 by omega, cutG_e1, show k = x.2.2 by omega] at k3
          have hlen := len_lt k3
          refine lv_aload_n hx hb dW_cutRun_101 rfl (lv_at hl 4 rfl) ?_
          refine va_get (ci := 0) (v := .ref pl) (C := "WindingRaster") (T := TW) (N := 7) hx hb hts in_0 hown hK hP 0 rfl rfl 6 (by decide) fl_59 (fun _ h9 => h9) rfl dW_cutRun_102 ?_
          refine lv_iload_n hx hb dW_cutRun_105 rfl (lv_at hl 3 rfl) ?_
          refine lv_iload hx hb dW_cutRun_106 (lv_at hl 1 rfl) ?_
          refine lv_iload hx hb dW_cutRun_108 (lv_at hl 2 rfl) ?_
          refine cs_i (va_runSN (As := [.int (iI ((x.1 : Nat) : Int)), .int (iI (a : Int)), .int (iI ((x.2.2 : Nat) : Int))]) (rest := [.ref pl]) ⟨hx, hb, hml, hown, hts⟩ (c_of l D cA cB cS x.1 a x.2.2 (by omega) (by omega) (by omega)) ⟨(va_cnB 3 hts (gIn vm_49) rfl rfl rfl (hN _ vn_24) (hts _ (List.mem_cons_of_mem _ vm_6)) (by decide +kernel) ⟨Nat.le_of_ble_eq_true rfl, Nat.le_of_ble_eq_true rfl⟩), (hts _ (List.mem_cons_of_mem _ vm_48)), trivial⟩ (pR.pre (hP.sub [] rfl) hKW) rfl rfl hl.1 rfl (lv_room (Nat.le_of_ble_eq_true rfl)) dW_cutRun_110 ⟨Nat.le_of_ble_eq_true rfl, Nat.le_of_ble_eq_true rfl⟩) (fun z_4 hz_4 => ?_)
          subst hz_4
          refine ii_top (y := ((enc (x.1, a, x.2.2) : Nat) : Int)) rfl ?_
          refine cw_v (wc := [(pl, .inr (3, [.ref ap, .int (iI (pq : Int))])), (ap, .inl (cA, pm, .inl (iA fQ)))]) (wr := [(wr, .inr (0, [.int (iI (cs : Int)), .int (iI (rs : Int)), .ref ag, .ref oo, .ref cp, .ref aw, .ref pl])), (aw, .inl (cA, cs, .inl (iA fW)))]) hP hD hS hA [2, 3] [0, 1] rfl rfl (by decide) (by decide) (va_runVN (As := [.int (iI ((enc (x.1, a, x.2.2) : Nat) : Int))]) (rest := []) ⟨hx, hb, hml, hown, hts⟩ (c_add l D cA cB cS pl ap fQ pq pm (enc (x.1, a, x.2.2)) (by omega) (by omega) _) ⟨(va_cnB 1 hts (gIn vm_183) rfl rfl rfl (hN _ vn_25) (hts _ (List.mem_cons_of_mem _ vm_7)) (by decide +kernel) ⟨Nat.le_of_ble_eq_true rfl, Nat.le_of_ble_eq_true rfl⟩), (hts _ (List.mem_cons_of_mem _ vm_182)), (hts _ (List.mem_cons_of_mem _ vm_412))⟩ (pW.preV (va_recv hK hP (ci := 3) (q0 := 2) rfl rfl) (hP.sub [2, 3] rfl) (hD.sub [2, 3] (by decide) rfl) hKW) rfl rfl hl.1 rfl (lv_room (Nat.le_of_ble_eq_true rfl)) dW_cutRun_113 ⟨Nat.le_of_ble_eq_true rfl, Nat.le_of_ble_eq_true rfl⟩) (fun u_6 H locs hz_5 hP hD hS => ?_)
          have hP : va_P D vwCl [(wr, .inr (0, [.int (iI (cs : Int)), .int (iI (rs : Int)), .ref ag, .ref oo, .ref cp, .ref aw, .ref pl])), (aw, .inl (cA, cs, .inl (iA fW))), (pl, .inr (3, [.ref ap, .int (iI ((pq + 1 : Nat) : Int))])), (ap, .inl (cA, pm, .inl (iA (uZ fQ pq ((enc (x.1, a, x.2.2)) : Int)))))] H := hP
          have hD : va_D A [(wr, .inr (0, [.int (iI (cs : Int)), .int (iI (rs : Int)), .ref ag, .ref oo, .ref cp, .ref aw, .ref pl])), (aw, .inl (cA, cs, .inl (iA fW))), (pl, .inr (3, [.ref ap, .int (iI ((pq + 1 : Nat) : Int))])), (ap, .inl (cA, pm, .inl (iA (uZ fQ pq ((enc (x.1, a, x.2.2)) : Int)))))] := hD
          rw [← hQ]
          exact wr_vret (uZ fQ pq ((enc (x.1, a, x.2.2)) : Int), pq + 1) hx hb hr hlocks hAe (hP.sub [0, 1, 2, 3] rfl) (hD.sub [0, 1, 2, 3] (by decide) rfl) hS (by rw [← k3]; exact ⟨segL_snoc (x.1, a, x.2.2) k2.1 k2.2, by rw [List.length_append, k2.2]; rfl⟩) dW_cutRun_116
      · have g9 := h9 k (by omega)
        refine lv_aload_n hx hb dW_cutRun_35 rfl (lv_at hl 4 rfl) ?_
        refine va_get (ci := 0) (v := .ref aw) (C := "WindingRaster") (T := TW) (N := 7) hx hb hts in_0 hown hK hP 0 rfl rfl 5 (by decide) fl_51 (fun _ h9 => h9) rfl dW_cutRun_36 ?_
        refine lv_iload hx hb dW_cutRun_39 (lv_at hl 0 rfl) ?_
        refine ii_iald hx hb hK hP 1 0 rfl rfl k rfl (by omega) (by omega) dW_cutRun_41 ?_
        refine lv_iload_n hx hb dW_cutRun_42 rfl (lv_at hl 6 rfl) ?_
        refine cs_i (va_runS (As := [.int (iI (fW k)), .int (iI rl)]) (rest := []) ⟨hx, hb, hml, hown, hts⟩ (c_isInside l D cA cB cS (fW k) rl (by omega) (by omega)) ⟨(callB_of 2 hts (gIn vm_181) rfl rfl rfl (hts _ (List.mem_cons_of_mem _ vm_1)) (hts _ (List.mem_cons_of_mem _ vm_179)) (by decide +kernel) ⟨Nat.le_of_ble_eq_true rfl, Nat.le_of_ble_eq_true rfl⟩), (hts _ (List.mem_cons_of_mem _ vm_180))⟩ (pR.pre (hP.sub [] rfl) hKW) rfl rfl hl.1 rfl (lv_room (Nat.le_of_ble_eq_true rfl)) dW_cutRun_43 ⟨Nat.le_of_ble_eq_true rfl, Nat.le_of_ble_eq_true rfl⟩) (fun z_7 hz_7 => ?_)
        refine lv_istore (lv' := [(7, .int (iI z_7)), (6, .int (iI (k : Int))), (5, .int (iI fr)), (4, .int (iI ((x.2.2 : Nat) : Int))), (3, .int (iI ((x.1 : Nat) : Int))), (0, .ref wr), (1, .int (iI ((enc x : Nat) : Int))), (2, .int (iI rl))]) hx hb dW_cutRun_46 hl (by decide) rfl (fun ls hl => ?_)
        refine lv_iload hx hb dW_cutRun_48 (lv_at hl 0 rfl) ?_
        refine ii_if_eq (tgt := 62) hx hb dW_cutRun_50 (by decide) (by omega) (fun c50 => ?_) (fun c50 => ?_)
        · have hg : insB rl (fW k) = false := Bool.eq_false_iff.mpr (fun w => by rw [insB_iff] at w; omega)
          refine lv_iload hx hb dW_cutRun_62 (lv_at hl 0 rfl) ?_
          refine ii_if_ne (tgt := 90) hx hb dW_cutRun_64 (by decide) (by omega) (fun c64 => ?_) (fun c64 => ?_)
          · exfalso; omega
          · refine lv_iload hx hb dW_cutRun_67 (lv_at hl 2 rfl) ?_
            refine ii_if_lt (tgt := 90) hx hb dW_cutRun_69 (by decide) (by omega) (fun c69 => ?_) (fun c69 => ?_)
            · refine lv_iinc (v := iI ((k + 1 : Nat) : Int)) (lv' := [(6, .int (iI ((k + 1 : Nat) : Int))), (7, .int (iI z_7)), (5, .int (iI fr)), (4, .int (iI ((x.2.2 : Nat) : Int))), (3, .int (iI ((x.1 : Nat) : Int))), (0, .ref wr), (1, .int (iI ((enc x : Nat) : Int))), (2, .int (iI rl))]) hx hb dW_cutRun_90 hl (k := 1) rfl (iI_inc _ 1 (by omega)) (by decide) rfl (fun ls hl => ?_)
              refine lv_goto (tgt := 28) hx hb dW_cutRun_93 (by decide) ?_
              exact ih_lp28 (k + 1) fr Pc fQ pq (by omega) k2 (Or.inl ⟨by rcases k3 with ⟨w1, w2⟩ | ⟨a, w1, w2, w3⟩; (exact w1); (exfalso; omega), by rcases k3 with ⟨w1, w2⟩ | ⟨a, w1, w2, w3⟩; (rw [cutG_nf (f := fun k => insB rl (fW k)) (k := k) (e := x.2.2) (by omega) hg] at w2; exact w2); (exfalso; omega)⟩) (by omega) _ _ (hP.sub [0, 1, 2, 3] rfl) (hD.sub [0, 1, 2, 3] (by decide) rfl) hS _ (lv_sub hl [0, 2, 3, 4, 5, 6, 7] rfl)
            · obtain ⟨a, rfl, ha, k3⟩ := Or.resolve_left k3 (fun w => by omega)
              rw [cutG_sf (f := fun k => insB rl (fW k)) (k := k) (e := x.2.2) (by omega) hg] at k3
              have hlen := len_lt k3
              rw [← cutG_sf (f := fun k => insB rl (fW k)) (k := k) (e := x.2.2) (by omega) hg] at k3
              refine lv_aload_n hx hb dW_cutRun_72 rfl (lv_at hl 5 rfl) ?_
              refine va_get (ci := 0) (v := .ref pl) (C := "WindingRaster") (T := TW) (N := 7) hx hb hts in_0 hown hK hP 0 rfl rfl 6 (by decide) fl_59 (fun _ h9 => h9) rfl dW_cutRun_73 ?_
              refine lv_iload_n hx hb dW_cutRun_76 rfl (lv_at hl 4 rfl) ?_
              refine lv_iload hx hb dW_cutRun_77 (lv_at hl 2 rfl) ?_
              refine lv_iload hx hb dW_cutRun_79 (lv_at hl 1 rfl) ?_
              refine cs_i (va_runSN (As := [.int (iI ((x.1 : Nat) : Int)), .int (iI (a : Int)), .int (iI (k : Int))]) (rest := [.ref pl]) ⟨hx, hb, hml, hown, hts⟩ (c_of l D cA cB cS x.1 a k (by omega) (by omega) (by omega)) ⟨(va_cnB 3 hts (gIn vm_49) rfl rfl rfl (hN _ vn_24) (hts _ (List.mem_cons_of_mem _ vm_6)) (by decide +kernel) ⟨Nat.le_of_ble_eq_true rfl, Nat.le_of_ble_eq_true rfl⟩), (hts _ (List.mem_cons_of_mem _ vm_48)), trivial⟩ (pR.pre (hP.sub [] rfl) hKW) rfl rfl hl.1 rfl (lv_room (Nat.le_of_ble_eq_true rfl)) dW_cutRun_81 ⟨Nat.le_of_ble_eq_true rfl, Nat.le_of_ble_eq_true rfl⟩) (fun z_8 hz_8 => ?_)
              subst hz_8
              refine ii_top (y := ((enc (x.1, a, k) : Nat) : Int)) rfl ?_
              refine cw_v (wc := [(pl, .inr (3, [.ref ap, .int (iI (pq : Int))])), (ap, .inl (cA, pm, .inl (iA fQ)))]) (wr := [(wr, .inr (0, [.int (iI (cs : Int)), .int (iI (rs : Int)), .ref ag, .ref oo, .ref cp, .ref aw, .ref pl])), (aw, .inl (cA, cs, .inl (iA fW)))]) hP hD hS hA [2, 3] [0, 1] rfl rfl (by decide) (by decide) (va_runVN (As := [.int (iI ((enc (x.1, a, k) : Nat) : Int))]) (rest := []) ⟨hx, hb, hml, hown, hts⟩ (c_add l D cA cB cS pl ap fQ pq pm (enc (x.1, a, k)) (by omega) (by omega) _) ⟨(va_cnB 1 hts (gIn vm_183) rfl rfl rfl (hN _ vn_25) (hts _ (List.mem_cons_of_mem _ vm_7)) (by decide +kernel) ⟨Nat.le_of_ble_eq_true rfl, Nat.le_of_ble_eq_true rfl⟩), (hts _ (List.mem_cons_of_mem _ vm_182)), (hts _ (List.mem_cons_of_mem _ vm_412))⟩ (pW.preV (va_recv hK hP (ci := 3) (q0 := 2) rfl rfl) (hP.sub [2, 3] rfl) (hD.sub [2, 3] (by decide) rfl) hKW) rfl rfl hl.1 rfl (lv_room (Nat.le_of_ble_eq_true rfl)) dW_cutRun_84 ⟨Nat.le_of_ble_eq_true rfl, Nat.le_of_ble_eq_true rfl⟩) (fun u_10 H locs hz_9 hP hD hS => ?_)
              have hP : va_P D vwCl [(wr, .inr (0, [.int (iI (cs : Int)), .int (iI (rs : Int)), .ref ag, .ref oo, .ref cp, .ref aw, .ref pl])), (aw, .inl (cA, cs, .inl (iA fW))), (pl, .inr (3, [.ref ap, .int (iI ((pq + 1 : Nat) : Int))])), (ap, .inl (cA, pm, .inl (iA (uZ fQ pq ((enc (x.1, a, k)) : Int)))))] H := hP
              have hD : va_D A [(wr, .inr (0, [.int (iI (cs : Int)), .int (iI (rs : Int)), .ref ag, .ref oo, .ref cp, .ref aw, .ref pl])), (aw, .inl (cA, cs, .inl (iA fW))), (pl, .inr (3, [.ref ap, .int (iI ((pq + 1 : Nat) : Int))])), (ap, .inl (cA, pm, .inl (iA (uZ fQ pq ((enc (x.1, a, k)) : Int)))))] := hD
              refine ii_iconst (n := (-1)) hx hb dW_cutRun_87 ?_
              refine lv_istore (lv' := [(5, .int (iI (-1))), (7, .int (iI z_7)), (6, .int (iI (k : Int))), (4, .int (iI ((x.2.2 : Nat) : Int))), (3, .int (iI ((x.1 : Nat) : Int))), (0, .ref wr), (1, .int (iI ((enc x : Nat) : Int))), (2, .int (iI rl))]) hx hb dW_cutRun_88 hl (by decide) rfl (fun ls hl => ?_)
              refine lv_iinc (v := iI ((k + 1 : Nat) : Int)) (lv' := [(6, .int (iI ((k + 1 : Nat) : Int))), (5, .int (iI (-1))), (7, .int (iI z_7)), (4, .int (iI ((x.2.2 : Nat) : Int))), (3, .int (iI ((x.1 : Nat) : Int))), (0, .ref wr), (1, .int (iI ((enc x : Nat) : Int))), (2, .int (iI rl))]) hx hb dW_cutRun_90 hl (k := 2) rfl (iI_inc _ 1 (by omega)) (by decide) rfl (fun ls hl => ?_)
              refine lv_goto (tgt := 28) hx hb dW_cutRun_93 (by decide) ?_
              exact ih_lp28 (k + 1) (-1) (Pc ++ [(x.1, a, k)]) (uZ fQ pq ((enc (x.1, a, k)) : Int)) (pq + 1) (by omega) ⟨segL_snoc (x.1, a, k) k2.1 k2.2, by rw [List.length_append, k2.2]; rfl⟩ (Or.inl ⟨rfl, by rw [cutG_sf (f := fun k => insB rl (fW k)) (k := k) (e := x.2.2) (by omega) hg] at k3; rw [← k3, List.append_assoc]; rfl⟩) (by omega) _ _ (hP.sub [0, 1, 2, 3] rfl) (hD.sub [0, 1, 2, 3] (by decide) rfl) hS _ (lv_sub hl [0, 1, 3, 4, 5, 6, 7] rfl)
        · have hg : insB rl (fW k) = true := (insB_iff rl (fW k)).mpr (by omega)
          refine lv_iload hx hb dW_cutRun_53 (lv_at hl 2 rfl) ?_
          refine ii_if_ge (tgt := 62) hx hb dW_cutRun_55 (by decide) (by omega) (fun c55 => ?_) (fun c55 => ?_)
          · obtain ⟨a, rfl, ha, k3⟩ := Or.resolve_left k3 (fun w => by omega)
            refine lv_iload hx hb dW_cutRun_62 (lv_at hl 0 rfl) ?_
            refine ii_if_ne (tgt := 90) hx hb dW_cutRun_64 (by decide) (by omega) (fun c64 => ?_) (fun c64 => ?_)
            · refine lv_iinc (v := iI ((k + 1 : Nat) : Int)) (lv' := [(6, .int (iI ((k + 1 : Nat) : Int))), (7, .int (iI z_7)), (5, .int (iI (a : Int))), (4, .int (iI ((x.2.2 : Nat) : Int))), (3, .int (iI ((x.1 : Nat) : Int))), (0, .ref wr), (1, .int (iI ((enc x : Nat) : Int))), (2, .int (iI rl))]) hx hb dW_cutRun_90 hl (k := 1) rfl (iI_inc _ 1 (by omega)) (by decide) rfl (fun ls hl => ?_)
              refine lv_goto (tgt := 28) hx hb dW_cutRun_93 (by decide) ?_
              exact ih_lp28 (k + 1) (a : Int) Pc fQ pq (by omega) k2 (Or.inr ⟨a, rfl, by omega, by rw [cutG_st (f := fun k => insB rl (fW k)) (k := k) (e := x.2.2) (by omega) hg] at k3; exact k3⟩) (by omega) _ _ (hP.sub [0, 1, 2, 3] rfl) (hD.sub [0, 1, 2, 3] (by decide) rfl) hS _ (lv_sub hl [0, 2, 3, 4, 5, 6, 7] rfl)
            · exfalso; omega
          · refine lv_iload hx hb dW_cutRun_58 (lv_at hl 1 rfl) ?_
            refine lv_istore (lv' := [(5, .int (iI (k : Int))), (7, .int (iI z_7)), (6, .int (iI (k : Int))), (4, .int (iI ((x.2.2 : Nat) : Int))), (3, .int (iI ((x.1 : Nat) : Int))), (0, .ref wr), (1, .int (iI ((enc x : Nat) : Int))), (2, .int (iI rl))]) hx hb dW_cutRun_60 hl (by decide) rfl (fun ls hl => ?_)
            refine lv_iload hx hb dW_cutRun_62 (lv_at hl 1 rfl) ?_
            refine ii_if_ne (tgt := 90) hx hb dW_cutRun_64 (by decide) (by omega) (fun c64 => ?_) (fun c64 => ?_)
            · refine lv_iinc (v := iI ((k + 1 : Nat) : Int)) (lv' := [(6, .int (iI ((k + 1 : Nat) : Int))), (5, .int (iI (k : Int))), (7, .int (iI z_7)), (4, .int (iI ((x.2.2 : Nat) : Int))), (3, .int (iI ((x.1 : Nat) : Int))), (0, .ref wr), (1, .int (iI ((enc x : Nat) : Int))), (2, .int (iI rl))]) hx hb dW_cutRun_90 hl (k := 2) rfl (iI_inc _ 1 (by omega)) (by decide) rfl (fun ls hl => ?_)
              refine lv_goto (tgt := 28) hx hb dW_cutRun_93 (by decide) ?_
              exact ih_lp28 (k + 1) (k : Int) Pc fQ pq (by omega) k2 (Or.inr ⟨k, rfl, by omega, by rcases k3 with ⟨w1, w2⟩ | ⟨a, w1, w2, w3⟩; (rw [cutG_nt (f := fun k => insB rl (fW k)) (k := k) (e := x.2.2) (by omega) hg] at w2; exact w2); (exfalso; omega)⟩) (by omega) _ _ (hP.sub [0, 1, 2, 3] rfl) (hD.sub [0, 1, 2, 3] (by decide) rfl) hS _ (lv_sub hl [0, 1, 3, 4, 5, 6, 7] rfl)
            · exfalso; omega
  exact lp28 (x.2.2 - x.2.1 + 1) x.2.1 (-1) P fP pn (by omega) ⟨h3, h2⟩ (Or.inl ⟨rfl, rfl⟩) (Nat.lt_succ_self _) _ _ (hP.sub [0, 1, 2, 3] rfl) (hD.sub [0, 1, 2, 3] (by decide) rfl) hS _ (lv_sub hl [0, 1, 2, 3, 4, 5, 6] rfl)

def rm_c_cutClip : Room := { frames := 3, cells := 0, slots := 0, locals := 84 }
set_option maxHeartbeats 4000000 in
set_option maxRecDepth 100000 in
theorem c_cutClip (l : Launch) (D : va_G) (cA cB cS : ClassId) (wr : Nat) (cs : Nat) (rs : Nat) (ag : Nat) (oo : Nat) (cp : Nat) (aw : Nat) (pl : Nat) (ax : Nat) (ay : Nat) (an : Nat) (fX : Nat → Int) (fY : Nat → Int) (fN : Nat → Int) (np : Nat) (l0 : Nat) (ai : Nat) (at_ : Nat) (fI : Nat → Int) (fS : Nat → Int) (sv : Nat) (en : Nat) (fW : Nat → Int) (ap : Nat) (fP : Nat → Int) (pn : Nat) (pm : Nat) (st0 : Nat) (rl : Int) (L : List Run3) (h1 : sv ≤ 12) (h2 : fS sv = (st0 : Int)) (h3 : segL fI st0 L) (h4 : st0 + L.length = en) (h5 : ∀ x ∈ L, runOk cs rs x) (h6 : cs ≤ 256) (h7 : rs ≤ 256) (h8 : en ≤ 24000) (h9 : np ≤ 4096) (h10 : ∀ i, i < np → (-536870912 ≤ fX i ∧ fX i ≤ 536870912) ∧ (-536870912 ≤ fY i ∧ fY i ≤ 536870912)) (h11 : ∀ i, i < np → 0 ≤ fN i ∧ fN i < (np : Int)) (h12 : (cutA (gW fX fY fN np rl) L).length ≤ pm) (h13 : pm < 2147483648) (h14 : i32 rl) (h15 : 0 < cs) (sz : Nat) : Met l yW_cutClip wW_cutClip rm_c_cutClip (pW [.ref wr, .int (iI rl)] D vwCl (vwTy cA cB cS) vwNw [(wr, .inr (0, [.int (iI (cs : Int)), .int (iI (rs : Int)), .ref ag, .ref oo, .ref cp, .ref aw, .ref pl])), (oo, .inr (1, [.ref ax, .ref ay, .ref an, .int (iI (np : Int)), .int (iI (l0 : Int))])), (ax, .inl (cA, 4096, .inl (iA fX))), (ay, .inl (cA, 4096, .inl (iA fY))), (an, .inl (cA, 4096, .inl (iA fN))), (cp, .inr (2, [.ref ai, .ref at_, .int (iI (sv : Int)), .int (iI (en : Int))])), (ai, .inl (cA, 24000, .inl (iA fI))), (at_, .inl (cA, 13, .inl (iA fS))), (aw, .inl (cA, cs, .inl (iA fW))), (pl, .inr (3, [.ref ap, .int (iI (pn : Int))])), (ap, .inl (cA, pm, .inl (iA fP)))] sz) (qV (S := (Nat → Int) × (Nat → Int) × Nat) (fun u : (Nat → Int) × (Nat → Int) × Nat => segL u.2.1 0 (cutA (gW fX fY fN np rl) L) ∧ (cutA (gW fX fY fN np rl) L).length = u.2.2) D vwCl [(wr, .inr (0, [.int (iI (cs : Int)), .int (iI (rs : Int)), .ref ag, .ref oo, .ref cp, .ref aw, .ref pl])), (oo, .inr (1, [.ref ax, .ref ay, .ref an, .int (iI (np : Int)), .int (iI (l0 : Int))])), (ax, .inl (cA, 4096, .inl (iA fX))), (ay, .inl (cA, 4096, .inl (iA fY))), (an, .inl (cA, 4096, .inl (iA fN))), (cp, .inr (2, [.ref ai, .ref at_, .int (iI (sv : Int)), .int (iI (en : Int))])), (ai, .inl (cA, 24000, .inl (iA fI))), (at_, .inl (cA, 13, .inl (iA fS))), (aw, .inl (cA, cs, .inl (iA fW))), (pl, .inr (3, [.ref ap, .int (iI (pn : Int))])), (ap, .inl (cA, pm, .inl (iA fP)))] sz (fun u : (Nat → Int) × (Nat → Int) × Nat => [(wr, .inr (0, [.int (iI (cs : Int)), .int (iI (rs : Int)), .ref ag, .ref oo, .ref cp, .ref aw, .ref pl])), (oo, .inr (1, [.ref ax, .ref ay, .ref an, .int (iI (np : Int)), .int (iI (l0 : Int))])), (ax, .inl (cA, 4096, .inl (iA fX))), (ay, .inl (cA, 4096, .inl (iA fY))), (an, .inl (cA, 4096, .inl (iA fN))), (cp, .inr (2, [.ref ai, .ref at_, .int (iI (sv : Int)), .int (iI (en : Int))])), (ai, .inl (cA, 24000, .inl (iA fI))), (at_, .inl (cA, 13, .inl (iA fS))), (aw, .inl (cA, cs, .inl (iA u.1))), (pl, .inr (3, [.ref ap, .int (iI ((u.2.2 : Nat) : Int))])), (ap, .inl (cA, pm, .inl (iA u.2.1)))])) 0 0 (va_A [(wr, .inr (0, [.int (iI (cs : Int)), .int (iI (rs : Int)), .ref ag, .ref oo, .ref cp, .ref aw, .ref pl])), (oo, .inr (1, [.ref ax, .ref ay, .ref an, .int (iI (np : Int)), .int (iI (l0 : Int))])), (ax, .inl (cA, 4096, .inl (iA fX))), (ay, .inl (cA, 4096, .inl (iA fY))), (an, .inl (cA, 4096, .inl (iA fN))), (cp, .inr (2, [.ref ai, .ref at_, .int (iI (sv : Int)), .int (iI (en : Int))])), (ai, .inl (cA, 24000, .inl (iA fI))), (at_, .inl (cA, 13, .inl (iA fS))), (aw, .inl (cA, cs, .inl (iA fW))), (pl, .inr (3, [.ref ap, .int (iI (pn : Int))])), (ap, .inl (cA, pm, .inl (iA fP)))] sz) := by
  refine Met.ofW (cc := bW_cutClip) (maxL := 6) (ret := none) (by decide +kernel) rfl ?_
  intro p e s m args below meth c s₁ B hml hv
  obtain ⟨rfl, hsz, hP, hKW, hD0⟩ := hv
  have hK := hKW.1
  have hN := hKW.2.2
  have hx := B.exec
  have hb := B.bytes
  have hr := B.returns
  have hts := atoms_spec (ws := wW_cutClip) B.pre
  have hown : s.vm.findClass "WindingRaster" = some m.cls := findClass_of_methodNamed B.named
  have hlocks := B.notSynchronized
  subst hsz
  have hD := hD0.self (sz := s.heap.size)
  obtain ⟨A, hAe⟩ : ∃ A, va_A [(wr, .inr (0, [.int (iI (cs : Int)), .int (iI (rs : Int)), .ref ag, .ref oo, .ref cp, .ref aw, .ref pl])), (oo, .inr (1, [.ref ax, .ref ay, .ref an, .int (iI (np : Int)), .int (iI (l0 : Int))])), (ax, .inl (cA, 4096, .inl (iA fX))), (ay, .inl (cA, 4096, .inl (iA fY))), (an, .inl (cA, 4096, .inl (iA fN))), (cp, .inr (2, [.ref ai, .ref at_, .int (iI (sv : Int)), .int (iI (en : Int))])), (ai, .inl (cA, 24000, .inl (iA fI))), (at_, .inl (cA, 13, .inl (iA fS))), (aw, .inl (cA, cs, .inl (iA fW))), (pl, .inr (3, [.ref ap, .int (iI (pn : Int))])), (ap, .inl (cA, pm, .inl (iA fP)))] s.heap.size = A := ⟨_, rfl⟩
  rw [hAe] at hD
  have hA : ∀ q : Nat, s.heap.size ≤ q → A q := fun q h => by rw [← hAe]; exact Or.inr h
  have hS : va_S A s.heap s.heap [] := va_S.rf
  have hP : va_P D vwCl [(wr, .inr (0, [.int (iI (cs : Int)), .int (iI (rs : Int)), .ref ag, .ref oo, .ref cp, .ref aw, .ref pl])), (oo, .inr (1, [.ref ax, .ref ay, .ref an, .int (iI (np : Int)), .int (iI (l0 : Int))])), (ax, .inl (cA, 4096, .inl (iA fX))), (ay, .inl (cA, 4096, .inl (iA fY))), (an, .inl (cA, 4096, .inl (iA fN))), (cp, .inr (2, [.ref ai, .ref at_, .int (iI (sv : Int)), .int (iI (en : Int))])), (ai, .inl (cA, 24000, .inl (iA fI))), (at_, .inl (cA, 13, .inl (iA fS))), (aw, .inl (cA, cs, .inl (iA fW))), (pl, .inr (3, [.ref ap, .int (iI (pn : Int))])), (ap, .inl (cA, pm, .inl (iA fP)))] s.heap := hP
  have in_0 : ∀ w ∈ wsW, w ∈ wW_cutClip := fun w h => List.mem_cons_of_mem _ (in0_W w h)
  have fl_59 := (hts _ (List.mem_cons_of_mem _ vm_75))
  have in_3 : ∀ w ∈ wsL, w ∈ wW_cutClip := fun w h => List.mem_cons_of_mem _ (in0_L w h)
  have fl_105 := va_Nw.use (A := [.ref wr, .int (iI rl)].toArray) rfl (hN _ vn_11)
  have fl_47 := (hts _ (List.mem_cons_of_mem _ vm_73))
  have in_2 : ∀ w ∈ wsC, w ∈ wW_cutClip := fun w h => List.mem_cons_of_mem _ (in0_C w h)
  have fl_130 := va_Nw.use (A := [.ref wr, .int (iI rl)].toArray) rfl (hN _ vn_6)
  have fl_38 := (hts _ (List.mem_cons_of_mem _ vm_72))
  have fl_51 := (hts _ (List.mem_cons_of_mem _ vm_74))
  have hl := lv_entry ([.ref wr, .int (iI rl)]) (n := 6) (Nat.le_of_ble_eq_true rfl)
  rw [lg_entry_eq]
  generalize (lg_sl ([.ref wr, .int (iI rl)]) ++ List.replicate (6 - (lg_sl ([.ref wr, .int (iI rl)])).length) Slot.unset).toArray = ls at hl ⊢
  have hl : lv_has ls 6 [(0, .ref wr), (1, .int (iI rl))] := hl
  generalize hQ : MQ below (qV (S := (Nat → Int) × (Nat → Int) × Nat) (fun u : (Nat → Int) × (Nat → Int) × Nat => segL u.2.1 0 (cutA (gW fX fY fN np rl) L) ∧ (cutA (gW fX fY fN np rl) L).length = u.2.2) D vwCl [(wr, .inr (0, [.int (iI (cs : Int)), .int (iI (rs : Int)), .ref ag, .ref oo, .ref cp, .ref aw, .ref pl])), (oo, .inr (1, [.ref ax, .ref ay, .ref an, .int (iI (np : Int)), .int (iI (l0 : Int))])), (ax, .inl (cA, 4096, .inl (iA fX))), (ay, .inl (cA, 4096, .inl (iA fY))), (an, .inl (cA, 4096, .inl (iA fN))), (cp, .inr (2, [.ref ai, .ref at_, .int (iI (sv : Int)), .int (iI (en : Int))])), (ai, .inl (cA, 24000, .inl (iA fI))), (at_, .inl (cA, 13, .inl (iA fS))), (aw, .inl (cA, cs, .inl (iA fW))), (pl, .inr (3, [.ref ap, .int (iI (pn : Int))])), (ap, .inl (cA, pm, .inl (iA fP)))] s.heap.size (fun u : (Nat → Int) × (Nat → Int) × Nat => [(wr, .inr (0, [.int (iI (cs : Int)), .int (iI (rs : Int)), .ref ag, .ref oo, .ref cp, .ref aw, .ref pl])), (oo, .inr (1, [.ref ax, .ref ay, .ref an, .int (iI (np : Int)), .int (iI (l0 : Int))])), (ax, .inl (cA, 4096, .inl (iA fX))), (ay, .inl (cA, 4096, .inl (iA fY))), (an, .inl (cA, 4096, .inl (iA fN))), (cp, .inr (2, [.ref ai, .ref at_, .int (iI (sv : Int)), .int (iI (en : Int))])), (ai, .inl (cA, 24000, .inl (iA fI))), (at_, .inl (cA, 13, .inl (iA fS))), (aw, .inl (cA, cs, .inl (iA u.1))), (pl, .inr (3, [.ref ap, .int (iI ((u.2.2 : Nat) : Int))])), (ap, .inl (cA, pm, .inl (iA u.2.1)))])) [.ref wr, .int (iI rl)].toArray s 0 0 (va_A [(wr, .inr (0, [.int (iI (cs : Int)), .int (iI (rs : Int)), .ref ag, .ref oo, .ref cp, .ref aw, .ref pl])), (oo, .inr (1, [.ref ax, .ref ay, .ref an, .int (iI (np : Int)), .int (iI (l0 : Int))])), (ax, .inl (cA, 4096, .inl (iA fX))), (ay, .inl (cA, 4096, .inl (iA fY))), (an, .inl (cA, 4096, .inl (iA fN))), (cp, .inr (2, [.ref ai, .ref at_, .int (iI (sv : Int)), .int (iI (en : Int))])), (ai, .inl (cA, 24000, .inl (iA fI))), (at_, .inl (cA, 13, .inl (iA fS))), (aw, .inl (cA, cs, .inl (iA fW))), (pl, .inr (3, [.ref ap, .int (iI (pn : Int))])), (ap, .inl (cA, pm, .inl (iA fP)))] s.heap.size) = QQ
  refine lv_aload_n hx hb dW_cutClip_0 rfl (lv_at hl 0 rfl) ?_
  refine va_get (ci := 0) (v := .ref pl) (C := "WindingRaster") (T := TW) (N := 7) hx hb hts in_0 hown hK hP 0 rfl rfl 6 (by decide) fl_59 (fun _ h9 => h9) rfl dW_cutClip_1 ?_
  refine ii_iconst (n := 0) hx hb dW_cutClip_4 ?_
  refine va_putN (ci := 3) (v := .int (iI 0)) (ty := .int) (C := "WindingRaster$RunList") (T := TL) (N := 2) hx hb hts in_3 tL tL_ok nL hown hK hP hD hS 9 rfl rfl 1 (by decide) fl_105 (fun _ h9 => h9) rfl (by decide +kernel) rfl rfl (Nat.le_of_ble_eq_true rfl) dW_cutClip_5 (fun H locs hP hD hS => ?_)
  have hP : va_P D vwCl [(wr, .inr (0, [.int (iI (cs : Int)), .int (iI (rs : Int)), .ref ag, .ref oo, .ref cp, .ref aw, .ref pl])), (oo, .inr (1, [.ref ax, .ref ay, .ref an, .int (iI (np : Int)), .int (iI (l0 : Int))])), (ax, .inl (cA, 4096, .inl (iA fX))), (ay, .inl (cA, 4096, .inl (iA fY))), (an, .inl (cA, 4096, .inl (iA fN))), (cp, .inr (2, [.ref ai, .ref at_, .int (iI (sv : Int)), .int (iI (en : Int))])), (ai, .inl (cA, 24000, .inl (iA fI))), (at_, .inl (cA, 13, .inl (iA fS))), (aw, .inl (cA, cs, .inl (iA fW))), (pl, .inr (3, [.ref ap, .int (iI 0)])), (ap, .inl (cA, pm, .inl (iA fP)))] H := hP
  have hD : va_D A [(wr, .inr (0, [.int (iI (cs : Int)), .int (iI (rs : Int)), .ref ag, .ref oo, .ref cp, .ref aw, .ref pl])), (oo, .inr (1, [.ref ax, .ref ay, .ref an, .int (iI (np : Int)), .int (iI (l0 : Int))])), (ax, .inl (cA, 4096, .inl (iA fX))), (ay, .inl (cA, 4096, .inl (iA fY))), (an, .inl (cA, 4096, .inl (iA fN))), (cp, .inr (2, [.ref ai, .ref at_, .int (iI (sv : Int)), .int (iI (en : Int))])), (ai, .inl (cA, 24000, .inl (iA fI))), (at_, .inl (cA, 13, .inl (iA fS))), (aw, .inl (cA, cs, .inl (iA fW))), (pl, .inr (3, [.ref ap, .int (iI 0)])), (ap, .inl (cA, pm, .inl (iA fP)))] := hD
  refine ii_iconst (n := (-1)) hx hb dW_cutClip_8 ?_
  refine lv_istore_n (lv' := [(2, .int (iI (-1))), (0, .ref wr), (1, .int (iI rl))]) hx hb dW_cutClip_9 rfl hl (by decide) rfl (fun ls hl => ?_)
  refine ii_iconst (n := 0) hx hb dW_cutClip_10 ?_
  refine lv_istore_n (lv' := [(3, .int (iI 0)), (2, .int (iI (-1))), (0, .ref wr), (1, .int (iI rl))]) hx hb dW_cutClip_11 rfl hl (by decide) rfl (fun ls hl => ?_)
  refine lv_aload_n hx hb dW_cutClip_12 rfl (lv_at hl 2 rfl) ?_
  refine va_get (ci := 0) (v := .ref cp) (C := "WindingRaster") (T := TW) (N := 7) hx hb hts in_0 hown hK hP 0 rfl rfl 4 (by decide) fl_47 (fun _ h9 => h9) rfl dW_cutClip_13 ?_
  refine cs_i (va_runVN (As := []) (rest := []) ⟨hx, hb, hml, hown, hts⟩ (c_start l D cA cB cS cp ai at_ fI fS sv en st0 (by omega) h2) ⟨(va_cnB 0 hts (gIn vm_163) rfl rfl rfl (hN _ vn_18) (hts _ (List.mem_cons_of_mem _ vm_5)) (by decide +kernel) ⟨Nat.le_of_ble_eq_true rfl, Nat.le_of_ble_eq_true rfl⟩), (hts _ (List.mem_cons_of_mem _ vm_162)), (hts _ (List.mem_cons_of_mem _ vm_408))⟩ (pR.preV (va_recv hK hP (ci := 2) (q0 := 5) rfl rfl) (hP.sub [5, 6, 7] rfl) hKW) rfl rfl hl.1 rfl (lv_room (Nat.le_of_ble_eq_true rfl)) dW_cutClip_16 ⟨Nat.le_of_ble_eq_true rfl, Nat.le_of_ble_eq_true rfl⟩) (fun z_1 hz_1 => ?_)
  subst hz_1
  refine lv_istore (lv' := [(4, .int (iI (st0 : Int))), (3, .int (iI 0)), (2, .int (iI (-1))), (0, .ref wr), (1, .int (iI rl))]) hx hb dW_cutClip_19 hl (by decide) rfl (fun ls hl => ?_)
  have lp21 : ∀ (n_ : Nat) (i : Nat) (T : List Run3) (ro : Int) (cr : Int) (fV : Nat → Int) (Pc : List Run3) (fQ : Nat → Int) (pq : Nat), (segL fI i T) → (i + T.length = en) → (∀ x ∈ T, runOk cs rs x) → (segL fQ 0 Pc ∧ Pc.length = pq) → (Pc ++ cutA (gW fX fY fN np rl) T = cutA (gW fX fY fN np rl) L) → (cr = 0 ∨ cr = 1) → (rowI cs fX fY fN np fV cr ro) → (T.length) < n_ → ∀ (H : Heap) (locs : List Loc), va_P D vwCl [(wr, .inr (0, [.int (iI (cs : Int)), .int (iI (rs : Int)), .ref ag, .ref oo, .ref cp, .ref aw, .ref pl])), (oo, .inr (1, [.ref ax, .ref ay, .ref an, .int (iI (np : Int)), .int (iI (l0 : Int))])), (ax, .inl (cA, 4096, .inl (iA fX))), (ay, .inl (cA, 4096, .inl (iA fY))), (an, .inl (cA, 4096, .inl (iA fN))), (cp, .inr (2, [.ref ai, .ref at_, .int (iI (sv : Int)), .int (iI (en : Int))])), (ai, .inl (cA, 24000, .inl (iA fI))), (at_, .inl (cA, 13, .inl (iA fS))), (aw, .inl (cA, cs, .inl (iA fV))), (pl, .inr (3, [.ref ap, .int (iI (pq : Int))])), (ap, .inl (cA, pm, .inl (iA fQ)))] H → va_D A [(wr, .inr (0, [.int (iI (cs : Int)), .int (iI (rs : Int)), .ref ag, .ref oo, .ref cp, .ref aw, .ref pl])), (oo, .inr (1, [.ref ax, .ref ay, .ref an, .int (iI (np : Int)), .int (iI (l0 : Int))])), (ax, .inl (cA, 4096, .inl (iA fX))), (ay, .inl (cA, 4096, .inl (iA fY))), (an, .inl (cA, 4096, .inl (iA fN))), (cp, .inr (2, [.ref ai, .ref at_, .int (iI (sv : Int)), .int (iI (en : Int))])), (ai, .inl (cA, 24000, .inl (iA fI))), (at_, .inl (cA, 13, .inl (iA fS))), (aw, .inl (cA, cs, .inl (iA fV))), (pl, .inr (3, [.ref ap, .int (iI (pq : Int))])), (ap, .inl (cA, pm, .inl (iA fQ)))] → va_S A s.heap H locs → ∀ ls : Array Slot, lv_has ls 6 [(4, .int (iI (i : Int))), (3, .int (iI cr)), (2, .int (iI ro)), (0, .ref wr), (1, .int (iI rl))] → W p l e (headSpec wW_cutClip rm_c_cutClip).room s m [.ref wr, .int (iI rl)].toArray below meth c H locs 0 0 QQ (F0 m 21 ls []) := by
    intro n_
    induction n_ with
    | zero =>
      intro i T ro cr fV Pc fQ pq i1 i2 i3 i4 i5 i6 i7 hm_
      exact absurd hm_ (Nat.not_lt_zero _)
    | succ n_ ih_lp21 =>
      intro i T ro cr fV Pc fQ pq i1 i2 i3 i4 i5 i6 i7 hm_lp21 H locs hP hD hS ls hl
      have hro : -1 ≤ ro ∧ ro < 256 := by rcases i7 with w | ⟨r0, w1, w2, w3, w4⟩ <;> omega
      refine lv_iload hx hb dW_cutClip_21 (lv_at hl 0 rfl) ?_
      refine lv_aload_n hx hb dW_cutClip_23 rfl (lv_at hl 3 rfl) ?_
      refine va_get (ci := 0) (v := .ref cp) (C := "WindingRaster") (T := TW) (N := 7) hx hb hts in_0 hown hK hP 0 rfl rfl 4 (by decide) fl_47 (fun _ h9 => h9) rfl dW_cutClip_24 ?_
      refine va_getN (ci := 2) (v := .int (iI (en : Int))) (C := "WindingRaster$ClipPile") (T := TC) (N := 4) hx hb hts in_2 hown hK hP 5 rfl rfl 3 (by decide) fl_130 (fun _ h9 => h9) rfl dW_cutClip_27 ?_
      refine ii_icmp_ge (tgt := 89) hx hb dW_cutClip_30 (by decide) (by omega) (by omega) (fun c30 => ?_) (fun c30 => ?_)
      · rw [← hQ]
        exact wr_vret (fV, fQ, pq) hx hb hr hlocks hAe (hP.sub [0, 1, 2, 3, 4, 5, 6, 7, 8, 9, 10] rfl) (hD.sub [0, 1, 2, 3, 4, 5, 6, 7, 8, 9, 10] (by decide) rfl) hS (by rw [List.eq_nil_of_length_eq_zero (l := T) (by omega)] at i5; rw [← i5]; show segL fQ 0 (Pc ++ []) ∧ (Pc ++ []).length = pq; rw [List.append_nil]; exact i4) dW_cutClip_89
      · obtain ⟨x, T1, hT⟩ : ∃ x T1, T = x :: T1 := by
          cases T with
          | nil => exact absurd i2 (by rw [List.length_nil]; omega)
          | cons x T1 => exact ⟨x, T1, rfl⟩
        subst hT
        obtain ⟨hs1, hs2⟩ := i1
        have hok := i3 x List.mem_cons_self
        have e1 := enc_row hok h6
        have e2 := enc_from hok h6
        have e3 := enc_end hok h6
        have e4 := enc_lt hok h6 h7
        rw [List.length_cons] at i2
        have hok2 := hok.2.1
        have hok1 := hok.1
        have hok3 := hok.2.2
        refine lv_aload_n hx hb dW_cutClip_33 rfl (lv_at hl 3 rfl) ?_
        refine va_get (ci := 0) (v := .ref cp) (C := "WindingRaster") (T := TW) (N := 7) hx hb hts in_0 hown hK hP 0 rfl rfl 4 (by decide) fl_47 (fun _ h9 => h9) rfl dW_cutClip_34 ?_
        refine lv_iload hx hb dW_cutClip_37 (lv_at hl 0 rfl) ?_
        refine cs_i (va_runVN (As := [.int (iI (i : Int))]) (rest := []) ⟨hx, hb, hml, hown, hts⟩ (c_runAt l D cA cB cS cp ai at_ fI fS sv en i (enc x) (by omega) (by omega) hs1) ⟨(va_cnB 1 hts (gIn vm_165) rfl rfl rfl (hN _ vn_19) (hts _ (List.mem_cons_of_mem _ vm_5)) (by decide +kernel) ⟨Nat.le_of_ble_eq_true rfl, Nat.le_of_ble_eq_true rfl⟩), (hts _ (List.mem_cons_of_mem _ vm_164)), (hts _ (List.mem_cons_of_mem _ vm_409))⟩ (pR.preV (va_recv hK hP (ci := 2) (q0 := 5) rfl rfl) (hP.sub [5, 6, 7] rfl) hKW) rfl rfl hl.1 rfl (lv_room (Nat.le_of_ble_eq_true rfl)) dW_cutClip_39 ⟨Nat.le_of_ble_eq_true rfl, Nat.le_of_ble_eq_true rfl⟩) (fun z_2 hz_2 => ?_)
        subst hz_2
        refine lv_istore (lv' := [(5, .int (iI ((enc x : Nat) : Int))), (4, .int (iI (i : Int))), (3, .int (iI cr)), (2, .int (iI ro)), (0, .ref wr), (1, .int (iI rl))]) hx hb dW_cutClip_42 hl (by decide) rfl (fun ls hl => ?_)
        refine lv_iload hx hb dW_cutClip_44 (lv_at hl 0 rfl) ?_
        refine cs_i (va_runSN (As := [.int (iI ((enc x : Nat) : Int))]) (rest := []) ⟨hx, hb, hml, hown, hts⟩ (c_rowOf l D cA cB cS (enc x) (by omega)) ⟨(va_cnB 1 hts (gIn vm_167) rfl rfl rfl (hN _ vn_20) (hts _ (List.mem_cons_of_mem _ vm_6)) (by decide +kernel) ⟨Nat.le_of_ble_eq_true rfl, Nat.le_of_ble_eq_true rfl⟩), (hts _ (List.mem_cons_of_mem _ vm_166)), trivial⟩ (pR.pre (hP.sub [] rfl) hKW) rfl rfl hl.1 rfl (lv_room (Nat.le_of_ble_eq_true rfl)) dW_cutClip_46 ⟨Nat.le_of_ble_eq_true rfl, Nat.le_of_ble_eq_true rfl⟩) (fun z_3 hz_3 => ?_)
        subst hz_3
        refine ii_top (y := ((x.1 : Nat) : Int)) (by rw [e1]) ?_
        refine lv_iload_n hx hb dW_cutClip_49 rfl (lv_at hl 3 rfl) ?_
        refine ii_icmp_eq (tgt := 72) hx hb dW_cutClip_50 (by decide) (by omega) (by omega) (fun c50 => ?_) (fun c50 => ?_)
        · obtain ⟨hw1, hw2⟩ : (∀ k, k < cs → fV k = wiZ fX fY fN np ((x.1 * 65536 + 32768 : Nat) : Int) (k : Int)) ∧ (cr = 0 → ∀ k : Int, wiZ fX fY fN np ((x.1 * 65536 + 32768 : Nat) : Int) k = 0) := by
            rcases i7 with w | ⟨r0, w1, w2, w3, w4⟩
            · exfalso; omega
            · have w5 : r0 = x.1 := by omega
              subst w5
              exact ⟨w3, w4⟩
          refine lv_iload_n hx hb dW_cutClip_72 rfl (lv_at hl 2 rfl) ?_
          refine ii_if_eq (tgt := 83) hx hb dW_cutClip_73 (by decide) (by omega) (fun c73 => ?_) (fun c73 => ?_)
          · refine lv_iinc (v := iI ((i + 1 : Nat) : Int)) (lv' := [(4, .int (iI ((i + 1 : Nat) : Int))), (5, .int (iI ((enc x : Nat) : Int))), (3, .int (iI cr)), (2, .int (iI ro)), (0, .ref wr), (1, .int (iI rl))]) hx hb dW_cutClip_83 hl (k := 1) rfl (iI_inc _ 1 (by omega)) (by decide) rfl (fun ls hl => ?_)
            refine lv_goto (tgt := 21) hx hb dW_cutClip_86 (by decide) ?_
            exact ih_lp21 (i + 1) T1 ro cr fV Pc fQ pq hs2 (by omega) (fun y hy => i3 y (List.mem_cons_of_mem _ hy)) i4 (by rw [← i5]; show _ = Pc ++ (cutG ((gW fX fY fN np rl) x.1) x.1 (x.2.2 - x.2.1) x.2.1 none ++ cutA (gW fX fY fN np rl) T1); rw [cutG_nil x.1 _ _ (fun k w1 w2 => by show insB rl _ = false; rw [hw2 (by omega) (k : Int)]; exact insB_0 rl), List.nil_append]) (by omega) (Or.inr ⟨x.1, by omega, by omega, hw1, hw2⟩) (by rw [List.length_cons] at hm_lp21; omega) _ _ (hP.sub [0, 1, 2, 3, 4, 5, 6, 7, 8, 9, 10] rfl) (hD.sub [0, 1, 2, 3, 4, 5, 6, 7, 8, 9, 10] (by decide) rfl) hS _ (lv_sub hl [0, 2, 3, 4, 5] rfl)
          · have hcg : cutG (fun k => insB rl (fV k)) x.1 (x.2.2 - x.2.1) x.2.1 none = cutG ((gW fX fY fN np rl) x.1) x.1 (x.2.2 - x.2.1) x.2.1 none := cutG_congr x.1 _ _ none (fun k w1 w2 => by show insB rl (fV k) = insB rl _; rw [hw1 k (by omega)])
            refine lv_aload_n hx hb dW_cutClip_76 rfl (lv_at hl 4 rfl) ?_
            refine lv_iload hx hb dW_cutClip_77 (lv_at hl 0 rfl) ?_
            refine lv_iload_n hx hb dW_cutClip_79 rfl (lv_at hl 5 rfl) ?_
            refine cw_v (wc := [(wr, .inr (0, [.int (iI (cs : Int)), .int (iI (rs : Int)), .ref ag, .ref oo, .ref cp, .ref aw, .ref pl])), (aw, .inl (cA, cs, .inl (iA fV))), (pl, .inr (3, [.ref ap, .int (iI (pq : Int))])), (ap, .inl (cA, pm, .inl (iA fQ)))]) (wr := [(oo, .inr (1, [.ref ax, .ref ay, .ref an, .int (iI (np : Int)), .int (iI (l0 : Int))])), (ax, .inl (cA, 4096, .inl (iA fX))), (ay, .inl (cA, 4096, .inl (iA fY))), (an, .inl (cA, 4096, .inl (iA fN))), (cp, .inr (2, [.ref ai, .ref at_, .int (iI (sv : Int)), .int (iI (en : Int))])), (ai, .inl (cA, 24000, .inl (iA fI))), (at_, .inl (cA, 13, .inl (iA fS)))]) hP hD hS hA [0, 8, 9, 10] [1, 2, 3, 4, 5, 6, 7] rfl rfl (by decide) (by decide) (va_runV (As := [.int (iI ((enc x : Nat) : Int)), .int (iI rl)]) (rest := []) ⟨hx, hb, hml, hown, hts⟩ (c_cutRun l D cA cB cS wr cs rs ag oo cp aw pl fV ap fQ pq pm x rl Pc hok i4.2 i4.1 (by rw [hcg]; have w := congrArg List.length i5; simp only [cutA, List.length_append] at w ⊢; omega) (by omega) (by omega) (by omega) (by omega) (fun k hk => by rw [hw1 k hk]; have w := wiZ_rng fX fY fN ((x.1 * 65536 + 32768 : Nat) : Int) (k : Int) np; omega) _) ⟨(callB_of 2 hts (gIn vm_174) rfl rfl rfl (hts _ (List.mem_cons_of_mem _ vm_1)) (hts _ (List.mem_cons_of_mem _ vm_172)) (by decide +kernel) ⟨Nat.le_of_ble_eq_true rfl, Nat.le_of_ble_eq_true rfl⟩), (hts _ (List.mem_cons_of_mem _ vm_173)), (hts _ (List.mem_cons_of_mem _ vm_411))⟩ (pW.preV (va_recv hK hP (ci := 0) (q0 := 0) rfl rfl) (hP.sub [0, 8, 9, 10] rfl) (hD.sub [0, 8, 9, 10] (by decide) rfl) hKW) rfl rfl hl.1 rfl (lv_room (Nat.le_of_ble_eq_true rfl)) dW_cutClip_80 ⟨Nat.le_of_ble_eq_true rfl, Nat.le_of_ble_eq_true rfl⟩) (fun u_4 H locs hzc hP hD hS => ?_)
            obtain ⟨fP1_5, pn1_6⟩ := u_4
            try dsimp only at hzc
            have hP : va_P D vwCl [(oo, .inr (1, [.ref ax, .ref ay, .ref an, .int (iI (np : Int)), .int (iI (l0 : Int))])), (ax, .inl (cA, 4096, .inl (iA fX))), (ay, .inl (cA, 4096, .inl (iA fY))), (an, .inl (cA, 4096, .inl (iA fN))), (cp, .inr (2, [.ref ai, .ref at_, .int (iI (sv : Int)), .int (iI (en : Int))])), (ai, .inl (cA, 24000, .inl (iA fI))), (at_, .inl (cA, 13, .inl (iA fS))), (wr, .inr (0, [.int (iI (cs : Int)), .int (iI (rs : Int)), .ref ag, .ref oo, .ref cp, .ref aw, .ref pl])), (aw, .inl (cA, cs, .inl (iA fV))), (pl, .inr (3, [.ref ap, .int (iI (pn1_6 : Int))])), (ap, .inl (cA, pm, .inl (iA fP1_5)))] H := hP
            have hD : va_D A [(oo, .inr (1, [.ref ax, .ref ay, .ref an, .int (iI (np : Int)), .int (iI (l0 : Int))])), (ax, .inl (cA, 4096, .inl (iA fX))), (ay, .inl (cA, 4096, .inl (iA fY))), (an, .inl (cA, 4096, .inl (iA fN))), (cp, .inr (2, [.ref ai, .ref at_, .int (iI (sv : Int)), .int (iI (en : Int))])), (ai, .inl (cA, 24000, .inl (iA fI))), (at_, .inl (cA, 13, .inl (iA fS))), (wr, .inr (0, [.int (iI (cs : Int)), .int (iI (rs : Int)), .ref ag, .ref oo, .ref cp, .ref aw, .ref pl])), (aw, .inl (cA, cs, .inl (iA fV))), (pl, .inr (3, [.ref ap, .int (iI (pn1_6 : Int))])), (ap, .inl (cA, pm, .inl (iA fP1_5)))] := hD
            refine lv_iinc (v := iI ((i + 1 : Nat) : Int)) (lv' := [(4, .int (iI ((i + 1 : Nat) : Int))), (5, .int (iI ((enc x : Nat) : Int))), (3, .int (iI cr)), (2, .int (iI ro)), (0, .ref wr), (1, .int (iI rl))]) hx hb dW_cutClip_83 hl (k := 1) rfl (iI_inc _ 1 (by omega)) (by decide) rfl (fun ls hl => ?_)
            refine lv_goto (tgt := 21) hx hb dW_cutClip_86 (by decide) ?_
            exact ih_lp21 (i + 1) T1 ro cr fV (Pc ++ cutG (fun k => insB rl (fV k)) x.1 (x.2.2 - x.2.1) x.2.1 none) fP1_5 pn1_6 hs2 (by omega) (fun y hy => i3 y (List.mem_cons_of_mem _ hy)) hzc (by rw [← i5, hcg, List.append_assoc]; rfl) (by omega) (Or.inr ⟨x.1, by omega, by omega, hw1, hw2⟩) (by rw [List.length_cons] at hm_lp21; omega) _ _ (hP.sub [7, 0, 1, 2, 3, 4, 5, 6, 8, 9, 10] rfl) (hD.sub [7, 0, 1, 2, 3, 4, 5, 6, 8, 9, 10] (by decide) rfl) hS _ (lv_sub hl [0, 2, 3, 4, 5] rfl)
        · refine lv_iload hx hb dW_cutClip_53 (lv_at hl 0 rfl) ?_
          refine cs_i (va_runSN (As := [.int (iI ((enc x : Nat) : Int))]) (rest := []) ⟨hx, hb, hml, hown, hts⟩ (c_rowOf l D cA cB cS (enc x) (by omega)) ⟨(va_cnB 1 hts (gIn vm_167) rfl rfl rfl (hN _ vn_20) (hts _ (List.mem_cons_of_mem _ vm_6)) (by decide +kernel) ⟨Nat.le_of_ble_eq_true rfl, Nat.le_of_ble_eq_true rfl⟩), (hts _ (List.mem_cons_of_mem _ vm_166)), trivial⟩ (pR.pre (hP.sub [] rfl) hKW) rfl rfl hl.1 rfl (lv_room (Nat.le_of_ble_eq_true rfl)) dW_cutClip_55 ⟨Nat.le_of_ble_eq_true rfl, Nat.le_of_ble_eq_true rfl⟩) (fun z_7 hz_7 => ?_)
          subst hz_7
          refine ii_top (y := ((x.1 : Nat) : Int)) (by rw [e1]) ?_
          refine lv_istore_n (lv' := [(2, .int (iI ((x.1 : Nat) : Int))), (5, .int (iI ((enc x : Nat) : Int))), (4, .int (iI (i : Int))), (3, .int (iI cr)), (0, .ref wr), (1, .int (iI rl))]) hx hb dW_cutClip_58 rfl hl (by decide) rfl (fun ls hl => ?_)
          refine lv_aload_n hx hb dW_cutClip_59 rfl (lv_at hl 4 rfl) ?_
          refine va_get (ci := 0) (v := .ref oo) (C := "WindingRaster") (T := TW) (N := 7) hx hb hts in_0 hown hK hP 0 rfl rfl 3 (by decide) fl_38 (fun _ h9 => h9) rfl dW_cutClip_60 ?_
          refine lv_iload_n hx hb dW_cutClip_63 rfl (lv_at hl 0 rfl) ?_
          refine lv_aload_n hx hb dW_cutClip_64 rfl (lv_at hl 4 rfl) ?_
          refine va_get (ci := 0) (v := .ref aw) (C := "WindingRaster") (T := TW) (N := 7) hx hb hts in_0 hown hK hP 0 rfl rfl 5 (by decide) fl_51 (fun _ h9 => h9) rfl dW_cutClip_65 ?_
          refine cw_i (wc := [(oo, .inr (1, [.ref ax, .ref ay, .ref an, .int (iI (np : Int)), .int (iI (l0 : Int))])), (ax, .inl (cA, 4096, .inl (iA fX))), (ay, .inl (cA, 4096, .inl (iA fY))), (an, .inl (cA, 4096, .inl (iA fN))), (aw, .inl (cA, cs, .inl (iA fV)))]) (wr := [(wr, .inr (0, [.int (iI (cs : Int)), .int (iI (rs : Int)), .ref ag, .ref oo, .ref cp, .ref aw, .ref pl])), (cp, .inr (2, [.ref ai, .ref at_, .int (iI (sv : Int)), .int (iI (en : Int))])), (ai, .inl (cA, 24000, .inl (iA fI))), (at_, .inl (cA, 13, .inl (iA fS))), (pl, .inr (3, [.ref ap, .int (iI (pq : Int))])), (ap, .inl (cA, pm, .inl (iA fQ)))]) hP hD hS hA [1, 2, 3, 4, 8] [0, 5, 6, 7, 9, 10] rfl rfl (by decide) (by decide) (va_runVN (As := [.int (iI ((x.1 : Nat) : Int)), .ref aw]) (rest := []) ⟨hx, hb, hml, hown, hts⟩ (c_windRow l D cA cB cS oo ax ay an fX fY fN np l0 aw cs fV x.1 h9 (by omega) (by omega) h10 h11 _) ⟨(va_cnB 2 hts (gIn vm_169) rfl rfl rfl (hN _ vn_21) (hts _ (List.mem_cons_of_mem _ vm_4)) (by decide +kernel) ⟨Nat.le_of_ble_eq_true rfl, Nat.le_of_ble_eq_true rfl⟩), (hts _ (List.mem_cons_of_mem _ vm_168)), (hts _ (List.mem_cons_of_mem _ vm_410))⟩ (pW.preV (va_recv hK hP (ci := 1) (q0 := 1) rfl rfl) (hP.sub [1, 2, 3, 4, 8] rfl) (hD.sub [1, 2, 3, 4, 8] (by decide) rfl) hKW) rfl rfl hl.1 rfl (lv_room (Nat.le_of_ble_eq_true rfl)) dW_cutClip_68 ⟨Nat.le_of_ble_eq_true rfl, Nat.le_of_ble_eq_true rfl⟩) (fun zw u_8 H locs hzw hP hD hS => ?_)
          obtain ⟨fV1, rfl⟩ : ∃ z_, z_ = u_8 := ⟨_, rfl⟩
          try dsimp only at hzw
          have hP : va_P D vwCl [(wr, .inr (0, [.int (iI (cs : Int)), .int (iI (rs : Int)), .ref ag, .ref oo, .ref cp, .ref aw, .ref pl])), (cp, .inr (2, [.ref ai, .ref at_, .int (iI (sv : Int)), .int (iI (en : Int))])), (ai, .inl (cA, 24000, .inl (iA fI))), (at_, .inl (cA, 13, .inl (iA fS))), (pl, .inr (3, [.ref ap, .int (iI (pq : Int))])), (ap, .inl (cA, pm, .inl (iA fQ))), (oo, .inr (1, [.ref ax, .ref ay, .ref an, .int (iI (np : Int)), .int (iI (l0 : Int))])), (ax, .inl (cA, 4096, .inl (iA fX))), (ay, .inl (cA, 4096, .inl (iA fY))), (an, .inl (cA, 4096, .inl (iA fN))), (aw, .inl (cA, cs, .inl (iA fV1)))] H := hP
          have hD : va_D A [(wr, .inr (0, [.int (iI (cs : Int)), .int (iI (rs : Int)), .ref ag, .ref oo, .ref cp, .ref aw, .ref pl])), (cp, .inr (2, [.ref ai, .ref at_, .int (iI (sv : Int)), .int (iI (en : Int))])), (ai, .inl (cA, 24000, .inl (iA fI))), (at_, .inl (cA, 13, .inl (iA fS))), (pl, .inr (3, [.ref ap, .int (iI (pq : Int))])), (ap, .inl (cA, pm, .inl (iA fQ))), (oo, .inr (1, [.ref ax, .ref ay, .ref an, .int (iI (np : Int)), .int (iI (l0 : Int))])), (ax, .inl (cA, 4096, .inl (iA fX))), (ay, .inl (cA, 4096, .inl (iA fY))), (an, .inl (cA, 4096, .inl (iA fN))), (aw, .inl (cA, cs, .inl (iA fV1)))] := hD
          obtain ⟨i6, hw1, hw2⟩ := hzw
          refine lv_istore_n (lv' := [(3, .int (iI zw)), (2, .int (iI ((x.1 : Nat) : Int))), (5, .int (iI ((enc x : Nat) : Int))), (4, .int (iI (i : Int))), (0, .ref wr), (1, .int (iI rl))]) hx hb dW_cutClip_71 rfl hl (by decide) rfl (fun ls hl => ?_)
          refine lv_iload_n hx hb dW_cutClip_72 rfl (lv_at hl 0 rfl) ?_
          refine ii_if_eq (tgt := 83) hx hb dW_cutClip_73 (by decide) (by omega) (fun c73 => ?_) (fun c73 => ?_)
          · refine lv_iinc (v := iI ((i + 1 : Nat) : Int)) (lv' := [(4, .int (iI ((i + 1 : Nat) : Int))), (3, .int (iI zw)), (2, .int (iI ((x.1 : Nat) : Int))), (5, .int (iI ((enc x : Nat) : Int))), (0, .ref wr), (1, .int (iI rl))]) hx hb dW_cutClip_83 hl (k := 3) rfl (iI_inc _ 1 (by omega)) (by decide) rfl (fun ls hl => ?_)
            refine lv_goto (tgt := 21) hx hb dW_cutClip_86 (by decide) ?_
            exact ih_lp21 (i + 1) T1 ((x.1 : Nat) : Int) zw fV1 Pc fQ pq hs2 (by omega) (fun y hy => i3 y (List.mem_cons_of_mem _ hy)) i4 (by rw [← i5]; show _ = Pc ++ (cutG ((gW fX fY fN np rl) x.1) x.1 (x.2.2 - x.2.1) x.2.1 none ++ cutA (gW fX fY fN np rl) T1); rw [cutG_nil x.1 _ _ (fun k w1 w2 => by show insB rl _ = false; rw [hw2 (by omega) (k : Int)]; exact insB_0 rl), List.nil_append]) (by omega) (Or.inr ⟨x.1, by omega, by omega, hw1, hw2⟩) (by rw [List.length_cons] at hm_lp21; omega) _ _ (hP.sub [0, 6, 7, 8, 9, 1, 2, 3, 10, 4, 5] rfl) (hD.sub [0, 6, 7, 8, 9, 1, 2, 3, 10, 4, 5] (by decide) rfl) hS _ (lv_sub hl [0, 1, 2, 4, 5] rfl)
          · have hcg : cutG (fun k => insB rl (fV1 k)) x.1 (x.2.2 - x.2.1) x.2.1 none = cutG ((gW fX fY fN np rl) x.1) x.1 (x.2.2 - x.2.1) x.2.1 none := cutG_congr x.1 _ _ none (fun k w1 w2 => by show insB rl (fV1 k) = insB rl _; rw [hw1 k (by omega)])
            refine lv_aload_n hx hb dW_cutClip_76 rfl (lv_at hl 4 rfl) ?_
            refine lv_iload hx hb dW_cutClip_77 (lv_at hl 2 rfl) ?_
            refine lv_iload_n hx hb dW_cutClip_79 rfl (lv_at hl 5 rfl) ?_
            refine cw_v (wc := [(wr, .inr (0, [.int (iI (cs : Int)), .int (iI (rs : Int)), .ref ag, .ref oo, .ref cp, .ref aw, .ref pl])), (aw, .inl (cA, cs, .inl (iA fV1))), (pl, .inr (3, [.ref ap, .int (iI (pq : Int))])), (ap, .inl (cA, pm, .inl (iA fQ)))]) (wr := [(cp, .inr (2, [.ref ai, .ref at_, .int (iI (sv : Int)), .int (iI (en : Int))])), (ai, .inl (cA, 24000, .inl (iA fI))), (at_, .inl (cA, 13, .inl (iA fS))), (oo, .inr (1, [.ref ax, .ref ay, .ref an, .int (iI (np : Int)), .int (iI (l0 : Int))])), (ax, .inl (cA, 4096, .inl (iA fX))), (ay, .inl (cA, 4096, .inl (iA fY))), (an, .inl (cA, 4096, .inl (iA fN)))]) hP hD hS hA [0, 10, 4, 5] [1, 2, 3, 6, 7, 8, 9] rfl rfl (by decide) (by decide) (va_runV (As := [.int (iI ((enc x : Nat) : Int)), .int (iI rl)]) (rest := []) ⟨hx, hb, hml, hown, hts⟩ (c_cutRun l D cA cB cS wr cs rs ag oo cp aw pl fV1 ap fQ pq pm x rl Pc hok i4.2 i4.1 (by rw [hcg]; have w := congrArg List.length i5; simp only [cutA, List.length_append] at w ⊢; omega) (by omega) (by omega) (by omega) (by omega) (fun k hk => by rw [hw1 k hk]; have w := wiZ_rng fX fY fN ((x.1 * 65536 + 32768 : Nat) : Int) (k : Int) np; omega) _) ⟨(callB_of 2 hts (gIn vm_174) rfl rfl rfl (hts _ (List.mem_cons_of_mem _ vm_1)) (hts _ (List.mem_cons_of_mem _ vm_172)) (by decide +kernel) ⟨Nat.le_of_ble_eq_true rfl, Nat.le_of_ble_eq_true rfl⟩), (hts _ (List.mem_cons_of_mem _ vm_173)), (hts _ (List.mem_cons_of_mem _ vm_411))⟩ (pW.preV (va_recv hK hP (ci := 0) (q0 := 0) rfl rfl) (hP.sub [0, 10, 4, 5] rfl) (hD.sub [0, 10, 4, 5] (by decide) rfl) hKW) rfl rfl hl.1 rfl (lv_room (Nat.le_of_ble_eq_true rfl)) dW_cutClip_80 ⟨Nat.le_of_ble_eq_true rfl, Nat.le_of_ble_eq_true rfl⟩) (fun u_9 H locs hzc hP hD hS => ?_)
            obtain ⟨fP1_10, pn1_11⟩ := u_9
            try dsimp only at hzc
            have hP : va_P D vwCl [(cp, .inr (2, [.ref ai, .ref at_, .int (iI (sv : Int)), .int (iI (en : Int))])), (ai, .inl (cA, 24000, .inl (iA fI))), (at_, .inl (cA, 13, .inl (iA fS))), (oo, .inr (1, [.ref ax, .ref ay, .ref an, .int (iI (np : Int)), .int (iI (l0 : Int))])), (ax, .inl (cA, 4096, .inl (iA fX))), (ay, .inl (cA, 4096, .inl (iA fY))), (an, .inl (cA, 4096, .inl (iA fN))), (wr, .inr (0, [.int (iI (cs : Int)), .int (iI (rs : Int)), .ref ag, .ref oo, .ref cp, .ref aw, .ref pl])), (aw, .inl (cA, cs, .inl (iA fV1))), (pl, .inr (3, [.ref ap, .int (iI (pn1_11 : Int))])), (ap, .inl (cA, pm, .inl (iA fP1_10)))] H := hP
            have hD : va_D A [(cp, .inr (2, [.ref ai, .ref at_, .int (iI (sv : Int)), .int (iI (en : Int))])), (ai, .inl (cA, 24000, .inl (iA fI))), (at_, .inl (cA, 13, .inl (iA fS))), (oo, .inr (1, [.ref ax, .ref ay, .ref an, .int (iI (np : Int)), .int (iI (l0 : Int))])), (ax, .inl (cA, 4096, .inl (iA fX))), (ay, .inl (cA, 4096, .inl (iA fY))), (an, .inl (cA, 4096, .inl (iA fN))), (wr, .inr (0, [.int (iI (cs : Int)), .int (iI (rs : Int)), .ref ag, .ref oo, .ref cp, .ref aw, .ref pl])), (aw, .inl (cA, cs, .inl (iA fV1))), (pl, .inr (3, [.ref ap, .int (iI (pn1_11 : Int))])), (ap, .inl (cA, pm, .inl (iA fP1_10)))] := hD
            refine lv_iinc (v := iI ((i + 1 : Nat) : Int)) (lv' := [(4, .int (iI ((i + 1 : Nat) : Int))), (3, .int (iI zw)), (2, .int (iI ((x.1 : Nat) : Int))), (5, .int (iI ((enc x : Nat) : Int))), (0, .ref wr), (1, .int (iI rl))]) hx hb dW_cutClip_83 hl (k := 3) rfl (iI_inc _ 1 (by omega)) (by decide) rfl (fun ls hl => ?_)
            refine lv_goto (tgt := 21) hx hb dW_cutClip_86 (by decide) ?_
            exact ih_lp21 (i + 1) T1 ((x.1 : Nat) : Int) zw fV1 (Pc ++ cutG (fun k => insB rl (fV1 k)) x.1 (x.2.2 - x.2.1) x.2.1 none) fP1_10 pn1_11 hs2 (by omega) (fun y hy => i3 y (List.mem_cons_of_mem _ hy)) hzc (by rw [← i5, hcg, List.append_assoc]; rfl) (by omega) (Or.inr ⟨x.1, by omega, by omega, hw1, hw2⟩) (by rw [List.length_cons] at hm_lp21; omega) _ _ (hP.sub [7, 3, 4, 5, 6, 0, 1, 2, 8, 9, 10] rfl) (hD.sub [7, 3, 4, 5, 6, 0, 1, 2, 8, 9, 10] (by decide) rfl) hS _ (lv_sub hl [0, 1, 2, 4, 5] rfl)
  exact lp21 (L.length + 1) st0 L (-1) 0 fW ([]) fP 0 h3 h4 h5 ⟨trivial, rfl⟩ rfl (Or.inl rfl) (Or.inl rfl) (Nat.lt_succ_self _) _ _ (hP.sub [0, 1, 2, 3, 4, 5, 6, 7, 8, 9, 10] rfl) (hD.sub [0, 1, 2, 3, 4, 5, 6, 7, 8, 9, 10] (by decide) rfl) hS _ (lv_sub hl [0, 1, 2, 3, 4] rfl)
