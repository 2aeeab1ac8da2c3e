def rm_m_flood : Room := { frames := 1, cells := 0, slots := 0, locals := 22 }
set_option maxHeartbeats 4000000 in
set_option maxRecDepth 100000 in
theorem m_flood (l : Launch) (D : va_G) (cA cB cS : ClassId) (mo : Nat) (cs : Nat) (rs : Nat) (mg : Nat) (mm : Nat) (mx : Nat) (my : Nat) (mf : Nat) (mt : Nat) (fB : Nat → Int) (fM : Nat → Int) (gX : Nat → Int) (gY : Nat → Int) (gF : Nat → Int) (gT : Nat → Int) (mv : Nat) (mp : Nat) (me : Nat) (a1 : Int) (h1 : i32 a1) (h5 : mv < 14) (hm : mRng fM) (hc : 0 < cs ∧ cs ≤ 256) (hr_ : 0 < rs ∧ rs ≤ 256) (sz : Nat) : Met l yM_flood wM_flood rm_m_flood (pW [.ref mo, .int (iI a1)] D vwCl (vwTy cA cB cS) vwNw [(mo, .inr (4, [.int (iI (cs : Int)), .int (iI (rs : Int)), .ref mg, .ref mm, .int (iI (mv : Int)), .ref mx, .ref my, .ref mf, .int (iI (mp : Int)), .ref mt, .int (iI (me : Int))])), (mg, .inl (cB, 65536, .inl (iA fB))), (mm, .inl (cS, 65536, .inl (iA fM))), (mx, .inl (cA, 4096, .inl (iA gX))), (my, .inl (cA, 4096, .inl (iA gY))), (mf, .inl (cA, 4096, .inl (iA gF))), (mt, .inl (cA, 4096, .inl (iA gT)))] sz) (qW (S := (Nat → Int)) (fun (z : Int) (fB1 : (Nat → Int)) => (z = -1 ∧ ¬ (0 ≤ a1 ∧ a1 ≤ 255) ∧ fB1 = fB) ∨ ((0 ≤ a1 ∧ a1 ≤ 255) ∧ z = ((lenS (canJ fM cs rs mv) : Nat) : Int) ∧ ∀ r k, r < rs → k < cs → ((mkF fM mv) r k = true → fB1 (256 * r + k) = (if a1 < 128 then a1 else a1 - 256)) ∧ ((mkF fM mv) r k = false → fB1 (256 * r + k) = fB (256 * r + k)))) D vwCl [(mo, .inr (4, [.int (iI (cs : Int)), .int (iI (rs : Int)), .ref mg, .ref mm, .int (iI (mv : Int)), .ref mx, .ref my, .ref mf, .int (iI (mp : Int)), .ref mt, .int (iI (me : Int))])), (mg, .inl (cB, 65536, .inl (iA fB))), (mm, .inl (cS, 65536, .inl (iA fM))), (mx, .inl (cA, 4096, .inl (iA gX))), (my, .inl (cA, 4096, .inl (iA gY))), (mf, .inl (cA, 4096, .inl (iA gF))), (mt, .inl (cA, 4096, .inl (iA gT)))] sz (fun fB1 : (Nat → Int) => [(mo, .inr (4, [.int (iI (cs : Int)), .int (iI (rs : Int)), .ref mg, .ref mm, .int (iI (mv : Int)), .ref mx, .ref my, .ref mf, .int (iI (mp : Int)), .ref mt, .int (iI (me : Int))])), (mg, .inl (cB, 65536, .inl (iA fB1))), (mm, .inl (cS, 65536, .inl (iA fM))), (mx, .inl (cA, 4096, .inl (iA gX))), (my, .inl (cA, 4096, .inl (iA gY))), (mf, .inl (cA, 4096, .inl (iA gF))), (mt, .inl (cA, 4096, .inl (iA gT)))])) 0 0 (va_A [(mo, .inr (4, [.int (iI (cs : Int)), .int (iI (rs : Int)), .ref mg, .ref mm, .int (iI (mv : Int)), .ref mx, .ref my, .ref mf, .int (iI (mp : Int)), .ref mt, .int (iI (me : Int))])), (mg, .inl (cB, 65536, .inl (iA fB))), (mm, .inl (cS, 65536, .inl (iA fM))), (mx, .inl (cA, 4096, .inl (iA gX))), (my, .inl (cA, 4096, .inl (iA gY))), (mf, .inl (cA, 4096, .inl (iA gF))), (mt, .inl (cA, 4096, .inl (iA gT)))] sz) := by
  refine Met.ofW (cc := bM_flood) (maxL := 5) (ret := (some .int)) (by decide +kernel) rfl ?_
  intro p e s m args below meth c s₁ B hml hv
  obtain ⟨rfl, hsz, hP, hKW, hD0⟩ := hv
  have hK := hKW.1
  have hN := hKW.2.2
  have hx := B.exec
  have hb := B.bytes
  have hr := B.returns
  have hts := atoms_spec (ws := wM_flood) B.pre
  have hown : s.vm.findClass "WindingRasterModel" = some m.cls := findClass_of_methodNamed B.named
  have hlocks := B.notSynchronized
  subst hsz
  have hD := hD0.self (sz := s.heap.size)
  obtain ⟨A, hAe⟩ : ∃ A, va_A [(mo, .inr (4, [.int (iI (cs : Int)), .int (iI (rs : Int)), .ref mg, .ref mm, .int (iI (mv : Int)), .ref mx, .ref my, .ref mf, .int (iI (mp : Int)), .ref mt, .int (iI (me : Int))])), (mg, .inl (cB, 65536, .inl (iA fB))), (mm, .inl (cS, 65536, .inl (iA fM))), (mx, .inl (cA, 4096, .inl (iA gX))), (my, .inl (cA, 4096, .inl (iA gY))), (mf, .inl (cA, 4096, .inl (iA gF))), (mt, .inl (cA, 4096, .inl (iA gT)))] s.heap.size = A := ⟨_, rfl⟩
  rw [hAe] at hD
  have hA : ∀ q : Nat, s.heap.size ≤ q → A q := fun q h => by rw [← hAe]; exact Or.inr h
  have hS : va_S A s.heap s.heap [] := va_S.rf
  have hP : va_P D vwCl [(mo, .inr (4, [.int (iI (cs : Int)), .int (iI (rs : Int)), .ref mg, .ref mm, .int (iI (mv : Int)), .ref mx, .ref my, .ref mf, .int (iI (mp : Int)), .ref mt, .int (iI (me : Int))])), (mg, .inl (cB, 65536, .inl (iA fB))), (mm, .inl (cS, 65536, .inl (iA fM))), (mx, .inl (cA, 4096, .inl (iA gX))), (my, .inl (cA, 4096, .inl (iA gY))), (mf, .inl (cA, 4096, .inl (iA gF))), (mt, .inl (cA, 4096, .inl (iA gT)))] s.heap := hP
  have in_4 : ∀ w ∈ wsM, w ∈ wM_flood := fun w h => List.mem_cons_of_mem _ (in0_M w h)
  have fl_39 := (hts _ (List.mem_cons_of_mem _ vm_262))
  have fl_35 := (hts _ (List.mem_cons_of_mem _ vm_261))
  have fl_96 := (hts _ (List.mem_cons_of_mem _ vm_265))
  have fl_8 := (hts _ (List.mem_cons_of_mem _ vm_263))
  have hl := lv_entry ([.ref mo, .int (iI a1)]) (n := 5) (Nat.le_of_ble_eq_true rfl)
  rw [lg_entry_eq]
  generalize (lg_sl ([.ref mo, .int (iI a1)]) ++ List.replicate (5 - (lg_sl ([.ref mo, .int (iI a1)])).length) Slot.unset).toArray = ls at hl ⊢
  have hl : lv_has ls 5 [(0, .ref mo), (1, .int (iI a1))] := hl
  generalize hQ : MQ below (qW (S := (Nat → Int)) (fun (z : Int) (fB1 : (Nat → Int)) => (z = -1 ∧ ¬ (0 ≤ a1 ∧ a1 ≤ 255) ∧ fB1 = fB) ∨ ((0 ≤ a1 ∧ a1 ≤ 255) ∧ z = ((lenS (canJ fM cs rs mv) : Nat) : Int) ∧ ∀ r k, r < rs → k < cs → ((mkF fM mv) r k = true → fB1 (256 * r + k) = (if a1 < 128 then a1 else a1 - 256)) ∧ ((mkF fM mv) r k = false → fB1 (256 * r + k) = fB (256 * r + k)))) D vwCl [(mo, .inr (4, [.int (iI (cs : Int)), .int (iI (rs : Int)), .ref mg, .ref mm, .int (iI (mv : Int)), .ref mx, .ref my, .ref mf, .int (iI (mp : Int)), .ref mt, .int (iI (me : Int))])), (mg, .inl (cB, 65536, .inl (iA fB))), (mm, .inl (cS, 65536, .inl (iA fM))), (mx, .inl (cA, 4096, .inl (iA gX))), (my, .inl (cA, 4096, .inl (iA gY))), (mf, .inl (cA, 4096, .inl (iA gF))), (mt, .inl (cA, 4096, .inl (iA gT)))] s.heap.size (fun fB1 : (Nat → Int) => [(mo, .inr (4, [.int (iI (cs : Int)), .int (iI (rs : Int)), .ref mg, .ref mm, .int (iI (mv : Int)), .ref mx, .ref my, .ref mf, .int (iI (mp : Int)), .ref mt, .int (iI (me : Int))])), (mg, .inl (cB, 65536, .inl (iA fB1))), (mm, .inl (cS, 65536, .inl (iA fM))), (mx, .inl (cA, 4096, .inl (iA gX))), (my, .inl (cA, 4096, .inl (iA gY))), (mf, .inl (cA, 4096, .inl (iA gF))), (mt, .inl (cA, 4096, .inl (iA gT)))])) [.ref mo, .int (iI a1)].toArray s 0 0 (va_A [(mo, .inr (4, [.int (iI (cs : Int)), .int (iI (rs : Int)), .ref mg, .ref mm, .int (iI (mv : Int)), .ref mx, .ref my, .ref mf, .int (iI (mp : Int)), .ref mt, .int (iI (me : Int))])), (mg, .inl (cB, 65536, .inl (iA fB))), (mm, .inl (cS, 65536, .inl (iA fM))), (mx, .inl (cA, 4096, .inl (iA gX))), (my, .inl (cA, 4096, .inl (iA gY))), (mf, .inl (cA, 4096, .inl (iA gF))), (mt, .inl (cA, 4096, .inl (iA gT)))] s.heap.size) = QQ
  refine lv_iload_n hx hb dM_flood_0 rfl (lv_at hl 1 rfl) ?_
  refine ii_if_lt (tgt := 11) hx hb dM_flood_1 (by decide) (by omega) (fun c1 => ?_) (fun c1 => ?_)
  · refine ii_iconst (n := (-1)) hx hb dM_flood_11 ?_
    rw [← hQ]
    exact wr_iret fB hx hb hr hlocks hAe (hP.sub [0, 1, 2, 3, 4, 5, 6] rfl) (hD.sub [0, 1, 2, 3, 4, 5, 6] (by decide) rfl) hS (Or.inl ⟨rfl, by omega, rfl⟩) dM_flood_12
  · refine lv_iload_n hx hb dM_flood_4 rfl (lv_at hl 1 rfl) ?_
    refine ii_sipush (n := 255) hx hb dM_flood_5 (by decide +kernel) ?_
    refine ii_icmp_le (tgt := 13) hx hb dM_flood_8 (by decide) (by omega) (by omega) (fun c8 => ?_) (fun c8 => ?_)
    · refine ii_iconst (n := 0) hx hb dM_flood_13 ?_
      refine lv_istore_n (lv' := [(2, .int (iI 0)), (0, .ref mo), (1, .int (iI a1))]) hx hb dM_flood_14 rfl hl (by decide) rfl (fun ls hl => ?_)
      refine ii_iconst (n := 0) hx hb dM_flood_15 ?_
      refine lv_istore_n (lv' := [(3, .int (iI 0)), (2, .int (iI 0)), (0, .ref mo), (1, .int (iI a1))]) hx hb dM_flood_16 rfl hl (by decide) rfl (fun ls hl => ?_)
      have lp17 : ∀ (n_ : Nat) (kr : Nat) (nn : Nat) (fK : Nat → Int), (kr ≤ rs) → (nn + lenS (canP (mkF fM mv) cs (rs - kr) kr) = lenS (canJ fM cs rs mv)) → (paB (mkF fM mv) cs kr 0 (if a1 < 128 then a1 else a1 - 256) fB fK) → (rs - kr) < n_ → ∀ (H : Heap) (locs : List Loc), va_P D vwCl [(mo, .inr (4, [.int (iI (cs : Int)), .int (iI (rs : Int)), .ref mg, .ref mm, .int (iI (mv : Int)), .ref mx, .ref my, .ref mf, .int (iI (mp : Int)), .ref mt, .int (iI (me : Int))])), (mg, .inl (cB, 65536, .inl (iA fK))), (mm, .inl (cS, 65536, .inl (iA fM))), (mx, .inl (cA, 4096, .inl (iA gX))), (my, .inl (cA, 4096, .inl (iA gY))), (mf, .inl (cA, 4096, .inl (iA gF))), (mt, .inl (cA, 4096, .inl (iA gT)))] H → va_D A [(mo, .inr (4, [.int (iI (cs : Int)), .int (iI (rs : Int)), .ref mg, .ref mm, .int (iI (mv : Int)), .ref mx, .ref my, .ref mf, .int (iI (mp : Int)), .ref mt, .int (iI (me : Int))])), (mg, .inl (cB, 65536, .inl (iA fK))), (mm, .inl (cS, 65536, .inl (iA fM))), (mx, .inl (cA, 4096, .inl (iA gX))), (my, .inl (cA, 4096, .inl (iA gY))), (mf, .inl (cA, 4096, .inl (iA gF))), (mt, .inl (cA, 4096, .inl (iA gT)))] → va_S A s.heap H locs → ∀ ls : Array Slot, lv_has ls 5 [(3, .int (iI (kr : Int))), (2, .int (iI (nn : Int))), (0, .ref mo), (1, .int (iI a1))] → W p l e (headSpec wM_flood rm_m_flood).room s m [.ref mo, .int (iI a1)].toArray below meth c H locs 0 0 QQ (F0 m 17 ls []) := by
        intro n_
        induction n_ with
        | zero =>
          intro kr nn fK i1 i2 i3 hm_
          exact absurd hm_ (Nat.not_lt_zero _)
        | succ n_ ih_lp17 =>
          intro kr nn fK i1 i2 i3 hm_lp17 H locs hP hD hS ls hl
          refine lv_iload_n hx hb dM_flood_17 rfl (lv_at hl 0 rfl) ?_
          refine lv_aload_n hx hb dM_flood_18 rfl (lv_at hl 2 rfl) ?_
          refine va_get (ci := 4) (v := .int (iI (rs : Int))) (C := "WindingRasterModel") (T := TM) (N := 11) hx hb hts in_4 hown hK hP 0 rfl rfl 1 (by decide) fl_39 (fun _ h9 => h9) rfl dM_flood_19 ?_
          refine ii_icmp_ge (tgt := 85) hx hb dM_flood_22 (by decide) (by omega) (by omega) (fun c22 => ?_) (fun c22 => ?_)
          · refine lv_iload_n hx hb dM_flood_85 rfl (lv_at hl 1 rfl) ?_
            rw [← hQ]
            exact wr_iret fK hx hb hr hlocks hAe (hP.sub [0, 1, 2, 3, 4, 5, 6] rfl) (hD.sub [0, 1, 2, 3, 4, 5, 6] (by decide) rfl) hS (Or.inr ⟨by omega, by rw [show rs - kr = 0 by omega, canP_0] at i2; have e0 : lenS [] = 0 := rfl; omega, fun r k w1 w2 => by rw [show kr = rs by omega] at i3; exact paB_end i3 (by omega) w1 w2⟩) dM_flood_86
          · rw [canP_lenSR (mkF fM mv) cs rs kr (by omega)] at i2
            refine ii_iconst (n := 0) hx hb dM_flood_25 ?_
            refine lv_istore (lv' := [(4, .int (iI 0)), (3, .int (iI (kr : Int))), (2, .int (iI (nn : Int))), (0, .ref mo), (1, .int (iI a1))]) hx hb dM_flood_26 hl (by decide) rfl (fun ls hl => ?_)
            have lp28 : ∀ (n_ : Nat) (kc : Nat) (n2 : Nat) (fK2 : Nat → Int), (kc ≤ cs) → (n2 + cnG ((mkF fM mv) kr) (cs - kc) kc + lenS (canP (mkF fM mv) cs (rs - (kr + 1)) (kr + 1)) = lenS (canJ fM cs rs mv)) → (paB (mkF fM mv) cs kr kc (if a1 < 128 then a1 else a1 - 256) fB fK2) → (cs - kc) < n_ → ∀ (H : Heap) (locs : List Loc), va_P D vwCl [(mo, .inr (4, [.int (iI (cs : Int)), .int (iI (rs : Int)), .ref mg, .ref mm, .int (iI (mv : Int)), .ref mx, .ref my, .ref mf, .int (iI (mp : Int)), .ref mt, .int (iI (me : Int))])), (mg, .inl (cB, 65536, .inl (iA fK2))), (mm, .inl (cS, 65536, .inl (iA fM))), (mx, .inl (cA, 4096, .inl (iA gX))), (my, .inl (cA, 4096, .inl (iA gY))), (mf, .inl (cA, 4096, .inl (iA gF))), (mt, .inl (cA, 4096, .inl (iA gT)))] H → va_D A [(mo, .inr (4, [.int (iI (cs : Int)), .int (iI (rs : Int)), .ref mg, .ref mm, .int (iI (mv : Int)), .ref mx, .ref my, .ref mf, .int (iI (mp : Int)), .ref mt, .int (iI (me : Int))])), (mg, .inl (cB, 65536, .inl (iA fK2))), (mm, .inl (cS, 65536, .inl (iA fM))), (mx, .inl (cA, 4096, .inl (iA gX))), (my, .inl (cA, 4096, .inl (iA gY))), (mf, .inl (cA, 4096, .inl (iA gF))), (mt, .inl (cA, 4096, .inl (iA gT)))] → va_S A s.heap H locs → ∀ ls : Array Slot, lv_has ls 5 [(4, .int (iI (kc : Int))), (2, .int (iI (n2 : Int))), (3, .int (iI (kr : Int))), (0, .ref mo), (1, .int (iI a1))] → W p l e (headSpec wM_flood rm_m_flood).room s m [.ref mo, .int (iI a1)].toArray below meth c H locs 0 0 QQ (F0 m 28 ls []) := by
              intro n_
              induction n_ with
              | zero =>
                intro kc n2 fK2 k1 k2 k3 hm_
                exact absurd hm_ (Nat.not_lt_zero _)
              | succ n_ ih_lp28 =>
                intro kc n2 fK2 k1 k2 k3 hm_lp28 H locs hP hD hS ls hl
                refine lv_iload hx hb dM_flood_28 (lv_at hl 0 rfl) ?_
                refine lv_aload_n hx hb dM_flood_30 rfl (lv_at hl 3 rfl) ?_
                refine va_get (ci := 4) (v := .int (iI (cs : Int))) (C := "WindingRasterModel") (T := TM) (N := 11) hx hb hts in_4 hown hK hP 0 rfl rfl 0 (by decide) fl_35 (fun _ h9 => h9) rfl dM_flood_31 ?_
                refine ii_icmp_ge (tgt := 79) hx hb dM_flood_34 (by decide) (by omega) (by omega) (fun c34 => ?_) (fun c34 => ?_)
                · refine lv_iinc (v := iI ((kr + 1 : Nat) : Int)) (lv' := [(3, .int (iI ((kr + 1 : Nat) : Int))), (4, .int (iI (kc : Int))), (2, .int (iI (n2 : Int))), (0, .ref mo), (1, .int (iI a1))]) hx hb dM_flood_79 hl (k := 2) rfl (iI_inc _ 1 (by omega)) (by decide) rfl (fun ls hl => ?_)
                  refine lv_goto (tgt := 17) hx hb dM_flood_82 (by decide) ?_
                  exact ih_lp17 (kr + 1) n2 fK2 (by omega) (by rw [show cs - kc = 0 by omega, cn_0] at k2; omega) (paB_row k3 (by omega)) (by omega) _ _ (hP.sub [0, 1, 2, 3, 4, 5, 6] rfl) (hD.sub [0, 1, 2, 3, 4, 5, 6] (by decide) rfl) hS _ (lv_sub hl [0, 2, 3, 4] rfl)
                · refine lv_aload_n hx hb dM_flood_37 rfl (lv_at hl 3 rfl) ?_
                  refine lv_iload hx hb dM_flood_38 (lv_at hl 0 rfl) ?_
                  refine lv_iload_n hx hb dM_flood_40 rfl (lv_at hl 2 rfl) ?_
                  refine cs_i (va_runS (As := [.int (iI (kc : Int)), .int (iI (kr : Int))]) (rest := [.ref mo]) ⟨hx, hb, hml, hown, hts⟩ (m_at l D cA cB cS kc kr) ⟨(callB_of 2 hts (gIn vm_343) rfl rfl rfl (hts _ (List.mem_cons_of_mem _ vm_8)) (hts _ (List.mem_cons_of_mem _ vm_341)) (by decide +kernel) ⟨Nat.le_of_ble_eq_true rfl, Nat.le_of_ble_eq_true rfl⟩), (hts _ (List.mem_cons_of_mem _ vm_342))⟩ (pR.pre (hP.sub [] rfl) hKW) rfl rfl hl.1 rfl (lv_room (Nat.le_of_ble_eq_true rfl)) dM_flood_41 ⟨Nat.le_of_ble_eq_true rfl, Nat.le_of_ble_eq_true rfl⟩) (fun z_1 hz_1 => ?_)
                  subst hz_1
                  refine lv_aload_n hx hb dM_flood_44 rfl (lv_at hl 3 rfl) ?_
                  refine va_get (ci := 4) (v := .int (iI (mv : Int))) (C := "WindingRasterModel") (T := TM) (N := 11) hx hb hts in_4 hown hK hP 0 rfl rfl 4 (by decide) fl_96 (fun _ h9 => h9) rfl dM_flood_45 ?_
                  refine cs_i (va_runV (As := [.int (iI ((256 * kr + kc : Nat) : Int)), .int (iI (mv : Int))]) (rest := []) ⟨hx, hb, hml, hown, hts⟩ (m_isOpen l D cA cB cS mo cs rs mg mm mx my mf mt fK2 fM gX gY gF gT mv mp me (256 * kr + kc) mv (by omega) (by omega) hm) ⟨(callB_of 2 hts (gIn vm_346) rfl rfl rfl (hts _ (List.mem_cons_of_mem _ vm_8)) (hts _ (List.mem_cons_of_mem _ vm_344)) (by decide +kernel) ⟨Nat.le_of_ble_eq_true rfl, Nat.le_of_ble_eq_true rfl⟩), (hts _ (List.mem_cons_of_mem _ vm_345)), (hts _ (List.mem_cons_of_mem _ vm_427))⟩ (pR.preV (va_recv hK hP (ci := 4) (q0 := 0) rfl rfl) (hP.sub [0, 1, 2, 3, 4, 5, 6] rfl) hKW) rfl rfl hl.1 rfl (lv_room (Nat.le_of_ble_eq_true rfl)) dM_flood_48 ⟨Nat.le_of_ble_eq_true rfl, Nat.le_of_ble_eq_true rfl⟩) (fun zo hzo => ?_)
                  refine ii_if_ne (tgt := 57) hx hb dM_flood_51 (by decide) (by omega) (fun c51 => ?_) (fun c51 => ?_)
                  · have hbb : mkF fM mv kr kc = true := (by rcases hzo with v | v; (exact v.2); (exfalso; omega))
                    refine lv_aload_n hx hb dM_flood_57 rfl (lv_at hl 3 rfl) ?_
                    refine va_get (ci := 4) (v := .ref mg) (C := "WindingRasterModel") (T := TM) (N := 11) hx hb hts in_4 hown hK hP 0 rfl rfl 2 (by decide) fl_8 (fun _ h9 => h9) rfl dM_flood_58 ?_
                    refine lv_iload hx hb dM_flood_61 (lv_at hl 0 rfl) ?_
                    refine lv_iload_n hx hb dM_flood_63 rfl (lv_at hl 2 rfl) ?_
                    refine cs_i (va_runS (As := [.int (iI (kc : Int)), .int (iI (kr : Int))]) (rest := [.ref mg]) ⟨hx, hb, hml, hown, hts⟩ (m_at l D cA cB cS kc kr) ⟨(callB_of 2 hts (gIn vm_343) rfl rfl rfl (hts _ (List.mem_cons_of_mem _ vm_8)) (hts _ (List.mem_cons_of_mem _ vm_341)) (by decide +kernel) ⟨Nat.le_of_ble_eq_true rfl, Nat.le_of_ble_eq_true rfl⟩), (hts _ (List.mem_cons_of_mem _ vm_342))⟩ (pR.pre (hP.sub [] rfl) hKW) rfl rfl hl.1 rfl (lv_room (Nat.le_of_ble_eq_true rfl)) dM_flood_64 ⟨Nat.le_of_ble_eq_true rfl, Nat.le_of_ble_eq_true rfl⟩) (fun z_2 hz_2 => ?_)
                    subst hz_2
                    refine lv_iload_n hx hb dM_flood_67 rfl (lv_at hl 4 rfl) ?_
                    refine ii_i2b (z := (if a1 < 128 then a1 else a1 - 256)) hx hb dM_flood_68 (iI_8b (by omega)) ?_
                    refine ii_bast hx hb hK hP hD hS 1 1 rfl rfl (256 * kr + kc) rfl (by omega) (by omega) (by split <;> omega) dM_flood_69 (fun H locs hP hD hS => ?_)
                    have hP : va_P D vwCl [(mo, .inr (4, [.int (iI (cs : Int)), .int (iI (rs : Int)), .ref mg, .ref mm, .int (iI (mv : Int)), .ref mx, .ref my, .ref mf, .int (iI (mp : Int)), .ref mt, .int (iI (me : Int))])), (mg, .inl (cB, 65536, .inl (iA (uZ fK2 (256 * kr + kc) (if a1 < 128 then a1 else a1 - 256))))), (mm, .inl (cS, 65536, .inl (iA fM))), (mx, .inl (cA, 4096, .inl (iA gX))), (my, .inl (cA, 4096, .inl (iA gY))), (mf, .inl (cA, 4096, .inl (iA gF))), (mt, .inl (cA, 4096, .inl (iA gT)))] H := hP
                    have hD : va_D A [(mo, .inr (4, [.int (iI (cs : Int)), .int (iI (rs : Int)), .ref mg, .ref mm, .int (iI (mv : Int)), .ref mx, .ref my, .ref mf, .int (iI (mp : Int)), .ref mt, .int (iI (me : Int))])), (mg, .inl (cB, 65536, .inl (iA (uZ fK2 (256 * kr + kc) (if a1 < 128 then a1 else a1 - 256))))), (mm, .inl (cS, 65536, .inl (iA fM))), (mx, .inl (cA, 4096, .inl (iA gX))), (my, .inl (cA, 4096, .inl (iA gY))), (mf, .inl (cA, 4096, .inl (iA gF))), (mt, .inl (cA, 4096, .inl (iA gT)))] := hD
                    refine lv_iinc (v := iI ((n2 + 1 : Nat) : Int)) (lv' := [(2, .int (iI ((n2 + 1 : Nat) : Int))), (4, .int (iI (kc : Int))), (3, .int (iI (kr : Int))), (0, .ref mo), (1, .int (iI a1))]) hx hb dM_flood_70 hl (k := 1) rfl (iI_inc _ 1 (by omega)) (by decide) rfl (fun ls hl => ?_)
                    refine lv_iinc (v := iI ((kc + 1 : Nat) : Int)) (lv' := [(4, .int (iI ((kc + 1 : Nat) : Int))), (2, .int (iI ((n2 + 1 : Nat) : Int))), (3, .int (iI (kr : Int))), (0, .ref mo), (1, .int (iI a1))]) hx hb dM_flood_73 hl (k := 1) rfl (iI_inc _ 1 (by omega)) (by decide) rfl (fun ls hl => ?_)
                    refine lv_goto (tgt := 28) hx hb dM_flood_76 (by decide) ?_
                    exact ih_lp28 (kc + 1) (n2 + 1) (uZ fK2 (256 * kr + kc) (if a1 < 128 then a1 else a1 - 256)) (by omega) (by rw [cnG_S ((mkF fM mv) kr) cs kc (by omega)] at k2; rw [if_pos hbb] at k2; omega) (paB_hit k3 (by omega) (by omega) hbb) (by omega) _ _ (hP.sub [0, 1, 2, 3, 4, 5, 6] rfl) (hD.sub [0, 1, 2, 3, 4, 5, 6] (by decide) rfl) hS _ (lv_sub hl [0, 1, 2, 3, 4] rfl)
                  · have hbb : mkF fM mv kr kc = false := (by rcases hzo with v | v; (exfalso; omega); (exact Bool.eq_false_iff.mpr v.2))
                    refine lv_goto (tgt := 73) hx hb dM_flood_54 (by decide) ?_
                    refine lv_iinc (v := iI ((kc + 1 : Nat) : Int)) (lv' := [(4, .int (iI ((kc + 1 : Nat) : Int))), (2, .int (iI (n2 : Int))), (3, .int (iI (kr : Int))), (0, .ref mo), (1, .int (iI a1))]) hx hb dM_flood_73 hl (k := 0) rfl (iI_inc _ 1 (by omega)) (by decide) rfl (fun ls hl => ?_)
                    refine lv_goto (tgt := 28) hx hb dM_flood_76 (by decide) ?_
                    exact ih_lp28 (kc + 1) n2 fK2 (by omega) (by rw [cnG_S ((mkF fM mv) kr) cs kc (by omega)] at k2; rw [if_neg (by rw [hbb]; exact Bool.false_ne_true)] at k2; omega) (paB_miss k3 (by omega) (by omega) hbb) (by omega) _ _ (hP.sub [0, 1, 2, 3, 4, 5, 6] rfl) (hD.sub [0, 1, 2, 3, 4, 5, 6] (by decide) rfl) hS _ (lv_sub hl [0, 1, 2, 3, 4] rfl)
            exact lp28 (cs - 0 + 1) 0 nn fK (by omega) (by rw [Nat.sub_zero]; omega) i3 (Nat.lt_succ_self _) _ _ (hP.sub [0, 1, 2, 3, 4, 5, 6] rfl) (hD.sub [0, 1, 2, 3, 4, 5, 6] (by decide) rfl) hS _ (lv_sub hl [0, 2, 1, 3, 4] rfl)
      exact lp17 (rs - 0 + 1) 0 0 fB (by omega) (by rw [Nat.sub_zero]; exact Nat.zero_add _) (paB_0 _ _ _ _) (Nat.lt_succ_self _) _ _ (hP.sub [0, 1, 2, 3, 4, 5, 6] rfl) (hD.sub [0, 1, 2, 3, 4, 5, 6] (by decide) rfl) hS _ (lv_sub hl [0, 1, 2, 3] rfl)
    · refine ii_iconst (n := (-1)) hx hb dM_flood_11 ?_
      rw [← hQ]
      exact wr_iret fB hx hb hr hlocks hAe (hP.sub [0, 1, 2, 3, 4, 5, 6] rfl) (hD.sub [0, 1, 2, 3, 4, 5, 6] (by decide) rfl) hS (Or.inl ⟨rfl, by omega, rfl⟩) dM_flood_12

def rm_m_fill : Room := { frames := 3, cells := 0, slots := 0, locals := 76 }
set_option maxHeartbeats 4000000 in
set_option maxRecDepth 100000 in
theorem m_fill (l : Launch) (D : va_G) (cA cB cS : ClassId) (mo : Nat) (cs : Nat) (rs : Nat) (mg : Nat) (mm : Nat) (mx : Nat) (my : Nat) (mf : Nat) (mt : Nat) (fB : Nat → Int) (fM : Nat → Int) (gX : Nat → Int) (gY : Nat → Int) (gF : Nat → Int) (gT : Nat → Int) (mv : Nat) (mp : Nat) (me : Nat) (a1 : Int) (a2 : Int) (h1 : i32 a1) (h3 : i32 a2) (h5 : mv < 14) (hm : mRng fM) (hc : 0 < cs ∧ cs ≤ 256) (hr_ : 0 < rs ∧ rs ≤ 256) (h2 : mp ≤ 4096) (hf : firM gF mp) (hp : ∀ i, i < mp → (-536870912 ≤ gX i ∧ gX i ≤ 536870912) ∧ (-536870912 ≤ gY i ∧ gY i ≤ 536870912)) (sz : Nat) : Met l yM_fill wM_fill rm_m_fill (pW [.ref mo, .int (iI a1), .int (iI a2)] D vwCl (vwTy cA cB cS) vwNw [(mo, .inr (4, [.int (iI (cs : Int)), .int (iI (rs : Int)), .ref mg, .ref mm, .int (iI (mv : Int)), .ref mx, .ref my, .ref mf, .int (iI (mp : Int)), .ref mt, .int (iI (me : Int))])), (mg, .inl (cB, 65536, .inl (iA fB))), (mm, .inl (cS, 65536, .inl (iA fM))), (mx, .inl (cA, 4096, .inl (iA gX))), (my, .inl (cA, 4096, .inl (iA gY))), (mf, .inl (cA, 4096, .inl (iA gF))), (mt, .inl (cA, 4096, .inl (iA gT)))] sz) (qW (S := (Nat → Int) × (Nat → Int) × Nat) (fun (z : Int) (u : (Nat → Int) × (Nat → Int) × Nat) => (z = -1 ∧ ¬ ((a1 = 0 ∨ a1 = 1) ∧ 0 ≤ a2 ∧ a2 ≤ 255) ∧ u.1 = fB) ∨ (((a1 = 0 ∨ a1 = 1) ∧ 0 ≤ a2 ∧ a2 ≤ 255) ∧ z = ((lenS (canP (gM fM gX gY gF mp mv a1) cs rs 0) : Nat) : Int) ∧ ∀ r k, r < rs → k < cs → ((gM fM gX gY gF mp mv a1) r k = true → u.1 (256 * r + k) = (if a2 < 128 then a2 else a2 - 256)) ∧ ((gM fM gX gY gF mp mv a1) r k = false → u.1 (256 * r + k) = fB (256 * r + k)))) D vwCl [(mo, .inr (4, [.int (iI (cs : Int)), .int (iI (rs : Int)), .ref mg, .ref mm, .int (iI (mv : Int)), .ref mx, .ref my, .ref mf, .int (iI (mp : Int)), .ref mt, .int (iI (me : Int))])), (mg, .inl (cB, 65536, .inl (iA fB))), (mm, .inl (cS, 65536, .inl (iA fM))), (mx, .inl (cA, 4096, .inl (iA gX))), (my, .inl (cA, 4096, .inl (iA gY))), (mf, .inl (cA, 4096, .inl (iA gF))), (mt, .inl (cA, 4096, .inl (iA gT)))] sz (fun u : (Nat → Int) × (Nat → Int) × Nat => [(mo, .inr (4, [.int (iI (cs : Int)), .int (iI (rs : Int)), .ref mg, .ref mm, .int (iI (mv : Int)), .ref mx, .ref my, .ref mf, .int (iI (mp : Int)), .ref mt, .int (iI ((u.2.2 : Nat) : Int))])), (mg, .inl (cB, 65536, .inl (iA u.1))), (mm, .inl (cS, 65536, .inl (iA fM))), (mx, .inl (cA, 4096, .inl (iA gX))), (my, .inl (cA, 4096, .inl (iA gY))), (mf, .inl (cA, 4096, .inl (iA gF))), (mt, .inl (cA, 4096, .inl (iA u.2.1)))])) 0 0 (va_A [(mo, .inr (4, [.int (iI (cs : Int)), .int (iI (rs : Int)), .ref mg, .ref mm, .int (iI (mv : Int)), .ref mx, .ref my, .ref mf, .int (iI (mp : Int)), .ref mt, .int (iI (me : Int))])), (mg, .inl (cB, 65536, .inl (iA fB))), (mm, .inl (cS, 65536, .inl (iA fM))), (mx, .inl (cA, 4096, .inl (iA gX))), (my, .inl (cA, 4096, .inl (iA gY))), (mf, .inl (cA, 4096, .inl (iA gF))), (mt, .inl (cA, 4096, .inl (iA gT)))] sz) := by
  refine Met.ofW (cc := bM_fill) (maxL := 6) (ret := (some .int)) (by decide +kernel) rfl ?_
  intro p e s m args below meth c s₁ B hml hv
  obtain ⟨rfl, hsz, hP, hKW, hD0⟩ := hv
  have hK := hKW.1
  have hN := hKW.2.2
  have hx := B.exec
  have hb := B.bytes
  have hr := B.returns
  have hts := atoms_spec (ws := wM_fill) B.pre
  have hown : s.vm.findClass "WindingRasterModel" = some m.cls := findClass_of_methodNamed B.named
  have hlocks := B.notSynchronized
  subst hsz
  have hD := hD0.self (sz := s.heap.size)
  obtain ⟨A, hAe⟩ : ∃ A, va_A [(mo, .inr (4, [.int (iI (cs : Int)), .int (iI (rs : Int)), .ref mg, .ref mm, .int (iI (mv : Int)), .ref mx, .ref my, .ref mf, .int (iI (mp : Int)), .ref mt, .int (iI (me : Int))])), (mg, .inl (cB, 65536, .inl (iA fB))), (mm, .inl (cS, 65536, .inl (iA fM))), (mx, .inl (cA, 4096, .inl (iA gX))), (my, .inl (cA, 4096, .inl (iA gY))), (mf, .inl (cA, 4096, .inl (iA gF))), (mt, .inl (cA, 4096, .inl (iA gT)))] s.heap.size = A := ⟨_, rfl⟩
  rw [hAe] at hD
  have hA : ∀ q : Nat, s.heap.size ≤ q → A q := fun q h => by rw [← hAe]; exact Or.inr h
  have hS : va_S A s.heap s.heap [] := va_S.rf
  have hP : va_P D vwCl [(mo, .inr (4, [.int (iI (cs : Int)), .int (iI (rs : Int)), .ref mg, .ref mm, .int (iI (mv : Int)), .ref mx, .ref my, .ref mf, .int (iI (mp : Int)), .ref mt, .int (iI (me : Int))])), (mg, .inl (cB, 65536, .inl (iA fB))), (mm, .inl (cS, 65536, .inl (iA fM))), (mx, .inl (cA, 4096, .inl (iA gX))), (my, .inl (cA, 4096, .inl (iA gY))), (mf, .inl (cA, 4096, .inl (iA gF))), (mt, .inl (cA, 4096, .inl (iA gT)))] s.heap := hP
  have in_4 : ∀ w ∈ wsM, w ∈ wM_fill := fun w h => List.mem_cons_of_mem _ (in0_M w h)
  have fl_39 := (hts _ (List.mem_cons_of_mem _ vm_262))
  have fl_35 := (hts _ (List.mem_cons_of_mem _ vm_261))
  have fl_96 := (hts _ (List.mem_cons_of_mem _ vm_265))
  have fl_8 := (hts _ (List.mem_cons_of_mem _ vm_263))
  have hl := lv_entry ([.ref mo, .int (iI a1), .int (iI a2)]) (n := 6) (Nat.le_of_ble_eq_true rfl)
  rw [lg_entry_eq]
  generalize (lg_sl ([.ref mo, .int (iI a1), .int (iI a2)]) ++ List.replicate (6 - (lg_sl ([.ref mo, .int (iI a1), .int (iI a2)])).length) Slot.unset).toArray = ls at hl ⊢
  have hl : lv_has ls 6 [(0, .ref mo), (1, .int (iI a1)), (2, .int (iI a2))] := hl
  generalize hQ : MQ below (qW (S := (Nat → Int) × (Nat → Int) × Nat) (fun (z : Int) (u : (Nat → Int) × (Nat → Int) × Nat) => (z = -1 ∧ ¬ ((a1 = 0 ∨ a1 = 1) ∧ 0 ≤ a2 ∧ a2 ≤ 255) ∧ u.1 = fB) ∨ (((a1 = 0 ∨ a1 = 1) ∧ 0 ≤ a2 ∧ a2 ≤ 255) ∧ z = ((lenS (canP (gM fM gX gY gF mp mv a1) cs rs 0) : Nat) : Int) ∧ ∀ r k, r < rs → k < cs → ((gM fM gX gY gF mp mv a1) r k = true → u.1 (256 * r + k) = (if a2 < 128 then a2 else a2 - 256)) ∧ ((gM fM gX gY gF mp mv a1) r k = false → u.1 (256 * r + k) = fB (256 * r + k)))) D vwCl [(mo, .inr (4, [.int (iI (cs : Int)), .int (iI (rs : Int)), .ref mg, .ref mm, .int (iI (mv : Int)), .ref mx, .ref my, .ref mf, .int (iI (mp : Int)), .ref mt, .int (iI (me : Int))])), (mg, .inl (cB, 65536, .inl (iA fB))), (mm, .inl (cS, 65536, .inl (iA fM))), (mx, .inl (cA, 4096, .inl (iA gX))), (my, .inl (cA, 4096, .inl (iA gY))), (mf, .inl (cA, 4096, .inl (iA gF))), (mt, .inl (cA, 4096, .inl (iA gT)))] s.heap.size (fun u : (Nat → Int) × (Nat → Int) × Nat => [(mo, .inr (4, [.int (iI (cs : Int)), .int (iI (rs : Int)), .ref mg, .ref mm, .int (iI (mv : Int)), .ref mx, .ref my, .ref mf, .int (iI (mp : Int)), .ref mt, .int (iI ((u.2.2 : Nat) : Int))])), (mg, .inl (cB, 65536, .inl (iA u.1))), (mm, .inl (cS, 65536, .inl (iA fM))), (mx, .inl (cA, 4096, .inl (iA gX))), (my, .inl (cA, 4096, .inl (iA gY))), (mf, .inl (cA, 4096, .inl (iA gF))), (mt, .inl (cA, 4096, .inl (iA u.2.1)))])) [.ref mo, .int (iI a1), .int (iI a2)].toArray s 0 0 (va_A [(mo, .inr (4, [.int (iI (cs : Int)), .int (iI (rs : Int)), .ref mg, .ref mm, .int (iI (mv : Int)), .ref mx, .ref my, .ref mf, .int (iI (mp : Int)), .ref mt, .int (iI (me : Int))])), (mg, .inl (cB, 65536, .inl (iA fB))), (mm, .inl (cS, 65536, .inl (iA fM))), (mx, .inl (cA, 4096, .inl (iA gX))), (my, .inl (cA, 4096, .inl (iA gY))), (mf, .inl (cA, 4096, .inl (iA gF))), (mt, .inl (cA, 4096, .inl (iA gT)))] s.heap.size) = QQ
  refine lv_iload_n hx hb dM_fill_0 rfl (lv_at hl 1 rfl) ?_
  refine ii_if_lt (tgt := 20) hx hb dM_fill_1 (by decide) (by omega) (fun c1 => ?_) (fun c1 => ?_)
  · refine ii_iconst (n := (-1)) hx hb dM_fill_20 ?_
    rw [← hQ]
    exact wr_iret (fB, gT, me) hx hb hr hlocks hAe (hP.sub [0, 1, 2, 3, 4, 5, 6] rfl) (hD.sub [0, 1, 2, 3, 4, 5, 6] (by decide) rfl) hS (Or.inl ⟨rfl, by omega, rfl⟩) dM_fill_21
  · refine lv_iload_n hx hb dM_fill_4 rfl (lv_at hl 1 rfl) ?_
    refine ii_iconst (n := 1) hx hb dM_fill_5 ?_
    refine ii_icmp_gt (tgt := 20) hx hb dM_fill_6 (by decide) (by omega) (by omega) (fun c6 => ?_) (fun c6 => ?_)
    · refine ii_iconst (n := (-1)) hx hb dM_fill_20 ?_
      rw [← hQ]
      exact wr_iret (fB, gT, me) hx hb hr hlocks hAe (hP.sub [0, 1, 2, 3, 4, 5, 6] rfl) (hD.sub [0, 1, 2, 3, 4, 5, 6] (by decide) rfl) hS (Or.inl ⟨rfl, by omega, rfl⟩) dM_fill_21
    · refine lv_iload_n hx hb dM_fill_9 rfl (lv_at hl 2 rfl) ?_
      refine ii_if_lt (tgt := 20) hx hb dM_fill_10 (by decide) (by omega) (fun c10 => ?_) (fun c10 => ?_)
      · refine ii_iconst (n := (-1)) hx hb dM_fill_20 ?_
        rw [← hQ]
        exact wr_iret (fB, gT, me) hx hb hr hlocks hAe (hP.sub [0, 1, 2, 3, 4, 5, 6] rfl) (hD.sub [0, 1, 2, 3, 4, 5, 6] (by decide) rfl) hS (Or.inl ⟨rfl, by omega, rfl⟩) dM_fill_21
      · refine lv_iload_n hx hb dM_fill_13 rfl (lv_at hl 2 rfl) ?_
        refine ii_sipush (n := 255) hx hb dM_fill_14 (by decide +kernel) ?_
        refine ii_icmp_le (tgt := 22) hx hb dM_fill_17 (by decide) (by omega) (by omega) (fun c17 => ?_) (fun c17 => ?_)
        · refine ii_iconst (n := 0) hx hb dM_fill_22 ?_
          refine lv_istore_n (lv' := [(3, .int (iI 0)), (0, .ref mo), (1, .int (iI a1)), (2, .int (iI a2))]) hx hb dM_fill_23 rfl hl (by decide) rfl (fun ls hl => ?_)
          refine ii_iconst (n := 0) hx hb dM_fill_24 ?_
          refine lv_istore (lv' := [(4, .int (iI 0)), (3, .int (iI 0)), (0, .ref mo), (1, .int (iI a1)), (2, .int (iI a2))]) hx hb dM_fill_25 hl (by decide) rfl (fun ls hl => ?_)
          have lp27 : ∀ (n_ : Nat) (kr : Nat) (nn : Nat) (fK : Nat → Int) (gU : Nat → Int) (mu : Nat), (kr ≤ rs) → (nn + lenS (canP (gM fM gX gY gF mp mv a1) cs (rs - kr) kr) = lenS (canP (gM fM gX gY gF mp mv a1) cs rs 0)) → (paB (gM fM gX gY gF mp mv a1) cs kr 0 (if a2 < 128 then a2 else a2 - 256) fB fK) → (rs - kr) < n_ → ∀ (H : Heap) (locs : List Loc), va_P D vwCl [(mo, .inr (4, [.int (iI (cs : Int)), .int (iI (rs : Int)), .ref mg, .ref mm, .int (iI (mv : Int)), .ref mx, .ref my, .ref mf, .int (iI (mp : Int)), .ref mt, .int (iI (mu : Int))])), (mg, .inl (cB, 65536, .inl (iA fK))), (mm, .inl (cS, 65536, .inl (iA fM))), (mx, .inl (cA, 4096, .inl (iA gX))), (my, .inl (cA, 4096, .inl (iA gY))), (mf, .inl (cA, 4096, .inl (iA gF))), (mt, .inl (cA, 4096, .inl (iA gU)))] H → va_D A [(mo, .inr (4, [.int (iI (cs : Int)), .int (iI (rs : Int)), .ref mg, .ref mm, .int (iI (mv : Int)), .ref mx, .ref my, .ref mf, .int (iI (mp : Int)), .ref mt, .int (iI (mu : Int))])), (mg, .inl (cB, 65536, .inl (iA fK))), (mm, .inl (cS, 65536, .inl (iA fM))), (mx, .inl (cA, 4096, .inl (iA gX))), (my, .inl (cA, 4096, .inl (iA gY))), (mf, .inl (cA, 4096, .inl (iA gF))), (mt, .inl (cA, 4096, .inl (iA gU)))] → va_S A s.heap H locs → ∀ ls : Array Slot, lv_has ls 6 [(4, .int (iI (kr : Int))), (3, .int (iI (nn : Int))), (0, .ref mo), (1, .int (iI a1)), (2, .int (iI a2))] → W p l e (headSpec wM_fill rm_m_fill).room s m [.ref mo, .int (iI a1), .int (iI a2)].toArray below meth c H locs 0 0 QQ (F0 m 27 ls []) := by
            intro n_
            induction n_ with
            | zero =>
              intro kr nn fK gU mu i1 i2 i3 hm_
              exact absurd hm_ (Nat.not_lt_zero _)
            | succ n_ ih_lp27 =>
              intro kr nn fK gU mu i1 i2 i3 hm_lp27 H locs hP hD hS ls hl
              refine lv_iload hx hb dM_fill_27 (lv_at hl 0 rfl) ?_
              refine lv_aload_n hx hb dM_fill_29 rfl (lv_at hl 2 rfl) ?_
              refine va_get (ci := 4) (v := .int (iI (rs : Int))) (C := "WindingRasterModel") (T := TM) (N := 11) hx hb hts in_4 hown hK hP 0 rfl rfl 1 (by decide) fl_39 (fun _ h9 => h9) rfl dM_fill_30 ?_
              refine ii_icmp_ge (tgt := 119) hx hb dM_fill_33 (by decide) (by omega) (by omega) (fun c33 => ?_) (fun c33 => ?_)
              · refine lv_iload_n hx hb dM_fill_119 rfl (lv_at hl 1 rfl) ?_
                rw [← hQ]
                exact wr_iret (fK, gU, mu) hx hb hr hlocks hAe (hP.sub [0, 1, 2, 3, 4, 5, 6] rfl) (hD.sub [0, 1, 2, 3, 4, 5, 6] (by decide) rfl) hS (Or.inr ⟨by omega, by rw [show rs - kr = 0 by omega, canP_0] at i2; have e0 : lenS [] = 0 := rfl; omega, fun r k w1 w2 => by rw [show kr = rs by omega] at i3; exact paB_end i3 (by omega) w1 w2⟩) dM_fill_120
              · rw [canP_lenSR (gM fM gX gY gF mp mv a1) cs rs kr (by omega)] at i2
                refine lv_aload_n hx hb dM_fill_36 rfl (lv_at hl 2 rfl) ?_
                refine lv_iload hx hb dM_fill_37 (lv_at hl 0 rfl) ?_
                refine cw_v (wc := [(mo, .inr (4, [.int (iI (cs : Int)), .int (iI (rs : Int)), .ref mg, .ref mm, .int (iI (mv : Int)), .ref mx, .ref my, .ref mf, .int (iI (mp : Int)), .ref mt, .int (iI (mu : Int))])), (mg, .inl (cB, 65536, .inl (iA fK))), (mm, .inl (cS, 65536, .inl (iA fM))), (mx, .inl (cA, 4096, .inl (iA gX))), (my, .inl (cA, 4096, .inl (iA gY))), (mf, .inl (cA, 4096, .inl (iA gF))), (mt, .inl (cA, 4096, .inl (iA gU)))]) (wr := []) hP hD hS hA [0, 1, 2, 3, 4, 5, 6] [] rfl rfl (by decide) (by decide) (va_runV (As := [.int (iI (kr : Int))]) (rest := []) ⟨hx, hb, hml, hown, hts⟩ (m_meet l D cA cB cS mo cs rs mg mm mx my mf mt fK fM gX gY gF gU mv mp mu kr (by omega) hf hp (by omega) _) ⟨(callB_of 1 hts (gIn vm_322) rfl rfl rfl (hts _ (List.mem_cons_of_mem _ vm_8)) (hts _ (List.mem_cons_of_mem _ vm_320)) (by decide +kernel) ⟨Nat.le_of_ble_eq_true rfl, Nat.le_of_ble_eq_true rfl⟩), (hts _ (List.mem_cons_of_mem _ vm_321)), (hts _ (List.mem_cons_of_mem _ vm_423))⟩ (pW.preV (va_recv hK hP (ci := 4) (q0 := 0) rfl rfl) (hP.sub [0, 1, 2, 3, 4, 5, 6] rfl) (hD.sub [0, 1, 2, 3, 4, 5, 6] (by decide) rfl) hKW) rfl rfl hl.1 rfl (lv_room (Nat.le_of_ble_eq_true rfl)) dM_fill_39 ⟨Nat.le_of_ble_eq_true rfl, Nat.le_of_ble_eq_true rfl⟩) (fun u_1 H locs hzm hP hD hS => ?_)
                obtain ⟨gU1, mu1⟩ := u_1
                try dsimp only at hzm
                have hP : va_P D vwCl [(mo, .inr (4, [.int (iI (cs : Int)), .int (iI (rs : Int)), .ref mg, .ref mm, .int (iI (mv : Int)), .ref mx, .ref my, .ref mf, .int (iI (mp : Int)), .ref mt, .int (iI (mu1 : Int))])), (mg, .inl (cB, 65536, .inl (iA fK))), (mm, .inl (cS, 65536, .inl (iA fM))), (mx, .inl (cA, 4096, .inl (iA gX))), (my, .inl (cA, 4096, .inl (iA gY))), (mf, .inl (cA, 4096, .inl (iA gF))), (mt, .inl (cA, 4096, .inl (iA gU1)))] H := hP
                have hD : va_D A [(mo, .inr (4, [.int (iI (cs : Int)), .int (iI (rs : Int)), .ref mg, .ref mm, .int (iI (mv : Int)), .ref mx, .ref my, .ref mf, .int (iI (mp : Int)), .ref mt, .int (iI (mu1 : Int))])), (mg, .inl (cB, 65536, .inl (iA fK))), (mm, .inl (cS, 65536, .inl (iA fM))), (mx, .inl (cA, 4096, .inl (iA gX))), (my, .inl (cA, 4096, .inl (iA gY))), (mf, .inl (cA, 4096, .inl (iA gF))), (mt, .inl (cA, 4096, .inl (iA gU1)))] := hD
                refine ii_iconst (n := 0) hx hb dM_fill_42 ?_
                refine lv_istore (lv' := [(5, .int (iI 0)), (4, .int (iI (kr : Int))), (3, .int (iI (nn : Int))), (0, .ref mo), (1, .int (iI a1)), (2, .int (iI a2))]) hx hb dM_fill_43 hl (by decide) rfl (fun ls hl => ?_)
                have lp45 : ∀ (n_ : Nat) (kc : Nat) (n2 : Nat) (fK2 : Nat → Int), (kc ≤ cs) → (n2 + cnG ((gM fM gX gY gF mp mv a1) kr) (cs - kc) kc + lenS (canP (gM fM gX gY gF mp mv a1) cs (rs - (kr + 1)) (kr + 1)) = lenS (canP (gM fM gX gY gF mp mv a1) cs rs 0)) → (paB (gM fM gX gY gF mp mv a1) cs kr kc (if a2 < 128 then a2 else a2 - 256) fB fK2) → (cs - kc) < n_ → ∀ (H : Heap) (locs : List Loc), va_P D vwCl [(mo, .inr (4, [.int (iI (cs : Int)), .int (iI (rs : Int)), .ref mg, .ref mm, .int (iI (mv : Int)), .ref mx, .ref my, .ref mf, .int (iI (mp : Int)), .ref mt, .int (iI (mu1 : Int))])), (mg, .inl (cB, 65536, .inl (iA fK2))), (mm, .inl (cS, 65536, .inl (iA fM))), (mx, .inl (cA, 4096, .inl (iA gX))), (my, .inl (cA, 4096, .inl (iA gY))), (mf, .inl (cA, 4096, .inl (iA gF))), (mt, .inl (cA, 4096, .inl (iA gU1)))] H → va_D A [(mo, .inr (4, [.int (iI (cs : Int)), .int (iI (rs : Int)), .ref mg, .ref mm, .int (iI (mv : Int)), .ref mx, .ref my, .ref mf, .int (iI (mp : Int)), .ref mt, .int (iI (mu1 : Int))])), (mg, .inl (cB, 65536, .inl (iA fK2))), (mm, .inl (cS, 65536, .inl (iA fM))), (mx, .inl (cA, 4096, .inl (iA gX))), (my, .inl (cA, 4096, .inl (iA gY))), (mf, .inl (cA, 4096, .inl (iA gF))), (mt, .inl (cA, 4096, .inl (iA gU1)))] → va_S A s.heap H locs → ∀ ls : Array Slot, lv_has ls 6 [(5, .int (iI (kc : Int))), (3, .int (iI (n2 : Int))), (4, .int (iI (kr : Int))), (0, .ref mo), (1, .int (iI a1)), (2, .int (iI a2))] → W p l e (headSpec wM_fill rm_m_fill).room s m [.ref mo, .int (iI a1), .int (iI a2)].toArray below meth c H locs 0 0 QQ (F0 m 45 ls []) := by
                  intro n_
                  induction n_ with
                  | zero =>
                    intro kc n2 fK2 k1 k2 k3 hm_
                    exact absurd hm_ (Nat.not_lt_zero _)
                  | succ n_ ih_lp45 =>
                    intro kc n2 fK2 k1 k2 k3 hm_lp45 H locs hP hD hS ls hl
                    refine lv_iload hx hb dM_fill_45 (lv_at hl 0 rfl) ?_
                    refine lv_aload_n hx hb dM_fill_47 rfl (lv_at hl 3 rfl) ?_
                    refine va_get (ci := 4) (v := .int (iI (cs : Int))) (C := "WindingRasterModel") (T := TM) (N := 11) hx hb hts in_4 hown hK hP 0 rfl rfl 0 (by decide) fl_35 (fun _ h9 => h9) rfl dM_fill_48 ?_
                    refine ii_icmp_ge (tgt := 113) hx hb dM_fill_51 (by decide) (by omega) (by omega) (fun c51 => ?_) (fun c51 => ?_)
                    · refine lv_iinc (v := iI ((kr + 1 : Nat) : Int)) (lv' := [(4, .int (iI ((kr + 1 : Nat) : Int))), (5, .int (iI (kc : Int))), (3, .int (iI (n2 : Int))), (0, .ref mo), (1, .int (iI a1)), (2, .int (iI a2))]) hx hb dM_fill_113 hl (k := 2) rfl (iI_inc _ 1 (by omega)) (by decide) rfl (fun ls hl => ?_)
                      refine lv_goto (tgt := 27) hx hb dM_fill_116 (by decide) ?_
                      exact ih_lp27 (kr + 1) n2 fK2 gU1 mu1 (by omega) (by rw [show cs - kc = 0 by omega, cn_0] at k2; omega) (paB_row k3 (by omega)) (by omega) _ _ (hP.sub [0, 1, 2, 3, 4, 5, 6] rfl) (hD.sub [0, 1, 2, 3, 4, 5, 6] (by decide) rfl) hS _ (lv_sub hl [0, 2, 3, 4, 5] rfl)
                    · refine lv_aload_n hx hb dM_fill_54 rfl (lv_at hl 3 rfl) ?_
                      refine lv_iload hx hb dM_fill_55 (lv_at hl 0 rfl) ?_
                      refine lv_iload hx hb dM_fill_57 (lv_at hl 2 rfl) ?_
                      refine cs_i (va_runS (As := [.int (iI (kc : Int)), .int (iI (kr : Int))]) (rest := [.ref mo]) ⟨hx, hb, hml, hown, hts⟩ (m_at l D cA cB cS kc kr) ⟨(callB_of 2 hts (gIn vm_343) rfl rfl rfl (hts _ (List.mem_cons_of_mem _ vm_8)) (hts _ (List.mem_cons_of_mem _ vm_341)) (by decide +kernel) ⟨Nat.le_of_ble_eq_true rfl, Nat.le_of_ble_eq_true rfl⟩), (hts _ (List.mem_cons_of_mem _ vm_342))⟩ (pR.pre (hP.sub [] rfl) hKW) rfl rfl hl.1 rfl (lv_room (Nat.le_of_ble_eq_true rfl)) dM_fill_59 ⟨Nat.le_of_ble_eq_true rfl, Nat.le_of_ble_eq_true rfl⟩) (fun z_2 hz_2 => ?_)
                      subst hz_2
                      refine lv_aload_n hx hb dM_fill_62 rfl (lv_at hl 3 rfl) ?_
                      refine va_get (ci := 4) (v := .int (iI (mv : Int))) (C := "WindingRasterModel") (T := TM) (N := 11) hx hb hts in_4 hown hK hP 0 rfl rfl 4 (by decide) fl_96 (fun _ h9 => h9) rfl dM_fill_63 ?_
                      refine cs_i (va_runV (As := [.int (iI ((256 * kr + kc : Nat) : Int)), .int (iI (mv : Int))]) (rest := []) ⟨hx, hb, hml, hown, hts⟩ (m_isOpen l D cA cB cS mo cs rs mg mm mx my mf mt fK2 fM gX gY gF gU1 mv mp mu1 (256 * kr + kc) mv (by omega) (by omega) hm) ⟨(callB_of 2 hts (gIn vm_346) rfl rfl rfl (hts _ (List.mem_cons_of_mem _ vm_8)) (hts _ (List.mem_cons_of_mem _ vm_344)) (by decide +kernel) ⟨Nat.le_of_ble_eq_true rfl, Nat.le_of_ble_eq_true rfl⟩), (hts _ (List.mem_cons_of_mem _ vm_345)), (hts _ (List.mem_cons_of_mem _ vm_427))⟩ (pR.preV (va_recv hK hP (ci := 4) (q0 := 0) rfl rfl) (hP.sub [0, 1, 2, 3, 4, 5, 6] rfl) hKW) rfl rfl hl.1 rfl (lv_room (Nat.le_of_ble_eq_true rfl)) dM_fill_66 ⟨Nat.le_of_ble_eq_true rfl, Nat.le_of_ble_eq_true rfl⟩) (fun zo hzo => ?_)
                      refine ii_if_eq (tgt := 107) hx hb dM_fill_69 (by decide) (by omega) (fun c69 => ?_) (fun c69 => ?_)
                      · have hoo : mkF fM mv kr kc = false := (by rcases hzo with v | v; (exfalso; omega); (exact Bool.eq_false_iff.mpr v.2))
                        have hbb : (gM fM gX gY gF mp mv a1) kr kc = false := by show (mkF fM mv kr kc && _) = false; rw [hoo, Bool.false_and]
                        refine lv_iinc (v := iI ((kc + 1 : Nat) : Int)) (lv' := [(5, .int (iI ((kc + 1 : Nat) : Int))), (3, .int (iI (n2 : Int))), (4, .int (iI (kr : Int))), (0, .ref mo), (1, .int (iI a1)), (2, .int (iI a2))]) hx hb dM_fill_107 hl (k := 0) rfl (iI_inc _ 1 (by omega)) (by decide) rfl (fun ls hl => ?_)
                        refine lv_goto (tgt := 45) hx hb dM_fill_110 (by decide) ?_
                        exact ih_lp45 (kc + 1) n2 fK2 (by omega) (by rw [cnG_S ((gM fM gX gY gF mp mv a1) kr) cs kc (by omega)] at k2; rw [if_neg (by rw [hbb]; exact Bool.false_ne_true)] at k2; omega) (paB_miss k3 (by omega) (by omega) hbb) (by omega) _ _ (hP.sub [0, 1, 2, 3, 4, 5, 6] rfl) (hD.sub [0, 1, 2, 3, 4, 5, 6] (by decide) rfl) hS _ (lv_sub hl [0, 1, 2, 3, 4, 5] rfl)
                      · have hoo : mkF fM mv kr kc = true := (by rcases hzo with v | v; (exact v.2); (exfalso; omega))
                        have hw0 := wiZ_rng gX gY (nxZ gF mp) ((kr * 65536 + 32768 : Nat) : Int) (kc : Int) mp
                        have hi0 := insB_iff a1 (wiZ gX gY (nxZ gF mp) mp ((kr * 65536 + 32768 : Nat) : Int) (kc : Int))
                        refine lv_aload_n hx hb dM_fill_72 rfl (lv_at hl 3 rfl) ?_
                        refine lv_iload hx hb dM_fill_73 (lv_at hl 0 rfl) ?_
                        refine lv_iload hx hb dM_fill_75 (lv_at hl 2 rfl) ?_
                        refine cs_i (va_runV (As := [.int (iI (kc : Int)), .int (iI (kr : Int))]) (rest := []) ⟨hx, hb, hml, hown, hts⟩ (m_windings l D cA cB cS mo cs rs mg mm mx my mf mt fK2 fM gX gY gF gU1 mv mp mu1 kc kr (by omega) hf hp (by omega) (by omega) hzm) ⟨(callB_of 2 hts (gIn vm_333) rfl rfl rfl (hts _ (List.mem_cons_of_mem _ vm_8)) (hts _ (List.mem_cons_of_mem _ vm_331)) (by decide +kernel) ⟨Nat.le_of_ble_eq_true rfl, Nat.le_of_ble_eq_true rfl⟩), (hts _ (List.mem_cons_of_mem _ vm_332)), (hts _ (List.mem_cons_of_mem _ vm_425))⟩ (pR.preV (va_recv hK hP (ci := 4) (q0 := 0) rfl rfl) (hP.sub [0, 1, 2, 3, 4, 5, 6] rfl) hKW) rfl rfl hl.1 rfl (lv_room (Nat.le_of_ble_eq_true rfl)) dM_fill_77 ⟨Nat.le_of_ble_eq_true rfl, Nat.le_of_ble_eq_true rfl⟩) (fun z_3 hz_3 => ?_)
                        subst hz_3
                        refine lv_iload_n hx hb dM_fill_80 rfl (lv_at hl 4 rfl) ?_
                        refine cs_i (va_runS (As := [.int (iI (wiZ gX gY (nxZ gF mp) mp ((kr * 65536 + 32768 : Nat) : Int) (kc : Int))), .int (iI a1)]) (rest := []) ⟨hx, hb, hml, hown, hts⟩ (m_isInside l D cA cB cS (wiZ gX gY (nxZ gF mp) mp ((kr * 65536 + 32768 : Nat) : Int) (kc : Int)) a1 (by omega) (by omega)) ⟨(callB_of 2 hts (gIn vm_349) rfl rfl rfl (hts _ (List.mem_cons_of_mem _ vm_8)) (hts _ (List.mem_cons_of_mem _ vm_347)) (by decide +kernel) ⟨Nat.le_of_ble_eq_true rfl, Nat.le_of_ble_eq_true rfl⟩), (hts _ (List.mem_cons_of_mem _ vm_348))⟩ (pR.pre (hP.sub [] rfl) hKW) rfl rfl hl.1 rfl (lv_room (Nat.le_of_ble_eq_true rfl)) dM_fill_81 ⟨Nat.le_of_ble_eq_true rfl, Nat.le_of_ble_eq_true rfl⟩) (fun zi hzi => ?_)
                        refine ii_if_ne (tgt := 90) hx hb dM_fill_84 (by decide) (by omega) (fun c84 => ?_) (fun c84 => ?_)
                        · have hbb : (gM fM gX gY gF mp mv a1) kr kc = true := by show (mkF fM mv kr kc && insB a1 _) = true; rw [hoo, Bool.true_and]; exact hi0.mpr (by rcases hzi with v | v; (exact v.2); (exfalso; omega))
                          refine lv_aload_n hx hb dM_fill_90 rfl (lv_at hl 3 rfl) ?_
                          refine va_get (ci := 4) (v := .ref mg) (C := "WindingRasterModel") (T := TM) (N := 11) hx hb hts in_4 hown hK hP 0 rfl rfl 2 (by decide) fl_8 (fun _ h9 => h9) rfl dM_fill_91 ?_
                          refine lv_iload hx hb dM_fill_94 (lv_at hl 0 rfl) ?_
                          refine lv_iload hx hb dM_fill_96 (lv_at hl 2 rfl) ?_
                          refine cs_i (va_runS (As := [.int (iI (kc : Int)), .int (iI (kr : Int))]) (rest := [.ref mg]) ⟨hx, hb, hml, hown, hts⟩ (m_at l D cA cB cS kc kr) ⟨(callB_of 2 hts (gIn vm_343) rfl rfl rfl (hts _ (List.mem_cons_of_mem _ vm_8)) (hts _ (List.mem_cons_of_mem _ vm_341)) (by decide +kernel) ⟨Nat.le_of_ble_eq_true rfl, Nat.le_of_ble_eq_true rfl⟩), (hts _ (List.mem_cons_of_mem _ vm_342))⟩ (pR.pre (hP.sub [] rfl) hKW) rfl rfl hl.1 rfl (lv_room (Nat.le_of_ble_eq_true rfl)) dM_fill_98 ⟨Nat.le_of_ble_eq_true rfl, Nat.le_of_ble_eq_true rfl⟩) (fun z_4 hz_4 => ?_)
                          subst hz_4
                          refine lv_iload_n hx hb dM_fill_101 rfl (lv_at hl 5 rfl) ?_
                          refine ii_i2b (z := (if a2 < 128 then a2 else a2 - 256)) hx hb dM_fill_102 (iI_8b (by omega)) ?_
                          refine ii_bast hx hb hK hP hD hS 1 1 rfl rfl (256 * kr + kc) rfl (by omega) (by omega) (by split <;> omega) dM_fill_103 (fun H locs hP hD hS => ?_)
                          have hP : va_P D vwCl [(mo, .inr (4, [.int (iI (cs : Int)), .int (iI (rs : Int)), .ref mg, .ref mm, .int (iI (mv : Int)), .ref mx, .ref my, .ref mf, .int (iI (mp : Int)), .ref mt, .int (iI (mu1 : Int))])), (mg, .inl (cB, 65536, .inl (iA (uZ fK2 (256 * kr + kc) (if a2 < 128 then a2 else a2 - 256))))), (mm, .inl (cS, 65536, .inl (iA fM))), (mx, .inl (cA, 4096, .inl (iA gX))), (my, .inl (cA, 4096, .inl (iA gY))), (mf, .inl (cA, 4096, .inl (iA gF))), (mt, .inl (cA, 4096, .inl (iA gU1)))] H := hP
                          have hD : va_D A [(mo, .inr (4, [.int (iI (cs : Int)), .int (iI (rs : Int)), .ref mg, .ref mm, .int (iI (mv : Int)), .ref mx, .ref my, .ref mf, .int (iI (mp : Int)), .ref mt, .int (iI (mu1 : Int))])), (mg, .inl (cB, 65536, .inl (iA (uZ fK2 (256 * kr + kc) (if a2 < 128 then a2 else a2 - 256))))), (mm, .inl (cS, 65536, .inl (iA fM))), (mx, .inl (cA, 4096, .inl (iA gX))), (my, .inl (cA, 4096, .inl (iA gY))), (mf, .inl (cA, 4096, .inl (iA gF))), (mt, .inl (cA, 4096, .inl (iA gU1)))] := hD
                          refine lv_iinc (v := iI ((n2 + 1 : Nat) : Int)) (lv' := [(3, .int (iI ((n2 + 1 : Nat) : Int))), (5, .int (iI (kc : Int))), (4, .int (iI (kr : Int))), (0, .ref mo), (1, .int (iI a1)), (2, .int (iI a2))]) hx hb dM_fill_104 hl (k := 1) rfl (iI_inc _ 1 (by omega)) (by decide) rfl (fun ls hl => ?_)
                          refine lv_iinc (v := iI ((kc + 1 : Nat) : Int)) (lv' := [(5, .int (iI ((kc + 1 : Nat) : Int))), (3, .int (iI ((n2 + 1 : Nat) : Int))), (4, .int (iI (kr : Int))), (0, .ref mo), (1, .int (iI a1)), (2, .int (iI a2))]) hx hb dM_fill_107 hl (k := 1) rfl (iI_inc _ 1 (by omega)) (by decide) rfl (fun ls hl => ?_)
                          refine lv_goto (tgt := 45) hx hb dM_fill_110 (by decide) ?_
                          exact ih_lp45 (kc + 1) (n2 + 1) (uZ fK2 (256 * kr + kc) (if a2 < 128 then a2 else a2 - 256)) (by omega) (by rw [cnG_S ((gM fM gX gY gF mp mv a1) kr) cs kc (by omega)] at k2; rw [if_pos hbb] at k2; omega) (paB_hit k3 (by omega) (by omega) hbb) (by omega) _ _ (hP.sub [0, 1, 2, 3, 4, 5, 6] rfl) (hD.sub [0, 1, 2, 3, 4, 5, 6] (by decide) rfl) hS _ (lv_sub hl [0, 1, 2, 3, 4, 5] rfl)
                        · have hbb : (gM fM gX gY gF mp mv a1) kr kc = false := by show (mkF fM mv kr kc && insB a1 _) = false; rw [hoo, Bool.true_and]; exact Bool.eq_false_iff.mpr (fun w => by rcases hzi with v | v; (exfalso; omega); (exact v.2 (hi0.mp w)))
                          refine lv_goto (tgt := 107) hx hb dM_fill_87 (by decide) ?_
                          refine lv_iinc (v := iI ((kc + 1 : Nat) : Int)) (lv' := [(5, .int (iI ((kc + 1 : Nat) : Int))), (3, .int (iI (n2 : Int))), (4, .int (iI (kr : Int))), (0, .ref mo), (1, .int (iI a1)), (2, .int (iI a2))]) hx hb dM_fill_107 hl (k := 0) rfl (iI_inc _ 1 (by omega)) (by decide) rfl (fun ls hl => ?_)
                          refine lv_goto (tgt := 45) hx hb dM_fill_110 (by decide) ?_
                          exact ih_lp45 (kc + 1) n2 fK2 (by omega) (by rw [cnG_S ((gM fM gX gY gF mp mv a1) kr) cs kc (by omega)] at k2; rw [if_neg (by rw [hbb]; exact Bool.false_ne_true)] at k2; omega) (paB_miss k3 (by omega) (by omega) hbb) (by omega) _ _ (hP.sub [0, 1, 2, 3, 4, 5, 6] rfl) (hD.sub [0, 1, 2, 3, 4, 5, 6] (by decide) rfl) hS _ (lv_sub hl [0, 1, 2, 3, 4, 5] rfl)
                exact lp45 (cs - 0 + 1) 0 nn fK (by omega) (by rw [Nat.sub_zero]; omega) i3 (Nat.lt_succ_self _) _ _ (hP.sub [0, 1, 2, 3, 4, 5, 6] rfl) (hD.sub [0, 1, 2, 3, 4, 5, 6] (by decide) rfl) hS _ (lv_sub hl [0, 2, 1, 3, 4, 5] rfl)
          exact lp27 (rs - 0 + 1) 0 0 fB gT me (by omega) (by rw [Nat.sub_zero]; exact Nat.zero_add _) (paB_0 _ _ _ _) (Nat.lt_succ_self _) _ _ (hP.sub [0, 1, 2, 3, 4, 5, 6] rfl) (hD.sub [0, 1, 2, 3, 4, 5, 6] (by decide) rfl) hS _ (lv_sub hl [0, 1, 2, 3, 4] rfl)
        · refine ii_iconst (n := (-1)) hx hb dM_fill_20 ?_
          rw [← hQ]
          exact wr_iret (fB, gT, me) hx hb hr hlocks hAe (hP.sub [0, 1, 2, 3, 4, 5, 6] rfl) (hD.sub [0, 1, 2, 3, 4, 5, 6] (by decide) rfl) hS (Or.inl ⟨rfl, by omega, rfl⟩) dM_fill_21
