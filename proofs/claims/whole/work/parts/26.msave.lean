def rm_m_restore : Room := { frames := 0, cells := 0, slots := 0, locals := 0 }
set_option maxHeartbeats 4000000 in
set_option maxRecDepth 100000 in
theorem m_restore (l : Launch) (D : va_G) (cA cB cS : ClassId) (mo : Nat) (cs : Nat) (rs : Nat) (mg : Nat) (mm : Nat) (mx : Nat) (my : Nat) (mf : Nat) (mt : Nat) (fB : Nat → Int) (fM : Nat → Int) (gX : Nat → Int) (gY : Nat → Int) (gF : Nat → Int) (gT : Nat → Int) (mv : Nat) (mp : Nat) (me : Nat) (h1 : mv ≤ 12) (sz : Nat) : Met l yM_restore wM_restore rm_m_restore (pW [.ref mo] D vwCl (vwTy cA cB cS) vwNw [(mo, .inr (4, [.int (iI (cs : Int)), .int (iI (rs : Int)), .ref mg, .ref mm, .int (iI (mv : Int)), .ref mx, .ref my, .ref mf, .int (iI (mp : Int)), .ref mt, .int (iI (me : Int))])), (mg, .inl (cB, 65536, .inl (iA fB))), (mm, .inl (cS, 65536, .inl (iA fM))), (mx, .inl (cA, 4096, .inl (iA gX))), (my, .inl (cA, 4096, .inl (iA gY))), (mf, .inl (cA, 4096, .inl (iA gF))), (mt, .inl (cA, 4096, .inl (iA gT)))] sz) (qW (S := Nat) (fun (z : Int) (mv1 : Nat) => (z = -2 ∧ mv = 0 ∧ mv1 = mv) ∨ (z = ((mv - 1 : Nat) : Int) ∧ 0 < mv ∧ mv1 = mv - 1)) D vwCl [(mo, .inr (4, [.int (iI (cs : Int)), .int (iI (rs : Int)), .ref mg, .ref mm, .int (iI (mv : Int)), .ref mx, .ref my, .ref mf, .int (iI (mp : Int)), .ref mt, .int (iI (me : Int))])), (mg, .inl (cB, 65536, .inl (iA fB))), (mm, .inl (cS, 65536, .inl (iA fM))), (mx, .inl (cA, 4096, .inl (iA gX))), (my, .inl (cA, 4096, .inl (iA gY))), (mf, .inl (cA, 4096, .inl (iA gF))), (mt, .inl (cA, 4096, .inl (iA gT)))] sz (fun mv1 : Nat => [(mo, .inr (4, [.int (iI (cs : Int)), .int (iI (rs : Int)), .ref mg, .ref mm, .int (iI (mv1 : Int)), .ref mx, .ref my, .ref mf, .int (iI (mp : Int)), .ref mt, .int (iI (me : Int))])), (mg, .inl (cB, 65536, .inl (iA fB))), (mm, .inl (cS, 65536, .inl (iA fM))), (mx, .inl (cA, 4096, .inl (iA gX))), (my, .inl (cA, 4096, .inl (iA gY))), (mf, .inl (cA, 4096, .inl (iA gF))), (mt, .inl (cA, 4096, .inl (iA gT)))])) 0 0 (va_A [(mo, .inr (4, [.int (iI (cs : Int)), .int (iI (rs : Int)), .ref mg, .ref mm, .int (iI (mv : Int)), .ref mx, .ref my, .ref mf, .int (iI (mp : Int)), .ref mt, .int (iI (me : Int))])), (mg, .inl (cB, 65536, .inl (iA fB))), (mm, .inl (cS, 65536, .inl (iA fM))), (mx, .inl (cA, 4096, .inl (iA gX))), (my, .inl (cA, 4096, .inl (iA gY))), (mf, .inl (cA, 4096, .inl (iA gF))), (mt, .inl (cA, 4096, .inl (iA gT)))] sz) := by
  refine Met.ofW (cc := bM_restore) (maxL := 1) (ret := (some .int)) (by decide +kernel) rfl ?_
  intro p e s m args below meth c s₁ B hml hv
  obtain ⟨rfl, hsz, hP, hKW, hD0⟩ := hv
  have hK := hKW.1
  have hN := hKW.2.2
  have hx := B.exec
  have hb := B.bytes
  have hr := B.returns
  have hts := atoms_spec (ws := wM_restore) B.pre
  have hown : s.vm.findClass "WindingRasterModel" = some m.cls := findClass_of_methodNamed B.named
  have hlocks := B.notSynchronized
  subst hsz
  have hD := hD0.self (sz := s.heap.size)
  obtain ⟨A, hAe⟩ : ∃ A, va_A [(mo, .inr (4, [.int (iI (cs : Int)), .int (iI (rs : Int)), .ref mg, .ref mm, .int (iI (mv : Int)), .ref mx, .ref my, .ref mf, .int (iI (mp : Int)), .ref mt, .int (iI (me : Int))])), (mg, .inl (cB, 65536, .inl (iA fB))), (mm, .inl (cS, 65536, .inl (iA fM))), (mx, .inl (cA, 4096, .inl (iA gX))), (my, .inl (cA, 4096, .inl (iA gY))), (mf, .inl (cA, 4096, .inl (iA gF))), (mt, .inl (cA, 4096, .inl (iA gT)))] s.heap.size = A := ⟨_, rfl⟩
  rw [hAe] at hD
  have hA : ∀ q : Nat, s.heap.size ≤ q → A q := fun q h => by rw [← hAe]; exact Or.inr h
  have hS : va_S A s.heap s.heap [] := va_S.rf
  have hP : va_P D vwCl [(mo, .inr (4, [.int (iI (cs : Int)), .int (iI (rs : Int)), .ref mg, .ref mm, .int (iI (mv : Int)), .ref mx, .ref my, .ref mf, .int (iI (mp : Int)), .ref mt, .int (iI (me : Int))])), (mg, .inl (cB, 65536, .inl (iA fB))), (mm, .inl (cS, 65536, .inl (iA fM))), (mx, .inl (cA, 4096, .inl (iA gX))), (my, .inl (cA, 4096, .inl (iA gY))), (mf, .inl (cA, 4096, .inl (iA gF))), (mt, .inl (cA, 4096, .inl (iA gT)))] s.heap := hP
  have in_4 : ∀ w ∈ wsM, w ∈ wM_restore := fun w h => List.mem_cons_of_mem _ (in0_M w h)
  have fl_96 := (hts _ (List.mem_cons_of_mem _ vm_265))
  have hl := lv_entry ([.ref mo]) (n := 1) (Nat.le_of_ble_eq_true rfl)
  rw [lg_entry_eq]
  generalize (lg_sl ([.ref mo]) ++ List.replicate (1 - (lg_sl ([.ref mo])).length) Slot.unset).toArray = ls at hl ⊢
  have hl : lv_has ls 1 [(0, .ref mo)] := hl
  generalize hQ : MQ below (qW (S := Nat) (fun (z : Int) (mv1 : Nat) => (z = -2 ∧ mv = 0 ∧ mv1 = mv) ∨ (z = ((mv - 1 : Nat) : Int) ∧ 0 < mv ∧ mv1 = mv - 1)) D vwCl [(mo, .inr (4, [.int (iI (cs : Int)), .int (iI (rs : Int)), .ref mg, .ref mm, .int (iI (mv : Int)), .ref mx, .ref my, .ref mf, .int (iI (mp : Int)), .ref mt, .int (iI (me : Int))])), (mg, .inl (cB, 65536, .inl (iA fB))), (mm, .inl (cS, 65536, .inl (iA fM))), (mx, .inl (cA, 4096, .inl (iA gX))), (my, .inl (cA, 4096, .inl (iA gY))), (mf, .inl (cA, 4096, .inl (iA gF))), (mt, .inl (cA, 4096, .inl (iA gT)))] s.heap.size (fun mv1 : Nat => [(mo, .inr (4, [.int (iI (cs : Int)), .int (iI (rs : Int)), .ref mg, .ref mm, .int (iI (mv1 : Int)), .ref mx, .ref my, .ref mf, .int (iI (mp : Int)), .ref mt, .int (iI (me : Int))])), (mg, .inl (cB, 65536, .inl (iA fB))), (mm, .inl (cS, 65536, .inl (iA fM))), (mx, .inl (cA, 4096, .inl (iA gX))), (my, .inl (cA, 4096, .inl (iA gY))), (mf, .inl (cA, 4096, .inl (iA gF))), (mt, .inl (cA, 4096, .inl (iA gT)))])) [.ref mo].toArray s 0 0 (va_A [(mo, .inr (4, [.int (iI (cs : Int)), .int (iI (rs : Int)), .ref mg, .ref mm, .int (iI (mv : Int)), .ref mx, .ref my, .ref mf, .int (iI (mp : Int)), .ref mt, .int (iI (me : Int))])), (mg, .inl (cB, 65536, .inl (iA fB))), (mm, .inl (cS, 65536, .inl (iA fM))), (mx, .inl (cA, 4096, .inl (iA gX))), (my, .inl (cA, 4096, .inl (iA gY))), (mf, .inl (cA, 4096, .inl (iA gF))), (mt, .inl (cA, 4096, .inl (iA gT)))] s.heap.size) = QQ
  refine lv_aload_n hx hb dM_restore_0 rfl (lv_at hl 0 rfl) ?_
  refine va_get (ci := 4) (v := .int (iI (mv : Int))) (C := "WindingRasterModel") (T := TM) (N := 11) hx hb hts in_4 hown hK hP 0 rfl rfl 4 (by decide) fl_96 (fun _ h9 => h9) rfl dM_restore_1 ?_
  refine ii_if_ne (tgt := 10) hx hb dM_restore_4 (by decide) (by omega) (fun c4 => ?_) (fun c4 => ?_)
  · refine lv_aload_n hx hb dM_restore_10 rfl (lv_at hl 0 rfl) ?_
    refine lv_dup hx hb dM_restore_11 rfl ?_
    refine va_get (ci := 4) (v := .int (iI (mv : Int))) (C := "WindingRasterModel") (T := TM) (N := 11) hx hb hts in_4 hown hK hP 0 rfl rfl 4 (by decide) fl_96 (fun _ h9 => h9) rfl dM_restore_12 ?_
    refine ii_iconst (n := 1) hx hb dM_restore_15 ?_
    refine ii_isub hx hb dM_restore_16 ?_
    refine ii_top (y := ((mv - 1 : Nat) : Int)) (by omega) ?_
    refine va_put (ci := 4) (v := .int (iI ((mv - 1 : Nat) : Int))) (ty := .int) (C := "WindingRasterModel") (T := TM) (N := 11) hx hb hts in_4 tM tM_ok nM hown hK hP hD hS 0 rfl rfl 4 (by decide) fl_96 (fun _ h9 => h9) rfl (by decide +kernel) rfl rfl (Nat.le_of_ble_eq_true rfl) dM_restore_17 (fun H locs hP hD hS => ?_)
    have hP : va_P D vwCl [(mo, .inr (4, [.int (iI (cs : Int)), .int (iI (rs : Int)), .ref mg, .ref mm, .int (iI ((mv - 1 : Nat) : Int)), .ref mx, .ref my, .ref mf, .int (iI (mp : Int)), .ref mt, .int (iI (me : Int))])), (mg, .inl (cB, 65536, .inl (iA fB))), (mm, .inl (cS, 65536, .inl (iA fM))), (mx, .inl (cA, 4096, .inl (iA gX))), (my, .inl (cA, 4096, .inl (iA gY))), (mf, .inl (cA, 4096, .inl (iA gF))), (mt, .inl (cA, 4096, .inl (iA gT)))] H := hP
    have hD : va_D A [(mo, .inr (4, [.int (iI (cs : Int)), .int (iI (rs : Int)), .ref mg, .ref mm, .int (iI ((mv - 1 : Nat) : Int)), .ref mx, .ref my, .ref mf, .int (iI (mp : Int)), .ref mt, .int (iI (me : Int))])), (mg, .inl (cB, 65536, .inl (iA fB))), (mm, .inl (cS, 65536, .inl (iA fM))), (mx, .inl (cA, 4096, .inl (iA gX))), (my, .inl (cA, 4096, .inl (iA gY))), (mf, .inl (cA, 4096, .inl (iA gF))), (mt, .inl (cA, 4096, .inl (iA gT)))] := hD
    refine lv_aload_n hx hb dM_restore_20 rfl (lv_at hl 0 rfl) ?_
    refine va_get (ci := 4) (v := .int (iI ((mv - 1 : Nat) : Int))) (C := "WindingRasterModel") (T := TM) (N := 11) hx hb hts in_4 hown hK hP 0 rfl rfl 4 (by decide) fl_96 (fun _ h9 => h9) rfl dM_restore_21 ?_
    rw [← hQ]
    exact wr_iret (mv - 1) hx hb hr hlocks hAe (hP.sub [0, 1, 2, 3, 4, 5, 6] rfl) (hD.sub [0, 1, 2, 3, 4, 5, 6] (by decide) rfl) hS (Or.inr ⟨rfl, by omega, rfl⟩) dM_restore_24
  · refine ii_bipush (n := (-2)) hx hb dM_restore_7 (by decide +kernel) ?_
    rw [← hQ]
    exact wr_iret mv hx hb hr hlocks hAe (hP.sub [0, 1, 2, 3, 4, 5, 6] rfl) (hD.sub [0, 1, 2, 3, 4, 5, 6] (by decide) rfl) hS (Or.inl ⟨rfl, by omega, rfl⟩) dM_restore_9

def rm_m_save : Room := { frames := 3, cells := 0, slots := 0, locals := 69 }
set_option maxHeartbeats 4000000 in
set_option maxRecDepth 100000 in
theorem m_save (l : Launch) (D : va_G) (cA cB cS : ClassId) (mo : Nat) (cs : Nat) (rs : Nat) (mg : Nat) (mm : Nat) (mx : Nat) (my : Nat) (mf : Nat) (mt : Nat) (fB : Nat → Int) (fM : Nat → Int) (gX : Nat → Int) (gY : Nat → Int) (gF : Nat → Int) (gT : Nat → Int) (mv : Nat) (mp : Nat) (me : Nat) (h1 : mv ≤ 12) (hm : mRng fM) (hc : 0 < cs ∧ cs ≤ 256) (hr_ : 0 < rs ∧ rs ≤ 256) (sz : Nat) : Met l yM_save wM_save rm_m_save (pW [.ref mo] D vwCl (vwTy cA cB cS) vwNw [(mo, .inr (4, [.int (iI (cs : Int)), .int (iI (rs : Int)), .ref mg, .ref mm, .int (iI (mv : Int)), .ref mx, .ref my, .ref mf, .int (iI (mp : Int)), .ref mt, .int (iI (me : Int))])), (mg, .inl (cB, 65536, .inl (iA fB))), (mm, .inl (cS, 65536, .inl (iA fM))), (mx, .inl (cA, 4096, .inl (iA gX))), (my, .inl (cA, 4096, .inl (iA gY))), (mf, .inl (cA, 4096, .inl (iA gF))), (mt, .inl (cA, 4096, .inl (iA gT)))] sz) (qW (S := (Nat → Int) × Nat) (fun (z : Int) (u : (Nat → Int) × Nat) => (z = -3 ∧ (12 ≤ mv ∨ 24000 < rnJ fM cs rs (mv + 1) + (canJ fM cs rs mv).length) ∧ u.1 = fM ∧ u.2 = mv) ∨ (z = ((mv + 1 : Nat) : Int) ∧ mv < 12 ∧ rnJ fM cs rs (mv + 1) + (canJ fM cs rs mv).length ≤ 24000 ∧ u.2 = mv + 1 ∧ mRng u.1 ∧ (∀ p, p < 65536 → ∀ i, ¬ i = mv + 1 → (u.1 p).toNat.testBit i = (fM p).toNat.testBit i) ∧ ∀ p, p < 65536 → (u.1 p).toNat.testBit (mv + 1) = (fM p).toNat.testBit mv)) D vwCl [(mo, .inr (4, [.int (iI (cs : Int)), .int (iI (rs : Int)), .ref mg, .ref mm, .int (iI (mv : Int)), .ref mx, .ref my, .ref mf, .int (iI (mp : Int)), .ref mt, .int (iI (me : Int))])), (mg, .inl (cB, 65536, .inl (iA fB))), (mm, .inl (cS, 65536, .inl (iA fM))), (mx, .inl (cA, 4096, .inl (iA gX))), (my, .inl (cA, 4096, .inl (iA gY))), (mf, .inl (cA, 4096, .inl (iA gF))), (mt, .inl (cA, 4096, .inl (iA gT)))] sz (fun u : (Nat → Int) × Nat => [(mo, .inr (4, [.int (iI (cs : Int)), .int (iI (rs : Int)), .ref mg, .ref mm, .int (iI ((u.2 : Nat) : Int)), .ref mx, .ref my, .ref mf, .int (iI (mp : Int)), .ref mt, .int (iI (me : Int))])), (mg, .inl (cB, 65536, .inl (iA fB))), (mm, .inl (cS, 65536, .inl (iA u.1))), (mx, .inl (cA, 4096, .inl (iA gX))), (my, .inl (cA, 4096, .inl (iA gY))), (mf, .inl (cA, 4096, .inl (iA gF))), (mt, .inl (cA, 4096, .inl (iA gT)))])) 0 0 (va_A [(mo, .inr (4, [.int (iI (cs : Int)), .int (iI (rs : Int)), .ref mg, .ref mm, .int (iI (mv : Int)), .ref mx, .ref my, .ref mf, .int (iI (mp : Int)), .ref mt, .int (iI (me : Int))])), (mg, .inl (cB, 65536, .inl (iA fB))), (mm, .inl (cS, 65536, .inl (iA fM))), (mx, .inl (cA, 4096, .inl (iA gX))), (my, .inl (cA, 4096, .inl (iA gY))), (mf, .inl (cA, 4096, .inl (iA gF))), (mt, .inl (cA, 4096, .inl (iA gT)))] sz) := by
  refine Met.ofW (cc := bM_save) (maxL := 2) (ret := (some .int)) (by decide +kernel) rfl ?_
  intro p e s m args below meth c s₁ B hml hv
  obtain ⟨rfl, hsz, hP, hKW, hD0⟩ := hv
  have hK := hKW.1
  have hN := hKW.2.2
  have hx := B.exec
  have hb := B.bytes
  have hr := B.returns
  have hts := atoms_spec (ws := wM_save) B.pre
  have hown : s.vm.findClass "WindingRasterModel" = some m.cls := findClass_of_methodNamed B.named
  have hlocks := B.notSynchronized
  subst hsz
  have hD := hD0.self (sz := s.heap.size)
  obtain ⟨A, hAe⟩ : ∃ A, va_A [(mo, .inr (4, [.int (iI (cs : Int)), .int (iI (rs : Int)), .ref mg, .ref mm, .int (iI (mv : Int)), .ref mx, .ref my, .ref mf, .int (iI (mp : Int)), .ref mt, .int (iI (me : Int))])), (mg, .inl (cB, 65536, .inl (iA fB))), (mm, .inl (cS, 65536, .inl (iA fM))), (mx, .inl (cA, 4096, .inl (iA gX))), (my, .inl (cA, 4096, .inl (iA gY))), (mf, .inl (cA, 4096, .inl (iA gF))), (mt, .inl (cA, 4096, .inl (iA gT)))] s.heap.size = A := ⟨_, rfl⟩
  rw [hAe] at hD
  have hA : ∀ q : Nat, s.heap.size ≤ q → A q := fun q h => by rw [← hAe]; exact Or.inr h
  have hS : va_S A s.heap s.heap [] := va_S.rf
  have hP : va_P D vwCl [(mo, .inr (4, [.int (iI (cs : Int)), .int (iI (rs : Int)), .ref mg, .ref mm, .int (iI (mv : Int)), .ref mx, .ref my, .ref mf, .int (iI (mp : Int)), .ref mt, .int (iI (me : Int))])), (mg, .inl (cB, 65536, .inl (iA fB))), (mm, .inl (cS, 65536, .inl (iA fM))), (mx, .inl (cA, 4096, .inl (iA gX))), (my, .inl (cA, 4096, .inl (iA gY))), (mf, .inl (cA, 4096, .inl (iA gF))), (mt, .inl (cA, 4096, .inl (iA gT)))] s.heap := hP
  have in_4 : ∀ w ∈ wsM, w ∈ wM_save := fun w h => List.mem_cons_of_mem _ (in0_M w h)
  have fl_96 := (hts _ (List.mem_cons_of_mem _ vm_265))
  have kc_7 := (hts _ (List.mem_cons_of_mem _ vm_257))
  have hl := lv_entry ([.ref mo]) (n := 2) (Nat.le_of_ble_eq_true rfl)
  rw [lg_entry_eq]
  generalize (lg_sl ([.ref mo]) ++ List.replicate (2 - (lg_sl ([.ref mo])).length) Slot.unset).toArray = ls at hl ⊢
  have hl : lv_has ls 2 [(0, .ref mo)] := hl
  generalize hQ : MQ below (qW (S := (Nat → Int) × Nat) (fun (z : Int) (u : (Nat → Int) × Nat) => (z = -3 ∧ (12 ≤ mv ∨ 24000 < rnJ fM cs rs (mv + 1) + (canJ fM cs rs mv).length) ∧ u.1 = fM ∧ u.2 = mv) ∨ (z = ((mv + 1 : Nat) : Int) ∧ mv < 12 ∧ rnJ fM cs rs (mv + 1) + (canJ fM cs rs mv).length ≤ 24000 ∧ u.2 = mv + 1 ∧ mRng u.1 ∧ (∀ p, p < 65536 → ∀ i, ¬ i = mv + 1 → (u.1 p).toNat.testBit i = (fM p).toNat.testBit i) ∧ ∀ p, p < 65536 → (u.1 p).toNat.testBit (mv + 1) = (fM p).toNat.testBit mv)) D vwCl [(mo, .inr (4, [.int (iI (cs : Int)), .int (iI (rs : Int)), .ref mg, .ref mm, .int (iI (mv : Int)), .ref mx, .ref my, .ref mf, .int (iI (mp : Int)), .ref mt, .int (iI (me : Int))])), (mg, .inl (cB, 65536, .inl (iA fB))), (mm, .inl (cS, 65536, .inl (iA fM))), (mx, .inl (cA, 4096, .inl (iA gX))), (my, .inl (cA, 4096, .inl (iA gY))), (mf, .inl (cA, 4096, .inl (iA gF))), (mt, .inl (cA, 4096, .inl (iA gT)))] s.heap.size (fun u : (Nat → Int) × Nat => [(mo, .inr (4, [.int (iI (cs : Int)), .int (iI (rs : Int)), .ref mg, .ref mm, .int (iI ((u.2 : Nat) : Int)), .ref mx, .ref my, .ref mf, .int (iI (mp : Int)), .ref mt, .int (iI (me : Int))])), (mg, .inl (cB, 65536, .inl (iA fB))), (mm, .inl (cS, 65536, .inl (iA u.1))), (mx, .inl (cA, 4096, .inl (iA gX))), (my, .inl (cA, 4096, .inl (iA gY))), (mf, .inl (cA, 4096, .inl (iA gF))), (mt, .inl (cA, 4096, .inl (iA gT)))])) [.ref mo].toArray s 0 0 (va_A [(mo, .inr (4, [.int (iI (cs : Int)), .int (iI (rs : Int)), .ref mg, .ref mm, .int (iI (mv : Int)), .ref mx, .ref my, .ref mf, .int (iI (mp : Int)), .ref mt, .int (iI (me : Int))])), (mg, .inl (cB, 65536, .inl (iA fB))), (mm, .inl (cS, 65536, .inl (iA fM))), (mx, .inl (cA, 4096, .inl (iA gX))), (my, .inl (cA, 4096, .inl (iA gY))), (mf, .inl (cA, 4096, .inl (iA gF))), (mt, .inl (cA, 4096, .inl (iA gT)))] s.heap.size) = QQ
  have hrn := rnJ_le fM hc.2 hr_.2 (mv + 1)
  have hcn := canJ_len fM mv hc.2 hr_.2
  refine lv_aload_n hx hb dM_save_0 rfl (lv_at hl 0 rfl) ?_
  refine va_get (ci := 4) (v := .int (iI (mv : Int))) (C := "WindingRasterModel") (T := TM) (N := 11) hx hb hts in_4 hown hK hP 0 rfl rfl 4 (by decide) fl_96 (fun _ h9 => h9) rfl dM_save_1 ?_
  refine ii_bipush (n := 12) hx hb dM_save_4 (by decide +kernel) ?_
  refine ii_icmp_eq (tgt := 34) hx hb dM_save_6 (by decide) (by omega) (by omega) (fun c6 => ?_) (fun c6 => ?_)
  · refine ii_bipush (n := (-3)) hx hb dM_save_34 (by decide +kernel) ?_
    rw [← hQ]
    exact wr_iret (fM, mv) hx hb hr hlocks hAe (hP.sub [0, 1, 2, 3, 4, 5, 6] rfl) (hD.sub [0, 1, 2, 3, 4, 5, 6] (by decide) rfl) hS (Or.inl ⟨rfl, by omega, rfl, rfl⟩) dM_save_36
  · refine lv_aload_n hx hb dM_save_9 rfl (lv_at hl 0 rfl) ?_
    refine lv_aload_n hx hb dM_save_10 rfl (lv_at hl 0 rfl) ?_
    refine va_get (ci := 4) (v := .int (iI (mv : Int))) (C := "WindingRasterModel") (T := TM) (N := 11) hx hb hts in_4 hown hK hP 0 rfl rfl 4 (by decide) fl_96 (fun _ h9 => h9) rfl dM_save_11 ?_
    refine ii_iconst (n := 1) hx hb dM_save_14 ?_
    refine ii_iadd hx hb dM_save_15 ?_
    refine ii_top (y := ((mv + 1 : Nat) : Int)) (by push_cast; rfl) ?_
    refine cs_i (va_runV (As := [.int (iI ((mv + 1 : Nat) : Int))]) (rest := []) ⟨hx, hb, hml, hown, hts⟩ (m_runsTo l D cA cB cS mo cs rs mg mm mx my mf mt fB fM gX gY gF gT mv mp me (mv + 1) (by omega) hm (by omega) (by omega)) ⟨(callB_of 1 hts (gIn vm_359) rfl rfl rfl (hts _ (List.mem_cons_of_mem _ vm_8)) (hts _ (List.mem_cons_of_mem _ vm_357)) (by decide +kernel) ⟨Nat.le_of_ble_eq_true rfl, Nat.le_of_ble_eq_true rfl⟩), (hts _ (List.mem_cons_of_mem _ vm_358)), (hts _ (List.mem_cons_of_mem _ vm_429))⟩ (pR.preV (va_recv hK hP (ci := 4) (q0 := 0) rfl rfl) (hP.sub [0, 1, 2, 3, 4, 5, 6] rfl) hKW) rfl rfl hl.1 rfl (lv_room (Nat.le_of_ble_eq_true rfl)) dM_save_16 ⟨Nat.le_of_ble_eq_true rfl, Nat.le_of_ble_eq_true rfl⟩) (fun z_1 hz_1 => ?_)
    subst hz_1
    refine lv_aload_n hx hb dM_save_19 rfl (lv_at hl 0 rfl) ?_
    refine lv_aload_n hx hb dM_save_20 rfl (lv_at hl 0 rfl) ?_
    refine va_get (ci := 4) (v := .int (iI (mv : Int))) (C := "WindingRasterModel") (T := TM) (N := 11) hx hb hts in_4 hown hK hP 0 rfl rfl 4 (by decide) fl_96 (fun _ h9 => h9) rfl dM_save_21 ?_
    refine cs_i (va_runV (As := [.int (iI (mv : Int))]) (rest := [.int (iI ((rnJ fM cs rs (mv + 1) : Nat) : Int))]) ⟨hx, hb, hml, hown, hts⟩ (m_runsOf l D cA cB cS mo cs rs mg mm mx my mf mt fB fM gX gY gF gT mv mp me mv (by omega) hm (by omega) (by omega)) ⟨(callB_of 1 hts (gIn vm_362) rfl rfl rfl (hts _ (List.mem_cons_of_mem _ vm_8)) (hts _ (List.mem_cons_of_mem _ vm_360)) (by decide +kernel) ⟨Nat.le_of_ble_eq_true rfl, Nat.le_of_ble_eq_true rfl⟩), (hts _ (List.mem_cons_of_mem _ vm_361)), (hts _ (List.mem_cons_of_mem _ vm_430))⟩ (pR.preV (va_recv hK hP (ci := 4) (q0 := 0) rfl rfl) (hP.sub [0, 1, 2, 3, 4, 5, 6] rfl) hKW) rfl rfl hl.1 rfl (lv_room (Nat.le_of_ble_eq_true rfl)) dM_save_24 ⟨Nat.le_of_ble_eq_true rfl, Nat.le_of_ble_eq_true rfl⟩) (fun z_2 hz_2 => ?_)
    subst hz_2
    refine ii_iadd hx hb dM_save_27 ?_
    refine ii_top (y := (((rnJ fM cs rs (mv + 1)) + ((canJ fM cs rs mv).length) : Nat) : Int)) (by push_cast; rfl) ?_
    refine ii_sipush (n := 24000) hx hb dM_save_28 (by decide +kernel) ?_
    refine ii_icmp_le (tgt := 37) hx hb dM_save_31 (by decide) (by omega) (by omega) (fun c31 => ?_) (fun c31 => ?_)
    · refine ii_iconst (n := 0) hx hb dM_save_37 ?_
      refine lv_istore_n (lv' := [(1, .int (iI 0)), (0, .ref mo)]) hx hb dM_save_38 rfl hl (by decide) rfl (fun ls hl => ?_)
      have lp39 : ∀ (n_ : Nat) (k : Nat) (fK : Nat → Int), (k ≤ 65536) → (mRng fK ∧ (∀ p, p < 65536 → ∀ i, ¬ i = mv + 1 → (fK p).toNat.testBit i = (fM p).toNat.testBit i) ∧ ∀ p, p < k → (fK p).toNat.testBit (mv + 1) = (fM p).toNat.testBit mv) → (65536 - k) < n_ → ∀ (H : Heap) (locs : List Loc), va_P D vwCl [(mo, .inr (4, [.int (iI (cs : Int)), .int (iI (rs : Int)), .ref mg, .ref mm, .int (iI (mv : Int)), .ref mx, .ref my, .ref mf, .int (iI (mp : Int)), .ref mt, .int (iI (me : Int))])), (mg, .inl (cB, 65536, .inl (iA fB))), (mm, .inl (cS, 65536, .inl (iA fK))), (mx, .inl (cA, 4096, .inl (iA gX))), (my, .inl (cA, 4096, .inl (iA gY))), (mf, .inl (cA, 4096, .inl (iA gF))), (mt, .inl (cA, 4096, .inl (iA gT)))] H → va_D A [(mo, .inr (4, [.int (iI (cs : Int)), .int (iI (rs : Int)), .ref mg, .ref mm, .int (iI (mv : Int)), .ref mx, .ref my, .ref mf, .int (iI (mp : Int)), .ref mt, .int (iI (me : Int))])), (mg, .inl (cB, 65536, .inl (iA fB))), (mm, .inl (cS, 65536, .inl (iA fK))), (mx, .inl (cA, 4096, .inl (iA gX))), (my, .inl (cA, 4096, .inl (iA gY))), (mf, .inl (cA, 4096, .inl (iA gF))), (mt, .inl (cA, 4096, .inl (iA gT)))] → va_S A s.heap H locs → ∀ ls : Array Slot, lv_has ls 2 [(1, .int (iI (k : Int))), (0, .ref mo)] → W p l e (headSpec wM_save rm_m_save).room s m [.ref mo].toArray below meth c H locs 0 0 QQ (F0 m 39 ls []) := by
        intro n_
        induction n_ with
        | zero =>
          intro k fK k1 k2 hm_
          exact absurd hm_ (Nat.not_lt_zero _)
        | succ n_ ih_lp39 =>
          intro k fK k1 k2 hm_lp39 H locs hP hD hS ls hl
          refine lv_iload_n hx hb dM_save_39 rfl (lv_at hl 0 rfl) ?_
          refine ii_ldc (n := 65536) hx hb hown kc_7 dM_save_40 (by decide +kernel) ?_
          refine ii_icmp_ge (tgt := 71) hx hb dM_save_42 (by decide) (by omega) (by omega) (fun c42 => ?_) (fun c42 => ?_)
          · refine lv_aload_n hx hb dM_save_71 rfl (lv_at hl 1 rfl) ?_
            refine lv_dup hx hb dM_save_72 rfl ?_
            refine va_get (ci := 4) (v := .int (iI (mv : Int))) (C := "WindingRasterModel") (T := TM) (N := 11) hx hb hts in_4 hown hK hP 0 rfl rfl 4 (by decide) fl_96 (fun _ h9 => h9) rfl dM_save_73 ?_
            refine ii_iconst (n := 1) hx hb dM_save_76 ?_
            refine ii_iadd hx hb dM_save_77 ?_
            refine ii_top (y := ((mv + 1 : Nat) : Int)) (by push_cast; rfl) ?_
            refine va_put (ci := 4) (v := .int (iI ((mv + 1 : Nat) : Int))) (ty := .int) (C := "WindingRasterModel") (T := TM) (N := 11) hx hb hts in_4 tM tM_ok nM hown hK hP hD hS 0 rfl rfl 4 (by decide) fl_96 (fun _ h9 => h9) rfl (by decide +kernel) rfl rfl (Nat.le_of_ble_eq_true rfl) dM_save_78 (fun H locs hP hD hS => ?_)
            have hP : va_P D vwCl [(mo, .inr (4, [.int (iI (cs : Int)), .int (iI (rs : Int)), .ref mg, .ref mm, .int (iI ((mv + 1 : Nat) : Int)), .ref mx, .ref my, .ref mf, .int (iI (mp : Int)), .ref mt, .int (iI (me : Int))])), (mg, .inl (cB, 65536, .inl (iA fB))), (mm, .inl (cS, 65536, .inl (iA fK))), (mx, .inl (cA, 4096, .inl (iA gX))), (my, .inl (cA, 4096, .inl (iA gY))), (mf, .inl (cA, 4096, .inl (iA gF))), (mt, .inl (cA, 4096, .inl (iA gT)))] H := hP
            have hD : va_D A [(mo, .inr (4, [.int (iI (cs : Int)), .int (iI (rs : Int)), .ref mg, .ref mm, .int (iI ((mv + 1 : Nat) : Int)), .ref mx, .ref my, .ref mf, .int (iI (mp : Int)), .ref mt, .int (iI (me : Int))])), (mg, .inl (cB, 65536, .inl (iA fB))), (mm, .inl (cS, 65536, .inl (iA fK))), (mx, .inl (cA, 4096, .inl (iA gX))), (my, .inl (cA, 4096, .inl (iA gY))), (mf, .inl (cA, 4096, .inl (iA gF))), (mt, .inl (cA, 4096, .inl (iA gT)))] := hD
            refine lv_aload_n hx hb dM_save_81 rfl (lv_at hl 1 rfl) ?_
            refine va_get (ci := 4) (v := .int (iI ((mv + 1 : Nat) : Int))) (C := "WindingRasterModel") (T := TM) (N := 11) hx hb hts in_4 hown hK hP 0 rfl rfl 4 (by decide) fl_96 (fun _ h9 => h9) rfl dM_save_82 ?_
            rw [← hQ]
            exact wr_iret (fK, mv + 1) hx hb hr hlocks hAe (hP.sub [0, 1, 2, 3, 4, 5, 6] rfl) (hD.sub [0, 1, 2, 3, 4, 5, 6] (by decide) rfl) hS (Or.inr ⟨rfl, by omega, by omega, rfl, k2.1, k2.2.1, fun q hq => k2.2.2 q (by omega)⟩) dM_save_85
          · refine lv_aload_n hx hb dM_save_45 rfl (lv_at hl 1 rfl) ?_
            refine lv_iload_n hx hb dM_save_46 rfl (lv_at hl 0 rfl) ?_
            refine lv_aload_n hx hb dM_save_47 rfl (lv_at hl 1 rfl) ?_
            refine va_get (ci := 4) (v := .int (iI (mv : Int))) (C := "WindingRasterModel") (T := TM) (N := 11) hx hb hts in_4 hown hK hP 0 rfl rfl 4 (by decide) fl_96 (fun _ h9 => h9) rfl dM_save_48 ?_
            refine ii_iconst (n := 1) hx hb dM_save_51 ?_
            refine ii_iadd hx hb dM_save_52 ?_
            refine ii_top (y := ((mv + 1 : Nat) : Int)) (by push_cast; rfl) ?_
            refine lv_aload_n hx hb dM_save_53 rfl (lv_at hl 1 rfl) ?_
            refine lv_iload_n hx hb dM_save_54 rfl (lv_at hl 0 rfl) ?_
            refine lv_aload_n hx hb dM_save_55 rfl (lv_at hl 1 rfl) ?_
            refine va_get (ci := 4) (v := .int (iI (mv : Int))) (C := "WindingRasterModel") (T := TM) (N := 11) hx hb hts in_4 hown hK hP 0 rfl rfl 4 (by decide) fl_96 (fun _ h9 => h9) rfl dM_save_56 ?_
            refine cs_i (va_runV (As := [.int (iI (k : Int)), .int (iI (mv : Int))]) (rest := [.int (iI ((mv + 1 : Nat) : Int)), .int (iI (k : Int)), .ref mo]) ⟨hx, hb, hml, hown, hts⟩ (m_isOpen l D cA cB cS mo cs rs mg mm mx my mf mt fB fK gX gY gF gT mv mp me k mv (by omega) (by omega) k2.1) ⟨(callB_of 2 hts (gIn vm_346) rfl rfl rfl (hts _ (List.mem_cons_of_mem _ vm_8)) (hts _ (List.mem_cons_of_mem _ vm_344)) (by decide +kernel) ⟨Nat.le_of_ble_eq_true rfl, Nat.le_of_ble_eq_true rfl⟩), (hts _ (List.mem_cons_of_mem _ vm_345)), (hts _ (List.mem_cons_of_mem _ vm_427))⟩ (pR.preV (va_recv hK hP (ci := 4) (q0 := 0) rfl rfl) (hP.sub [0, 1, 2, 3, 4, 5, 6] rfl) hKW) rfl rfl hl.1 rfl (lv_room (Nat.le_of_ble_eq_true rfl)) dM_save_59 ⟨Nat.le_of_ble_eq_true rfl, Nat.le_of_ble_eq_true rfl⟩) (fun zo hzo => ?_)
            have hbk := k2.2.1 k (by omega) mv (by omega)
            have hob : decide (zo = 1) = (fM k).toNat.testBit mv := by
              rw [← hbk]
              rcases hzo with v | v
              · rw [v.2, decide_eq_true v.1]
              · rw [Bool.eq_false_iff.mpr v.2, decide_eq_false (by omega)]
            refine cw_v (wc := [(mo, .inr (4, [.int (iI (cs : Int)), .int (iI (rs : Int)), .ref mg, .ref mm, .int (iI (mv : Int)), .ref mx, .ref my, .ref mf, .int (iI (mp : Int)), .ref mt, .int (iI (me : Int))])), (mg, .inl (cB, 65536, .inl (iA fB))), (mm, .inl (cS, 65536, .inl (iA fK))), (mx, .inl (cA, 4096, .inl (iA gX))), (my, .inl (cA, 4096, .inl (iA gY))), (mf, .inl (cA, 4096, .inl (iA gF))), (mt, .inl (cA, 4096, .inl (iA gT)))]) (wr := []) hP hD hS hA [0, 1, 2, 3, 4, 5, 6] [] rfl rfl (by decide) (by decide) (va_runV (As := [.int (iI (k : Int)), .int (iI ((mv + 1 : Nat) : Int)), .int (iI zo)]) (rest := []) ⟨hx, hb, hml, hown, hts⟩ (m_setOpen l D cA cB cS mo cs rs mg mm mx my mf mt fB fK gX gY gF gT mv mp me k (mv + 1) zo (by omega) (by omega) k2.1 (by omega) _) ⟨(callB_of 3 hts (gIn vm_356) rfl rfl rfl (hts _ (List.mem_cons_of_mem _ vm_8)) (hts _ (List.mem_cons_of_mem _ vm_354)) (by decide +kernel) ⟨Nat.le_of_ble_eq_true rfl, Nat.le_of_ble_eq_true rfl⟩), (hts _ (List.mem_cons_of_mem _ vm_355)), (hts _ (List.mem_cons_of_mem _ vm_428))⟩ (pW.preV (va_recv hK hP (ci := 4) (q0 := 0) rfl rfl) (hP.sub [0, 1, 2, 3, 4, 5, 6] rfl) (hD.sub [0, 1, 2, 3, 4, 5, 6] (by decide) rfl) hKW) rfl rfl hl.1 rfl (lv_room (Nat.le_of_ble_eq_true rfl)) dM_save_62 ⟨Nat.le_of_ble_eq_true rfl, Nat.le_of_ble_eq_true rfl⟩) (fun u_3 H locs hzs hP hD hS => ?_)
            obtain ⟨fL, rfl⟩ : ∃ z_, z_ = u_3 := ⟨_, rfl⟩
            try dsimp only at hzs
            have hP : va_P D vwCl [(mo, .inr (4, [.int (iI (cs : Int)), .int (iI (rs : Int)), .ref mg, .ref mm, .int (iI (mv : Int)), .ref mx, .ref my, .ref mf, .int (iI (mp : Int)), .ref mt, .int (iI (me : Int))])), (mg, .inl (cB, 65536, .inl (iA fB))), (mm, .inl (cS, 65536, .inl (iA fL))), (mx, .inl (cA, 4096, .inl (iA gX))), (my, .inl (cA, 4096, .inl (iA gY))), (mf, .inl (cA, 4096, .inl (iA gF))), (mt, .inl (cA, 4096, .inl (iA gT)))] H := hP
            have hD : va_D A [(mo, .inr (4, [.int (iI (cs : Int)), .int (iI (rs : Int)), .ref mg, .ref mm, .int (iI (mv : Int)), .ref mx, .ref my, .ref mf, .int (iI (mp : Int)), .ref mt, .int (iI (me : Int))])), (mg, .inl (cB, 65536, .inl (iA fB))), (mm, .inl (cS, 65536, .inl (iA fL))), (mx, .inl (cA, 4096, .inl (iA gX))), (my, .inl (cA, 4096, .inl (iA gY))), (mf, .inl (cA, 4096, .inl (iA gF))), (mt, .inl (cA, 4096, .inl (iA gT)))] := hD
            refine lv_iinc (v := iI ((k + 1 : Nat) : Int)) (lv' := [(1, .int (iI ((k + 1 : Nat) : Int))), (0, .ref mo)]) hx hb dM_save_65 hl (k := 0) rfl (iI_inc _ 1 (by omega)) (by decide) rfl (fun ls hl => ?_)
            refine lv_goto (tgt := 39) hx hb dM_save_68 (by decide) ?_
            exact ih_lp39 (k + 1) fL (by omega) ⟨fun q hq => (by by_cases w : q = k; (rw [w]; exact hzs.2.1); (rw [hzs.1 q w]; exact k2.1 q hq)), fun q hq i hi => (by by_cases w : q = k; (rw [w, hzs.2.2 i, if_neg hi]; exact k2.2.1 k (by omega) i hi); (rw [hzs.1 q w]; exact k2.2.1 q hq i hi)), fun q hq => (by by_cases w : q = k; (rw [w, hzs.2.2 (mv + 1), if_pos rfl]; exact hob); (rw [hzs.1 q w]; exact k2.2.2 q (by omega)))⟩ (by omega) _ _ (hP.sub [0, 1, 2, 3, 4, 5, 6] rfl) (hD.sub [0, 1, 2, 3, 4, 5, 6] (by decide) rfl) hS _ (lv_sub hl [0, 1] rfl)
      exact lp39 (65536 - 0 + 1) 0 fM (by omega) ⟨hm, fun _ _ _ _ => rfl, fun q w => absurd w (Nat.not_lt_zero _)⟩ (Nat.lt_succ_self _) _ _ (hP.sub [0, 1, 2, 3, 4, 5, 6] rfl) (hD.sub [0, 1, 2, 3, 4, 5, 6] (by decide) rfl) hS _ (lv_sub hl [0, 1] rfl)
    · refine ii_bipush (n := (-3)) hx hb dM_save_34 (by decide +kernel) ?_
      rw [← hQ]
      exact wr_iret (fM, mv) hx hb hr hlocks hAe (hP.sub [0, 1, 2, 3, 4, 5, 6] rfl) (hD.sub [0, 1, 2, 3, 4, 5, 6] (by decide) rfl) hS (Or.inl ⟨rfl, by omega, rfl, rfl⟩) dM_save_36

def rm_m_clip : Room := { frames := 3, cells := 0, slots := 0, locals := 76 }
set_option maxHeartbeats 4000000 in
set_option maxRecDepth 100000 in
theorem m_clip (l : Launch) (D : va_G) (cA cB cS : ClassId) (mo : Nat) (cs : Nat) (rs : Nat) (mg : Nat) (mm : Nat) (mx : Nat) (my : Nat) (mf : Nat) (mt : Nat) (fB : Nat → Int) (fM : Nat → Int) (gX : Nat → Int) (gY : Nat → Int) (gF : Nat → Int) (gT : Nat → Int) (mv : Nat) (mp : Nat) (me : Nat) (a1 : Int) (h1 : i32 a1) (h5 : mv ≤ 12) (hm : mRng fM) (hc : 0 < cs ∧ cs ≤ 256) (hr_ : 0 < rs ∧ rs ≤ 256) (h2 : mp ≤ 4096) (hf : firM gF mp) (hp : ∀ i, i < mp → (-536870912 ≤ gX i ∧ gX i ≤ 536870912) ∧ (-536870912 ≤ gY i ∧ gY i ≤ 536870912)) (sz : Nat) : Met l yM_clip wM_clip rm_m_clip (pW [.ref mo, .int (iI a1)] D vwCl (vwTy cA cB cS) vwNw [(mo, .inr (4, [.int (iI (cs : Int)), .int (iI (rs : Int)), .ref mg, .ref mm, .int (iI (mv : Int)), .ref mx, .ref my, .ref mf, .int (iI (mp : Int)), .ref mt, .int (iI (me : Int))])), (mg, .inl (cB, 65536, .inl (iA fB))), (mm, .inl (cS, 65536, .inl (iA fM))), (mx, .inl (cA, 4096, .inl (iA gX))), (my, .inl (cA, 4096, .inl (iA gY))), (mf, .inl (cA, 4096, .inl (iA gF))), (mt, .inl (cA, 4096, .inl (iA gT)))] sz) (qW (S := (Nat → Int) × (Nat → Int) × Nat) (fun (z : Int) (u : (Nat → Int) × (Nat → Int) × Nat) => (z = -1 ∧ ¬ (a1 = 0 ∨ a1 = 1) ∧ u.1 = fM) ∨ ((a1 = 0 ∨ a1 = 1) ∧ z = -3 ∧ 24000 < rnJ fM cs rs mv + (canP (gM fM gX gY gF mp mv a1) cs rs 0).length ∧ mRng u.1 ∧ ∀ q, q < 65536 → ∀ i, i ≤ mv → (u.1 q).toNat.testBit i = (fM q).toNat.testBit i) ∨ ((a1 = 0 ∨ a1 = 1) ∧ rnJ fM cs rs mv + (canP (gM fM gX gY gF mp mv a1) cs rs 0).length ≤ 24000 ∧ z = ((lenS (canP (gM fM gX gY gF mp mv a1) cs rs 0) : Nat) : Int) ∧ mRng u.1 ∧ (∀ q, q < 65536 → ∀ i, i < mv → (u.1 q).toNat.testBit i = (fM q).toNat.testBit i) ∧ ∀ r k, r < rs → k < cs → mkF u.1 mv r k = (gM fM gX gY gF mp mv a1) r k)) D vwCl [(mo, .inr (4, [.int (iI (cs : Int)), .int (iI (rs : Int)), .ref mg, .ref mm, .int (iI (mv : Int)), .ref mx, .ref my, .ref mf, .int (iI (mp : Int)), .ref mt, .int (iI (me : Int))])), (mg, .inl (cB, 65536, .inl (iA fB))), (mm, .inl (cS, 65536, .inl (iA fM))), (mx, .inl (cA, 4096, .inl (iA gX))), (my, .inl (cA, 4096, .inl (iA gY))), (mf, .inl (cA, 4096, .inl (iA gF))), (mt, .inl (cA, 4096, .inl (iA gT)))] sz (fun u : (Nat → Int) × (Nat → Int) × Nat => [(mo, .inr (4, [.int (iI (cs : Int)), .int (iI (rs : Int)), .ref mg, .ref mm, .int (iI (mv : Int)), .ref mx, .ref my, .ref mf, .int (iI (mp : Int)), .ref mt, .int (iI ((u.2.2 : Nat) : Int))])), (mg, .inl (cB, 65536, .inl (iA fB))), (mm, .inl (cS, 65536, .inl (iA u.1))), (mx, .inl (cA, 4096, .inl (iA gX))), (my, .inl (cA, 4096, .inl (iA gY))), (mf, .inl (cA, 4096, .inl (iA gF))), (mt, .inl (cA, 4096, .inl (iA u.2.1)))])) 0 0 (va_A [(mo, .inr (4, [.int (iI (cs : Int)), .int (iI (rs : Int)), .ref mg, .ref mm, .int (iI (mv : Int)), .ref mx, .ref my, .ref mf, .int (iI (mp : Int)), .ref mt, .int (iI (me : Int))])), (mg, .inl (cB, 65536, .inl (iA fB))), (mm, .inl (cS, 65536, .inl (iA fM))), (mx, .inl (cA, 4096, .inl (iA gX))), (my, .inl (cA, 4096, .inl (iA gY))), (mf, .inl (cA, 4096, .inl (iA gF))), (mt, .inl (cA, 4096, .inl (iA gT)))] sz) := by
  refine Met.ofW (cc := bM_clip) (maxL := 4) (ret := (some .int)) (by decide +kernel) rfl ?_
  intro p e s m args below meth c s₁ B hml hv
  obtain ⟨rfl, hsz, hP, hKW, hD0⟩ := hv
  have hK := hKW.1
  have hN := hKW.2.2
  have hx := B.exec
  have hb := B.bytes
  have hr := B.returns
  have hts := atoms_spec (ws := wM_clip) B.pre
  have hown : s.vm.findClass "WindingRasterModel" = some m.cls := findClass_of_methodNamed B.named
  have hlocks := B.notSynchronized
  subst hsz
  have hD := hD0.self (sz := s.heap.size)
  obtain ⟨A, hAe⟩ : ∃ A, va_A [(mo, .inr (4, [.int (iI (cs : Int)), .int (iI (rs : Int)), .ref mg, .ref mm, .int (iI (mv : Int)), .ref mx, .ref my, .ref mf, .int (iI (mp : Int)), .ref mt, .int (iI (me : Int))])), (mg, .inl (cB, 65536, .inl (iA fB))), (mm, .inl (cS, 65536, .inl (iA fM))), (mx, .inl (cA, 4096, .inl (iA gX))), (my, .inl (cA, 4096, .inl (iA gY))), (mf, .inl (cA, 4096, .inl (iA gF))), (mt, .inl (cA, 4096, .inl (iA gT)))] s.heap.size = A := ⟨_, rfl⟩
  rw [hAe] at hD
  have hA : ∀ q : Nat, s.heap.size ≤ q → A q := fun q h => by rw [← hAe]; exact Or.inr h
  have hS : va_S A s.heap s.heap [] := va_S.rf
  have hP : va_P D vwCl [(mo, .inr (4, [.int (iI (cs : Int)), .int (iI (rs : Int)), .ref mg, .ref mm, .int (iI (mv : Int)), .ref mx, .ref my, .ref mf, .int (iI (mp : Int)), .ref mt, .int (iI (me : Int))])), (mg, .inl (cB, 65536, .inl (iA fB))), (mm, .inl (cS, 65536, .inl (iA fM))), (mx, .inl (cA, 4096, .inl (iA gX))), (my, .inl (cA, 4096, .inl (iA gY))), (mf, .inl (cA, 4096, .inl (iA gF))), (mt, .inl (cA, 4096, .inl (iA gT)))] s.heap := hP
  have in_4 : ∀ w ∈ wsM, w ∈ wM_clip := fun w h => List.mem_cons_of_mem _ (in0_M w h)
  have fl_39 := (hts _ (List.mem_cons_of_mem _ vm_262))
  have fl_96 := (hts _ (List.mem_cons_of_mem _ vm_265))
  have fl_35 := (hts _ (List.mem_cons_of_mem _ vm_261))
  have hl := lv_entry ([.ref mo, .int (iI a1)]) (n := 4) (Nat.le_of_ble_eq_true rfl)
  rw [lg_entry_eq]
  generalize (lg_sl ([.ref mo, .int (iI a1)]) ++ List.replicate (4 - (lg_sl ([.ref mo, .int (iI a1)])).length) Slot.unset).toArray = ls at hl ⊢
  have hl : lv_has ls 4 [(0, .ref mo), (1, .int (iI a1))] := hl
  generalize hQ : MQ below (qW (S := (Nat → Int) × (Nat → Int) × Nat) (fun (z : Int) (u : (Nat → Int) × (Nat → Int) × Nat) => (z = -1 ∧ ¬ (a1 = 0 ∨ a1 = 1) ∧ u.1 = fM) ∨ ((a1 = 0 ∨ a1 = 1) ∧ z = -3 ∧ 24000 < rnJ fM cs rs mv + (canP (gM fM gX gY gF mp mv a1) cs rs 0).length ∧ mRng u.1 ∧ ∀ q, q < 65536 → ∀ i, i ≤ mv → (u.1 q).toNat.testBit i = (fM q).toNat.testBit i) ∨ ((a1 = 0 ∨ a1 = 1) ∧ rnJ fM cs rs mv + (canP (gM fM gX gY gF mp mv a1) cs rs 0).length ≤ 24000 ∧ z = ((lenS (canP (gM fM gX gY gF mp mv a1) cs rs 0) : Nat) : Int) ∧ mRng u.1 ∧ (∀ q, q < 65536 → ∀ i, i < mv → (u.1 q).toNat.testBit i = (fM q).toNat.testBit i) ∧ ∀ r k, r < rs → k < cs → mkF u.1 mv r k = (gM fM gX gY gF mp mv a1) r k)) D vwCl [(mo, .inr (4, [.int (iI (cs : Int)), .int (iI (rs : Int)), .ref mg, .ref mm, .int (iI (mv : Int)), .ref mx, .ref my, .ref mf, .int (iI (mp : Int)), .ref mt, .int (iI (me : Int))])), (mg, .inl (cB, 65536, .inl (iA fB))), (mm, .inl (cS, 65536, .inl (iA fM))), (mx, .inl (cA, 4096, .inl (iA gX))), (my, .inl (cA, 4096, .inl (iA gY))), (mf, .inl (cA, 4096, .inl (iA gF))), (mt, .inl (cA, 4096, .inl (iA gT)))] s.heap.size (fun u : (Nat → Int) × (Nat → Int) × Nat => [(mo, .inr (4, [.int (iI (cs : Int)), .int (iI (rs : Int)), .ref mg, .ref mm, .int (iI (mv : Int)), .ref mx, .ref my, .ref mf, .int (iI (mp : Int)), .ref mt, .int (iI ((u.2.2 : Nat) : Int))])), (mg, .inl (cB, 65536, .inl (iA fB))), (mm, .inl (cS, 65536, .inl (iA u.1))), (mx, .inl (cA, 4096, .inl (iA gX))), (my, .inl (cA, 4096, .inl (iA gY))), (mf, .inl (cA, 4096, .inl (iA gF))), (mt, .inl (cA, 4096, .inl (iA u.2.1)))])) [.ref mo, .int (iI a1)].toArray s 0 0 (va_A [(mo, .inr (4, [.int (iI (cs : Int)), .int (iI (rs : Int)), .ref mg, .ref mm, .int (iI (mv : Int)), .ref mx, .ref my, .ref mf, .int (iI (mp : Int)), .ref mt, .int (iI (me : Int))])), (mg, .inl (cB, 65536, .inl (iA fB))), (mm, .inl (cS, 65536, .inl (iA fM))), (mx, .inl (cA, 4096, .inl (iA gX))), (my, .inl (cA, 4096, .inl (iA gY))), (mf, .inl (cA, 4096, .inl (iA gF))), (mt, .inl (cA, 4096, .inl (iA gT)))] s.heap.size) = QQ
  refine lv_iload_n hx hb dM_clip_0 rfl (lv_at hl 1 rfl) ?_
  refine ii_if_lt (tgt := 9) hx hb dM_clip_1 (by decide) (by omega) (fun c1 => ?_) (fun c1 => ?_)
  · refine ii_iconst (n := (-1)) hx hb dM_clip_9 ?_
    rw [← hQ]
    exact wr_iret (fM, gT, me) hx hb hr hlocks hAe (hP.sub [0, 1, 2, 3, 4, 5, 6] rfl) (hD.sub [0, 1, 2, 3, 4, 5, 6] (by decide) rfl) hS (Or.inl ⟨rfl, by omega, rfl⟩) dM_clip_10
  · refine lv_iload_n hx hb dM_clip_4 rfl (lv_at hl 1 rfl) ?_
    refine ii_iconst (n := 1) hx hb dM_clip_5 ?_
    refine ii_icmp_le (tgt := 11) hx hb dM_clip_6 (by decide) (by omega) (by omega) (fun c6 => ?_) (fun c6 => ?_)
    · refine ii_iconst (n := 0) hx hb dM_clip_11 ?_
      refine lv_istore_n (lv' := [(2, .int (iI 0)), (0, .ref mo), (1, .int (iI a1))]) hx hb dM_clip_12 rfl hl (by decide) rfl (fun ls hl => ?_)
      have lp13 : ∀ (n_ : Nat) (kr : Nat) (fK : Nat → Int) (gU : Nat → Int) (mu : Nat), (kr ≤ rs) → (cpB (gM fM gX gY gF mp mv a1) (mv + 1) cs kr 0 fM fK) → (rs - kr) < n_ → ∀ (H : Heap) (locs : List Loc), va_P D vwCl [(mo, .inr (4, [.int (iI (cs : Int)), .int (iI (rs : Int)), .ref mg, .ref mm, .int (iI (mv : Int)), .ref mx, .ref my, .ref mf, .int (iI (mp : Int)), .ref mt, .int (iI (mu : Int))])), (mg, .inl (cB, 65536, .inl (iA fB))), (mm, .inl (cS, 65536, .inl (iA fK))), (mx, .inl (cA, 4096, .inl (iA gX))), (my, .inl (cA, 4096, .inl (iA gY))), (mf, .inl (cA, 4096, .inl (iA gF))), (mt, .inl (cA, 4096, .inl (iA gU)))] H → va_D A [(mo, .inr (4, [.int (iI (cs : Int)), .int (iI (rs : Int)), .ref mg, .ref mm, .int (iI (mv : Int)), .ref mx, .ref my, .ref mf, .int (iI (mp : Int)), .ref mt, .int (iI (mu : Int))])), (mg, .inl (cB, 65536, .inl (iA fB))), (mm, .inl (cS, 65536, .inl (iA fK))), (mx, .inl (cA, 4096, .inl (iA gX))), (my, .inl (cA, 4096, .inl (iA gY))), (mf, .inl (cA, 4096, .inl (iA gF))), (mt, .inl (cA, 4096, .inl (iA gU)))] → va_S A s.heap H locs → ∀ ls : Array Slot, lv_has ls 4 [(2, .int (iI (kr : Int))), (0, .ref mo), (1, .int (iI a1))] → W p l e (headSpec wM_clip rm_m_clip).room s m [.ref mo, .int (iI a1)].toArray below meth c H locs 0 0 QQ (F0 m 13 ls []) := by
        intro n_
        induction n_ with
        | zero =>
          intro kr fK gU mu i1 i3 hm_
          exact absurd hm_ (Nat.not_lt_zero _)
        | succ n_ ih_lp13 =>
          intro kr fK gU mu i1 i3 hm_lp13 H locs hP hD hS ls hl
          refine lv_iload_n hx hb dM_clip_13 rfl (lv_at hl 0 rfl) ?_
          refine lv_aload_n hx hb dM_clip_14 rfl (lv_at hl 1 rfl) ?_
          refine va_get (ci := 4) (v := .int (iI (rs : Int))) (C := "WindingRasterModel") (T := TM) (N := 11) hx hb hts in_4 hown hK hP 0 rfl rfl 1 (by decide) fl_39 (fun _ h9 => h9) rfl dM_clip_15 ?_
          refine ii_icmp_ge (tgt := 97) hx hb dM_clip_18 (by decide) (by omega) (by omega) (fun c18 => ?_) (fun c18 => ?_)
          · have ekr : kr = rs := by omega
            rw [ekr] at i3
            obtain ⟨fM1, hfM1⟩ : ∃ z_, z_ = fK := ⟨_, rfl⟩
            obtain ⟨gU0, hgU0⟩ : ∃ z_, z_ = gU := ⟨_, rfl⟩
            obtain ⟨mu0, hmu0⟩ : ∃ z_, z_ = mu := ⟨_, rfl⟩
            rw [← hfM1, ← hgU0, ← hmu0] at hP hD
            rw [← hfM1] at i3
            have j3 := i3
            have hP : va_P D vwCl [(mo, .inr (4, [.int (iI (cs : Int)), .int (iI (rs : Int)), .ref mg, .ref mm, .int (iI (mv : Int)), .ref mx, .ref my, .ref mf, .int (iI (mp : Int)), .ref mt, .int (iI (mu0 : Int))])), (mg, .inl (cB, 65536, .inl (iA fB))), (mm, .inl (cS, 65536, .inl (iA fM1))), (mx, .inl (cA, 4096, .inl (iA gX))), (my, .inl (cA, 4096, .inl (iA gY))), (mf, .inl (cA, 4096, .inl (iA gF))), (mt, .inl (cA, 4096, .inl (iA gU0)))] H := hP
            have hD : va_D A [(mo, .inr (4, [.int (iI (cs : Int)), .int (iI (rs : Int)), .ref mg, .ref mm, .int (iI (mv : Int)), .ref mx, .ref my, .ref mf, .int (iI (mp : Int)), .ref mt, .int (iI (mu0 : Int))])), (mg, .inl (cB, 65536, .inl (iA fB))), (mm, .inl (cS, 65536, .inl (iA fM1))), (mx, .inl (cA, 4096, .inl (iA gX))), (my, .inl (cA, 4096, .inl (iA gY))), (mf, .inl (cA, 4096, .inl (iA gF))), (mt, .inl (cA, 4096, .inl (iA gU0)))] := hD
            have e1 : rnJ fM1 cs rs mv = rnJ fM cs rs mv := rnJ_congr mv (fun j r k w1 w2 w3 => cpB_old j3 (by omega) (by omega) (by omega))
            have e2 : canJ fM1 cs rs (mv + 1) = canP (gM fM gX gY gF mp mv a1) cs rs 0 := canP_congr cs rs 0 (fun r k _ w2 w3 => cpB_end j3 (by omega) (by omega) (by omega) w3)
            have hrn := rnJ_le fM1 hc.2 hr_.2 mv
            have hcn := canJ_len fM1 (mv + 1) hc.2 hr_.2
            have hm1 := j3.1
            refine lv_aload_n hx hb dM_clip_97 rfl (lv_at hl 1 rfl) ?_
            refine lv_aload_n hx hb dM_clip_98 rfl (lv_at hl 1 rfl) ?_
            refine va_get (ci := 4) (v := .int (iI (mv : Int))) (C := "WindingRasterModel") (T := TM) (N := 11) hx hb hts in_4 hown hK hP 0 rfl rfl 4 (by decide) fl_96 (fun _ h9 => h9) rfl dM_clip_99 ?_
            refine cs_i (va_runV (As := [.int (iI (mv : Int))]) (rest := []) ⟨hx, hb, hml, hown, hts⟩ (m_runsTo l D cA cB cS mo cs rs mg mm mx my mf mt fB fM1 gX gY gF gU0 mv mp mu0 mv (by omega) hm1 (by omega) (by omega)) ⟨(callB_of 1 hts (gIn vm_359) rfl rfl rfl (hts _ (List.mem_cons_of_mem _ vm_8)) (hts _ (List.mem_cons_of_mem _ vm_357)) (by decide +kernel) ⟨Nat.le_of_ble_eq_true rfl, Nat.le_of_ble_eq_true rfl⟩), (hts _ (List.mem_cons_of_mem _ vm_358)), (hts _ (List.mem_cons_of_mem _ vm_429))⟩ (pR.preV (va_recv hK hP (ci := 4) (q0 := 0) rfl rfl) (hP.sub [0, 1, 2, 3, 4, 5, 6] rfl) hKW) rfl rfl hl.1 rfl (lv_room (Nat.le_of_ble_eq_true rfl)) dM_clip_102 ⟨Nat.le_of_ble_eq_true rfl, Nat.le_of_ble_eq_true rfl⟩) (fun z_1 hz_1 => ?_)
            subst hz_1
            refine lv_aload_n hx hb dM_clip_105 rfl (lv_at hl 1 rfl) ?_
            refine lv_aload_n hx hb dM_clip_106 rfl (lv_at hl 1 rfl) ?_
            refine va_get (ci := 4) (v := .int (iI (mv : Int))) (C := "WindingRasterModel") (T := TM) (N := 11) hx hb hts in_4 hown hK hP 0 rfl rfl 4 (by decide) fl_96 (fun _ h9 => h9) rfl dM_clip_107 ?_
            refine ii_iconst (n := 1) hx hb dM_clip_110 ?_
            refine ii_iadd hx hb dM_clip_111 ?_
            refine ii_top (y := ((mv + 1 : Nat) : Int)) (by push_cast; rfl) ?_
            refine cs_i (va_runV (As := [.int (iI ((mv + 1 : Nat) : Int))]) (rest := [.int (iI ((rnJ fM1 cs rs mv : Nat) : Int))]) ⟨hx, hb, hml, hown, hts⟩ (m_runsOf l D cA cB cS mo cs rs mg mm mx my mf mt fB fM1 gX gY gF gU0 mv mp mu0 (mv + 1) (by omega) hm1 (by omega) (by omega)) ⟨(callB_of 1 hts (gIn vm_362) rfl rfl rfl (hts _ (List.mem_cons_of_mem _ vm_8)) (hts _ (List.mem_cons_of_mem _ vm_360)) (by decide +kernel) ⟨Nat.le_of_ble_eq_true rfl, Nat.le_of_ble_eq_true rfl⟩), (hts _ (List.mem_cons_of_mem _ vm_361)), (hts _ (List.mem_cons_of_mem _ vm_430))⟩ (pR.preV (va_recv hK hP (ci := 4) (q0 := 0) rfl rfl) (hP.sub [0, 1, 2, 3, 4, 5, 6] rfl) hKW) rfl rfl hl.1 rfl (lv_room (Nat.le_of_ble_eq_true rfl)) dM_clip_112 ⟨Nat.le_of_ble_eq_true rfl, Nat.le_of_ble_eq_true rfl⟩) (fun z_2 hz_2 => ?_)
            subst hz_2
            refine ii_iadd hx hb dM_clip_115 ?_
            refine ii_top (y := (((rnJ fM1 cs rs mv) + ((canJ fM1 cs rs (mv + 1)).length) : Nat) : Int)) (by push_cast; rfl) ?_
            refine ii_sipush (n := 24000) hx hb dM_clip_116 (by decide +kernel) ?_
            refine ii_icmp_le (tgt := 125) hx hb dM_clip_119 (by decide) (by omega) (by omega) (fun c119 => ?_) (fun c119 => ?_)
            · refine ii_iconst (n := 0) hx hb dM_clip_125 ?_
              refine lv_istore_n (lv' := [(2, .int (iI 0)), (0, .ref mo), (1, .int (iI a1))]) hx hb dM_clip_126 rfl hl (by decide) rfl (fun ls hl => ?_)
              have lp127 : ∀ (n_ : Nat) (kr : Nat) (fK : Nat → Int), (kr ≤ rs) → (cpB (mkF fM1 (mv + 1)) mv cs kr 0 fM1 fK) → (rs - kr) < n_ → ∀ (H : Heap) (locs : List Loc), va_P D vwCl [(mo, .inr (4, [.int (iI (cs : Int)), .int (iI (rs : Int)), .ref mg, .ref mm, .int (iI (mv : Int)), .ref mx, .ref my, .ref mf, .int (iI (mp : Int)), .ref mt, .int (iI (mu0 : Int))])), (mg, .inl (cB, 65536, .inl (iA fB))), (mm, .inl (cS, 65536, .inl (iA fK))), (mx, .inl (cA, 4096, .inl (iA gX))), (my, .inl (cA, 4096, .inl (iA gY))), (mf, .inl (cA, 4096, .inl (iA gF))), (mt, .inl (cA, 4096, .inl (iA gU0)))] H → va_D A [(mo, .inr (4, [.int (iI (cs : Int)), .int (iI (rs : Int)), .ref mg, .ref mm, .int (iI (mv : Int)), .ref mx, .ref my, .ref mf, .int (iI (mp : Int)), .ref mt, .int (iI (mu0 : Int))])), (mg, .inl (cB, 65536, .inl (iA fB))), (mm, .inl (cS, 65536, .inl (iA fK))), (mx, .inl (cA, 4096, .inl (iA gX))), (my, .inl (cA, 4096, .inl (iA gY))), (mf, .inl (cA, 4096, .inl (iA gF))), (mt, .inl (cA, 4096, .inl (iA gU0)))] → va_S A s.heap H locs → ∀ ls : Array Slot, lv_has ls 4 [(2, .int (iI (kr : Int))), (0, .ref mo), (1, .int (iI a1))] → W p l e (headSpec wM_clip rm_m_clip).room s m [.ref mo, .int (iI a1)].toArray below meth c H locs 0 0 QQ (F0 m 127 ls []) := by
                intro n_
                induction n_ with
                | zero =>
                  intro kr fK i1 i3 hm_
                  exact absurd hm_ (Nat.not_lt_zero _)
                | succ n_ ih_lp127 =>
                  intro kr fK i1 i3 hm_lp127 H locs hP hD hS ls hl
                  refine lv_iload_n hx hb dM_clip_127 rfl (lv_at hl 0 rfl) ?_
                  refine lv_aload_n hx hb dM_clip_128 rfl (lv_at hl 1 rfl) ?_
                  refine va_get (ci := 4) (v := .int (iI (rs : Int))) (C := "WindingRasterModel") (T := TM) (N := 11) hx hb hts in_4 hown hK hP 0 rfl rfl 1 (by decide) fl_39 (fun _ h9 => h9) rfl dM_clip_129 ?_
                  refine ii_icmp_ge (tgt := 185) hx hb dM_clip_132 (by decide) (by omega) (by omega) (fun c132 => ?_) (fun c132 => ?_)
                  · have ekr : kr = rs := by omega
                    rw [ekr] at i3
                    have e3 : canJ fK cs rs mv = canP (gM fM gX gY gF mp mv a1) cs rs 0 := by rw [← e2]; exact canP_congr cs rs 0 (fun r k _ w2 w3 => cpB_end i3 (by omega) (by omega) (by omega) w3)
                    have hm2 := i3.1
                    refine lv_aload_n hx hb dM_clip_185 rfl (lv_at hl 1 rfl) ?_
                    refine cs_i (va_runV (As := []) (rest := []) ⟨hx, hb, hml, hown, hts⟩ (m_pixels l D cA cB cS mo cs rs mg mm mx my mf mt fB fK gX gY gF gU0 mv mp mu0 (by omega) hm2 (by omega) (by omega)) ⟨(callB_of 0 hts (gIn vm_366) rfl rfl rfl (hts _ (List.mem_cons_of_mem _ vm_8)) (hts _ (List.mem_cons_of_mem _ vm_363)) (by decide +kernel) ⟨Nat.le_of_ble_eq_true rfl, Nat.le_of_ble_eq_true rfl⟩), (hts _ (List.mem_cons_of_mem _ vm_364)), (hts _ (List.mem_cons_of_mem _ vm_365))⟩ (pR.preV (va_recv hK hP (ci := 4) (q0 := 0) rfl rfl) (hP.sub [0, 1, 2, 3, 4, 5, 6] rfl) hKW) rfl rfl hl.1 rfl (lv_room (Nat.le_of_ble_eq_true rfl)) dM_clip_186 ⟨Nat.le_of_ble_eq_true rfl, Nat.le_of_ble_eq_true rfl⟩) (fun z_3 hz_3 => ?_)
                    subst hz_3
                    rw [← hQ]
                    exact wr_iret (fK, gU0, mu0) hx hb hr hlocks hAe (hP.sub [0, 1, 2, 3, 4, 5, 6] rfl) (hD.sub [0, 1, 2, 3, 4, 5, 6] (by decide) rfl) hS (Or.inr (Or.inr ⟨by omega, by rw [← e1, ← e2]; omega, by rw [e3], hm2, fun q w1 i w2 => (i3.2.1 q w1 i (by omega)).trans (j3.2.1 q w1 i (by omega)), fun r k w1 w2 => (cpB_end i3 (by omega) (by omega) w1 w2).trans (cpB_end j3 (by omega) (by omega) w1 w2)⟩)) dM_clip_189
                  · refine ii_iconst (n := 0) hx hb dM_clip_135 ?_
                    refine lv_istore_n (lv' := [(3, .int (iI 0)), (2, .int (iI (kr : Int))), (0, .ref mo), (1, .int (iI a1))]) hx hb dM_clip_136 rfl hl (by decide) rfl (fun ls hl => ?_)
                    have lp137 : ∀ (n_ : Nat) (kc : Nat) (fK2 : Nat → Int), (kc ≤ cs) → (cpB (mkF fM1 (mv + 1)) mv cs kr kc fM1 fK2) → (cs - kc) < n_ → ∀ (H : Heap) (locs : List Loc), va_P D vwCl [(mo, .inr (4, [.int (iI (cs : Int)), .int (iI (rs : Int)), .ref mg, .ref mm, .int (iI (mv : Int)), .ref mx, .ref my, .ref mf, .int (iI (mp : Int)), .ref mt, .int (iI (mu0 : Int))])), (mg, .inl (cB, 65536, .inl (iA fB))), (mm, .inl (cS, 65536, .inl (iA fK2))), (mx, .inl (cA, 4096, .inl (iA gX))), (my, .inl (cA, 4096, .inl (iA gY))), (mf, .inl (cA, 4096, .inl (iA gF))), (mt, .inl (cA, 4096, .inl (iA gU0)))] H → va_D A [(mo, .inr (4, [.int (iI (cs : Int)), .int (iI (rs : Int)), .ref mg, .ref mm, .int (iI (mv : Int)), .ref mx, .ref my, .ref mf, .int (iI (mp : Int)), .ref mt, .int (iI (mu0 : Int))])), (mg, .inl (cB, 65536, .inl (iA fB))), (mm, .inl (cS, 65536, .inl (iA fK2))), (mx, .inl (cA, 4096, .inl (iA gX))), (my, .inl (cA, 4096, .inl (iA gY))), (mf, .inl (cA, 4096, .inl (iA gF))), (mt, .inl (cA, 4096, .inl (iA gU0)))] → va_S A s.heap H locs → ∀ ls : Array Slot, lv_has ls 4 [(3, .int (iI (kc : Int))), (2, .int (iI (kr : Int))), (0, .ref mo), (1, .int (iI a1))] → W p l e (headSpec wM_clip rm_m_clip).room s m [.ref mo, .int (iI a1)].toArray below meth c H locs 0 0 QQ (F0 m 137 ls []) := by
                      intro n_
                      induction n_ with
                      | zero =>
                        intro kc fK2 k1 k3 hm_
                        exact absurd hm_ (Nat.not_lt_zero _)
                      | succ n_ ih_lp137 =>
                        intro kc fK2 k1 k3 hm_lp137 H locs hP hD hS ls hl
                        refine lv_iload_n hx hb dM_clip_137 rfl (lv_at hl 0 rfl) ?_
                        refine lv_aload_n hx hb dM_clip_138 rfl (lv_at hl 2 rfl) ?_
                        refine va_get (ci := 4) (v := .int (iI (cs : Int))) (C := "WindingRasterModel") (T := TM) (N := 11) hx hb hts in_4 hown hK hP 0 rfl rfl 0 (by decide) fl_35 (fun _ h9 => h9) rfl dM_clip_139 ?_
                        refine ii_icmp_ge (tgt := 179) hx hb dM_clip_142 (by decide) (by omega) (by omega) (fun c142 => ?_) (fun c142 => ?_)
                        · refine lv_iinc (v := iI ((kr + 1 : Nat) : Int)) (lv' := [(2, .int (iI ((kr + 1 : Nat) : Int))), (3, .int (iI (kc : Int))), (0, .ref mo), (1, .int (iI a1))]) hx hb dM_clip_179 hl (k := 1) rfl (iI_inc _ 1 (by omega)) (by decide) rfl (fun ls hl => ?_)
                          refine lv_goto (tgt := 127) hx hb dM_clip_182 (by decide) ?_
                          exact ih_lp127 (kr + 1) fK2 (by omega) (cpB_row k3 (by omega)) (by omega) _ _ (hP.sub [0, 1, 2, 3, 4, 5, 6] rfl) (hD.sub [0, 1, 2, 3, 4, 5, 6] (by decide) rfl) hS _ (lv_sub hl [0, 2, 3] rfl)
                        · refine lv_aload_n hx hb dM_clip_145 rfl (lv_at hl 2 rfl) ?_
                          refine lv_iload_n hx hb dM_clip_146 rfl (lv_at hl 0 rfl) ?_
                          refine lv_iload_n hx hb dM_clip_147 rfl (lv_at hl 1 rfl) ?_
                          refine cs_i (va_runS (As := [.int (iI (kc : Int)), .int (iI (kr : Int))]) (rest := [.ref mo]) ⟨hx, hb, hml, hown, hts⟩ (m_at l D cA cB cS kc kr) ⟨(callB_of 2 hts (gIn vm_343) rfl rfl rfl (hts _ (List.mem_cons_of_mem _ vm_8)) (hts _ (List.mem_cons_of_mem _ vm_341)) (by decide +kernel) ⟨Nat.le_of_ble_eq_true rfl, Nat.le_of_ble_eq_true rfl⟩), (hts _ (List.mem_cons_of_mem _ vm_342))⟩ (pR.pre (hP.sub [] rfl) hKW) rfl rfl hl.1 rfl (lv_room (Nat.le_of_ble_eq_true rfl)) dM_clip_148 ⟨Nat.le_of_ble_eq_true rfl, Nat.le_of_ble_eq_true rfl⟩) (fun z_4 hz_4 => ?_)
                          subst hz_4
                          refine lv_aload_n hx hb dM_clip_151 rfl (lv_at hl 2 rfl) ?_
                          refine va_get (ci := 4) (v := .int (iI (mv : Int))) (C := "WindingRasterModel") (T := TM) (N := 11) hx hb hts in_4 hown hK hP 0 rfl rfl 4 (by decide) fl_96 (fun _ h9 => h9) rfl dM_clip_152 ?_
                          refine lv_aload_n hx hb dM_clip_155 rfl (lv_at hl 2 rfl) ?_
                          refine lv_iload_n hx hb dM_clip_156 rfl (lv_at hl 0 rfl) ?_
                          refine lv_iload_n hx hb dM_clip_157 rfl (lv_at hl 1 rfl) ?_
                          refine cs_i (va_runS (As := [.int (iI (kc : Int)), .int (iI (kr : Int))]) (rest := [.ref mo, .int (iI (mv : Int)), .int (iI ((256 * kr + kc : Nat) : Int)), .ref mo]) ⟨hx, hb, hml, hown, hts⟩ (m_at l D cA cB cS kc kr) ⟨(callB_of 2 hts (gIn vm_343) rfl rfl rfl (hts _ (List.mem_cons_of_mem _ vm_8)) (hts _ (List.mem_cons_of_mem _ vm_341)) (by decide +kernel) ⟨Nat.le_of_ble_eq_true rfl, Nat.le_of_ble_eq_true rfl⟩), (hts _ (List.mem_cons_of_mem _ vm_342))⟩ (pR.pre (hP.sub [] rfl) hKW) rfl rfl hl.1 rfl (lv_room (Nat.le_of_ble_eq_true rfl)) dM_clip_158 ⟨Nat.le_of_ble_eq_true rfl, Nat.le_of_ble_eq_true rfl⟩) (fun z_5 hz_5 => ?_)
                          subst hz_5
                          refine lv_aload_n hx hb dM_clip_161 rfl (lv_at hl 2 rfl) ?_
                          refine va_get (ci := 4) (v := .int (iI (mv : Int))) (C := "WindingRasterModel") (T := TM) (N := 11) hx hb hts in_4 hown hK hP 0 rfl rfl 4 (by decide) fl_96 (fun _ h9 => h9) rfl dM_clip_162 ?_
                          refine ii_iconst (n := 1) hx hb dM_clip_165 ?_
                          refine ii_iadd hx hb dM_clip_166 ?_
                          refine ii_top (y := ((mv + 1 : Nat) : Int)) (by push_cast; rfl) ?_
                          refine cs_i (va_runV (As := [.int (iI ((256 * kr + kc : Nat) : Int)), .int (iI ((mv + 1 : Nat) : Int))]) (rest := [.int (iI (mv : Int)), .int (iI ((256 * kr + kc : Nat) : Int)), .ref mo]) ⟨hx, hb, hml, hown, hts⟩ (m_isOpen l D cA cB cS mo cs rs mg mm mx my mf mt fB fK2 gX gY gF gU0 mv mp mu0 (256 * kr + kc) (mv + 1) (by omega) (by omega) k3.1) ⟨(callB_of 2 hts (gIn vm_346) rfl rfl rfl (hts _ (List.mem_cons_of_mem _ vm_8)) (hts _ (List.mem_cons_of_mem _ vm_344)) (by decide +kernel) ⟨Nat.le_of_ble_eq_true rfl, Nat.le_of_ble_eq_true rfl⟩), (hts _ (List.mem_cons_of_mem _ vm_345)), (hts _ (List.mem_cons_of_mem _ vm_427))⟩ (pR.preV (va_recv hK hP (ci := 4) (q0 := 0) rfl rfl) (hP.sub [0, 1, 2, 3, 4, 5, 6] rfl) hKW) rfl rfl hl.1 rfl (lv_room (Nat.le_of_ble_eq_true rfl)) dM_clip_167 ⟨Nat.le_of_ble_eq_true rfl, Nat.le_of_ble_eq_true rfl⟩) (fun zo hzo => ?_)
                          have hob : decide (zo = 1) = mkF fM1 (mv + 1) kr kc := by
                            rw [← cpB_old k3 (by omega) (by omega) (by omega)]
                            rcases hzo with v | v
                            · show _ = (fK2 (256 * kr + kc)).toNat.testBit (mv + 1)
                              rw [v.2, decide_eq_true v.1]
                            · show _ = (fK2 (256 * kr + kc)).toNat.testBit (mv + 1)
                              rw [Bool.eq_false_iff.mpr v.2, decide_eq_false (by omega)]
                          refine cw_v (wc := [(mo, .inr (4, [.int (iI (cs : Int)), .int (iI (rs : Int)), .ref mg, .ref mm, .int (iI (mv : Int)), .ref mx, .ref my, .ref mf, .int (iI (mp : Int)), .ref mt, .int (iI (mu0 : Int))])), (mg, .inl (cB, 65536, .inl (iA fB))), (mm, .inl (cS, 65536, .inl (iA fK2))), (mx, .inl (cA, 4096, .inl (iA gX))), (my, .inl (cA, 4096, .inl (iA gY))), (mf, .inl (cA, 4096, .inl (iA gF))), (mt, .inl (cA, 4096, .inl (iA gU0)))]) (wr := []) hP hD hS hA [0, 1, 2, 3, 4, 5, 6] [] rfl rfl (by decide) (by decide) (va_runV (As := [.int (iI ((256 * kr + kc : Nat) : Int)), .int (iI (mv : Int)), .int (iI zo)]) (rest := []) ⟨hx, hb, hml, hown, hts⟩ (m_setOpen l D cA cB cS mo cs rs mg mm mx my mf mt fB fK2 gX gY gF gU0 mv mp mu0 (256 * kr + kc) mv zo (by omega) (by omega) k3.1 (by omega) _) ⟨(callB_of 3 hts (gIn vm_356) rfl rfl rfl (hts _ (List.mem_cons_of_mem _ vm_8)) (hts _ (List.mem_cons_of_mem _ vm_354)) (by decide +kernel) ⟨Nat.le_of_ble_eq_true rfl, Nat.le_of_ble_eq_true rfl⟩), (hts _ (List.mem_cons_of_mem _ vm_355)), (hts _ (List.mem_cons_of_mem _ vm_428))⟩ (pW.preV (va_recv hK hP (ci := 4) (q0 := 0) rfl rfl) (hP.sub [0, 1, 2, 3, 4, 5, 6] rfl) (hD.sub [0, 1, 2, 3, 4, 5, 6] (by decide) rfl) hKW) rfl rfl hl.1 rfl (lv_room (Nat.le_of_ble_eq_true rfl)) dM_clip_170 ⟨Nat.le_of_ble_eq_true rfl, Nat.le_of_ble_eq_true rfl⟩) (fun u_6 H locs hzs hP hD hS => ?_)
                          obtain ⟨fL, rfl⟩ : ∃ z_, z_ = u_6 := ⟨_, rfl⟩
                          try dsimp only at hzs
                          have hP : va_P D vwCl [(mo, .inr (4, [.int (iI (cs : Int)), .int (iI (rs : Int)), .ref mg, .ref mm, .int (iI (mv : Int)), .ref mx, .ref my, .ref mf, .int (iI (mp : Int)), .ref mt, .int (iI (mu0 : Int))])), (mg, .inl (cB, 65536, .inl (iA fB))), (mm, .inl (cS, 65536, .inl (iA fL))), (mx, .inl (cA, 4096, .inl (iA gX))), (my, .inl (cA, 4096, .inl (iA gY))), (mf, .inl (cA, 4096, .inl (iA gF))), (mt, .inl (cA, 4096, .inl (iA gU0)))] H := hP
                          have hD : va_D A [(mo, .inr (4, [.int (iI (cs : Int)), .int (iI (rs : Int)), .ref mg, .ref mm, .int (iI (mv : Int)), .ref mx, .ref my, .ref mf, .int (iI (mp : Int)), .ref mt, .int (iI (mu0 : Int))])), (mg, .inl (cB, 65536, .inl (iA fB))), (mm, .inl (cS, 65536, .inl (iA fL))), (mx, .inl (cA, 4096, .inl (iA gX))), (my, .inl (cA, 4096, .inl (iA gY))), (mf, .inl (cA, 4096, .inl (iA gF))), (mt, .inl (cA, 4096, .inl (iA gU0)))] := hD
                          refine lv_iinc (v := iI ((kc + 1 : Nat) : Int)) (lv' := [(3, .int (iI ((kc + 1 : Nat) : Int))), (2, .int (iI (kr : Int))), (0, .ref mo), (1, .int (iI a1))]) hx hb dM_clip_173 hl (k := 0) rfl (iI_inc _ 1 (by omega)) (by decide) rfl (fun ls hl => ?_)
                          refine lv_goto (tgt := 137) hx hb dM_clip_176 (by decide) ?_
                          exact ih_lp137 (kc + 1) fL (by omega) (cpB_S k3 (by omega) (by omega) hob hzs) (by omega) _ _ (hP.sub [0, 1, 2, 3, 4, 5, 6] rfl) (hD.sub [0, 1, 2, 3, 4, 5, 6] (by decide) rfl) hS _ (lv_sub hl [0, 1, 2, 3] rfl)
                    exact lp137 (cs - 0 + 1) 0 fK (by omega) i3 (Nat.lt_succ_self _) _ _ (hP.sub [0, 1, 2, 3, 4, 5, 6] rfl) (hD.sub [0, 1, 2, 3, 4, 5, 6] (by decide) rfl) hS _ (lv_sub hl [0, 1, 2, 3] rfl)
              exact lp127 (rs - 0 + 1) 0 fM1 (by omega) (cpB_0 _ _ _ j3.1) (Nat.lt_succ_self _) _ _ (hP.sub [0, 1, 2, 3, 4, 5, 6] rfl) (hD.sub [0, 1, 2, 3, 4, 5, 6] (by decide) rfl) hS _ (lv_sub hl [0, 1, 2] rfl)
            · refine ii_bipush (n := (-3)) hx hb dM_clip_122 (by decide +kernel) ?_
              rw [← hQ]
              exact wr_iret (fM1, gU0, mu0) hx hb hr hlocks hAe (hP.sub [0, 1, 2, 3, 4, 5, 6] rfl) (hD.sub [0, 1, 2, 3, 4, 5, 6] (by decide) rfl) hS (Or.inr (Or.inl ⟨by omega, rfl, by rw [← e1, ← e2]; omega, hm1, fun q w1 i w2 => j3.2.1 q w1 i (by omega)⟩)) dM_clip_124
          · refine lv_aload_n hx hb dM_clip_21 rfl (lv_at hl 1 rfl) ?_
            refine lv_iload_n hx hb dM_clip_22 rfl (lv_at hl 0 rfl) ?_
            refine cw_v (wc := [(mo, .inr (4, [.int (iI (cs : Int)), .int (iI (rs : Int)), .ref mg, .ref mm, .int (iI (mv : Int)), .ref mx, .ref my, .ref mf, .int (iI (mp : Int)), .ref mt, .int (iI (mu : Int))])), (mg, .inl (cB, 65536, .inl (iA fB))), (mm, .inl (cS, 65536, .inl (iA fK))), (mx, .inl (cA, 4096, .inl (iA gX))), (my, .inl (cA, 4096, .inl (iA gY))), (mf, .inl (cA, 4096, .inl (iA gF))), (mt, .inl (cA, 4096, .inl (iA gU)))]) (wr := []) hP hD hS hA [0, 1, 2, 3, 4, 5, 6] [] rfl rfl (by decide) (by decide) (va_runV (As := [.int (iI (kr : Int))]) (rest := []) ⟨hx, hb, hml, hown, hts⟩ (m_meet l D cA cB cS mo cs rs mg mm mx my mf mt fB fK gX gY gF gU mv mp mu kr (by omega) hf hp (by omega) _) ⟨(callB_of 1 hts (gIn vm_322) rfl rfl rfl (hts _ (List.mem_cons_of_mem _ vm_8)) (hts _ (List.mem_cons_of_mem _ vm_320)) (by decide +kernel) ⟨Nat.le_of_ble_eq_true rfl, Nat.le_of_ble_eq_true rfl⟩), (hts _ (List.mem_cons_of_mem _ vm_321)), (hts _ (List.mem_cons_of_mem _ vm_423))⟩ (pW.preV (va_recv hK hP (ci := 4) (q0 := 0) rfl rfl) (hP.sub [0, 1, 2, 3, 4, 5, 6] rfl) (hD.sub [0, 1, 2, 3, 4, 5, 6] (by decide) rfl) hKW) rfl rfl hl.1 rfl (lv_room (Nat.le_of_ble_eq_true rfl)) dM_clip_23 ⟨Nat.le_of_ble_eq_true rfl, Nat.le_of_ble_eq_true rfl⟩) (fun u_7 H locs hzm hP hD hS => ?_)
            obtain ⟨gU1, mu1⟩ := u_7
            try dsimp only at hzm
            have hP : va_P D vwCl [(mo, .inr (4, [.int (iI (cs : Int)), .int (iI (rs : Int)), .ref mg, .ref mm, .int (iI (mv : Int)), .ref mx, .ref my, .ref mf, .int (iI (mp : Int)), .ref mt, .int (iI (mu1 : Int))])), (mg, .inl (cB, 65536, .inl (iA fB))), (mm, .inl (cS, 65536, .inl (iA fK))), (mx, .inl (cA, 4096, .inl (iA gX))), (my, .inl (cA, 4096, .inl (iA gY))), (mf, .inl (cA, 4096, .inl (iA gF))), (mt, .inl (cA, 4096, .inl (iA gU1)))] H := hP
            have hD : va_D A [(mo, .inr (4, [.int (iI (cs : Int)), .int (iI (rs : Int)), .ref mg, .ref mm, .int (iI (mv : Int)), .ref mx, .ref my, .ref mf, .int (iI (mp : Int)), .ref mt, .int (iI (mu1 : Int))])), (mg, .inl (cB, 65536, .inl (iA fB))), (mm, .inl (cS, 65536, .inl (iA fK))), (mx, .inl (cA, 4096, .inl (iA gX))), (my, .inl (cA, 4096, .inl (iA gY))), (mf, .inl (cA, 4096, .inl (iA gF))), (mt, .inl (cA, 4096, .inl (iA gU1)))] := hD
            refine ii_iconst (n := 0) hx hb dM_clip_26 ?_
            refine lv_istore_n (lv' := [(3, .int (iI 0)), (2, .int (iI (kr : Int))), (0, .ref mo), (1, .int (iI a1))]) hx hb dM_clip_27 rfl hl (by decide) rfl (fun ls hl => ?_)
            have lp28 : ∀ (n_ : Nat) (kc : Nat) (fK2 : Nat → Int), (kc ≤ cs) → (cpB (gM fM gX gY gF mp mv a1) (mv + 1) cs kr kc fM fK2) → (cs - kc) < n_ → ∀ (H : Heap) (locs : List Loc), va_P D vwCl [(mo, .inr (4, [.int (iI (cs : Int)), .int (iI (rs : Int)), .ref mg, .ref mm, .int (iI (mv : Int)), .ref mx, .ref my, .ref mf, .int (iI (mp : Int)), .ref mt, .int (iI (mu1 : Int))])), (mg, .inl (cB, 65536, .inl (iA fB))), (mm, .inl (cS, 65536, .inl (iA fK2))), (mx, .inl (cA, 4096, .inl (iA gX))), (my, .inl (cA, 4096, .inl (iA gY))), (mf, .inl (cA, 4096, .inl (iA gF))), (mt, .inl (cA, 4096, .inl (iA gU1)))] H → va_D A [(mo, .inr (4, [.int (iI (cs : Int)), .int (iI (rs : Int)), .ref mg, .ref mm, .int (iI (mv : Int)), .ref mx, .ref my, .ref mf, .int (iI (mp : Int)), .ref mt, .int (iI (mu1 : Int))])), (mg, .inl (cB, 65536, .inl (iA fB))), (mm, .inl (cS, 65536, .inl (iA fK2))), (mx, .inl (cA, 4096, .inl (iA gX))), (my, .inl (cA, 4096, .inl (iA gY))), (mf, .inl (cA, 4096, .inl (iA gF))), (mt, .inl (cA, 4096, .inl (iA gU1)))] → va_S A s.heap H locs → ∀ ls : Array Slot, lv_has ls 4 [(3, .int (iI (kc : Int))), (2, .int (iI (kr : Int))), (0, .ref mo), (1, .int (iI a1))] → W p l e (headSpec wM_clip rm_m_clip).room s m [.ref mo, .int (iI a1)].toArray below meth c H locs 0 0 QQ (F0 m 28 ls []) := by
              intro n_
              induction n_ with
              | zero =>
                intro kc fK2 k1 k3 hm_
                exact absurd hm_ (Nat.not_lt_zero _)
              | succ n_ ih_lp28 =>
                intro kc fK2 k1 k3 hm_lp28 H locs hP hD hS ls hl
                refine lv_iload_n hx hb dM_clip_28 rfl (lv_at hl 0 rfl) ?_
                refine lv_aload_n hx hb dM_clip_29 rfl (lv_at hl 2 rfl) ?_
                refine va_get (ci := 4) (v := .int (iI (cs : Int))) (C := "WindingRasterModel") (T := TM) (N := 11) hx hb hts in_4 hown hK hP 0 rfl rfl 0 (by decide) fl_35 (fun _ h9 => h9) rfl dM_clip_30 ?_
                refine ii_icmp_ge (tgt := 91) hx hb dM_clip_33 (by decide) (by omega) (by omega) (fun c33 => ?_) (fun c33 => ?_)
                · refine lv_iinc (v := iI ((kr + 1 : Nat) : Int)) (lv' := [(2, .int (iI ((kr + 1 : Nat) : Int))), (3, .int (iI (kc : Int))), (0, .ref mo), (1, .int (iI a1))]) hx hb dM_clip_91 hl (k := 1) rfl (iI_inc _ 1 (by omega)) (by decide) rfl (fun ls hl => ?_)
                  refine lv_goto (tgt := 13) hx hb dM_clip_94 (by decide) ?_
                  exact ih_lp13 (kr + 1) fK2 gU1 mu1 (by omega) (cpB_row k3 (by omega)) (by omega) _ _ (hP.sub [0, 1, 2, 3, 4, 5, 6] rfl) (hD.sub [0, 1, 2, 3, 4, 5, 6] (by decide) rfl) hS _ (lv_sub hl [0, 2, 3] rfl)
                · refine lv_aload_n hx hb dM_clip_36 rfl (lv_at hl 2 rfl) ?_
                  refine lv_iload_n hx hb dM_clip_37 rfl (lv_at hl 0 rfl) ?_
                  refine lv_iload_n hx hb dM_clip_38 rfl (lv_at hl 1 rfl) ?_
                  refine cs_i (va_runS (As := [.int (iI (kc : Int)), .int (iI (kr : Int))]) (rest := [.ref mo]) ⟨hx, hb, hml, hown, hts⟩ (m_at l D cA cB cS kc kr) ⟨(callB_of 2 hts (gIn vm_343) rfl rfl rfl (hts _ (List.mem_cons_of_mem _ vm_8)) (hts _ (List.mem_cons_of_mem _ vm_341)) (by decide +kernel) ⟨Nat.le_of_ble_eq_true rfl, Nat.le_of_ble_eq_true rfl⟩), (hts _ (List.mem_cons_of_mem _ vm_342))⟩ (pR.pre (hP.sub [] rfl) hKW) rfl rfl hl.1 rfl (lv_room (Nat.le_of_ble_eq_true rfl)) dM_clip_39 ⟨Nat.le_of_ble_eq_true rfl, Nat.le_of_ble_eq_true rfl⟩) (fun z_8 hz_8 => ?_)
                  subst hz_8
                  refine lv_aload_n hx hb dM_clip_42 rfl (lv_at hl 2 rfl) ?_
                  refine va_get (ci := 4) (v := .int (iI (mv : Int))) (C := "WindingRasterModel") (T := TM) (N := 11) hx hb hts in_4 hown hK hP 0 rfl rfl 4 (by decide) fl_96 (fun _ h9 => h9) rfl dM_clip_43 ?_
                  refine ii_iconst (n := 1) hx hb dM_clip_46 ?_
                  refine ii_iadd hx hb dM_clip_47 ?_
                  refine ii_top (y := ((mv + 1 : Nat) : Int)) (by push_cast; rfl) ?_
                  refine lv_aload_n hx hb dM_clip_48 rfl (lv_at hl 2 rfl) ?_
                  refine lv_iload_n hx hb dM_clip_49 rfl (lv_at hl 0 rfl) ?_
                  refine lv_iload_n hx hb dM_clip_50 rfl (lv_at hl 1 rfl) ?_
                  refine cs_i (va_runS (As := [.int (iI (kc : Int)), .int (iI (kr : Int))]) (rest := [.ref mo, .int (iI ((mv + 1 : Nat) : Int)), .int (iI ((256 * kr + kc : Nat) : Int)), .ref mo]) ⟨hx, hb, hml, hown, hts⟩ (m_at l D cA cB cS kc kr) ⟨(callB_of 2 hts (gIn vm_343) rfl rfl rfl (hts _ (List.mem_cons_of_mem _ vm_8)) (hts _ (List.mem_cons_of_mem _ vm_341)) (by decide +kernel) ⟨Nat.le_of_ble_eq_true rfl, Nat.le_of_ble_eq_true rfl⟩), (hts _ (List.mem_cons_of_mem _ vm_342))⟩ (pR.pre (hP.sub [] rfl) hKW) rfl rfl hl.1 rfl (lv_room (Nat.le_of_ble_eq_true rfl)) dM_clip_51 ⟨Nat.le_of_ble_eq_true rfl, Nat.le_of_ble_eq_true rfl⟩) (fun z_9 hz_9 => ?_)
                  subst hz_9
                  refine lv_aload_n hx hb dM_clip_54 rfl (lv_at hl 2 rfl) ?_
                  refine va_get (ci := 4) (v := .int (iI (mv : Int))) (C := "WindingRasterModel") (T := TM) (N := 11) hx hb hts in_4 hown hK hP 0 rfl rfl 4 (by decide) fl_96 (fun _ h9 => h9) rfl dM_clip_55 ?_
                  refine cs_i (va_runV (As := [.int (iI ((256 * kr + kc : Nat) : Int)), .int (iI (mv : Int))]) (rest := [.int (iI ((mv + 1 : Nat) : Int)), .int (iI ((256 * kr + kc : Nat) : Int)), .ref mo]) ⟨hx, hb, hml, hown, hts⟩ (m_isOpen l D cA cB cS mo cs rs mg mm mx my mf mt fB fK2 gX gY gF gU1 mv mp mu1 (256 * kr + kc) mv (by omega) (by omega) k3.1) ⟨(callB_of 2 hts (gIn vm_346) rfl rfl rfl (hts _ (List.mem_cons_of_mem _ vm_8)) (hts _ (List.mem_cons_of_mem _ vm_344)) (by decide +kernel) ⟨Nat.le_of_ble_eq_true rfl, Nat.le_of_ble_eq_true rfl⟩), (hts _ (List.mem_cons_of_mem _ vm_345)), (hts _ (List.mem_cons_of_mem _ vm_427))⟩ (pR.preV (va_recv hK hP (ci := 4) (q0 := 0) rfl rfl) (hP.sub [0, 1, 2, 3, 4, 5, 6] rfl) hKW) rfl rfl hl.1 rfl (lv_room (Nat.le_of_ble_eq_true rfl)) dM_clip_58 ⟨Nat.le_of_ble_eq_true rfl, Nat.le_of_ble_eq_true rfl⟩) (fun zo hzo => ?_)
                  refine ii_if_eq (tgt := 81) hx hb dM_clip_61 (by decide) (by omega) (fun c61 => ?_) (fun c61 => ?_)
                  · have hoo : mkF fM mv kr kc = false := by rw [← cpB_old k3 (by omega) (by omega) (by omega)]; exact (by rcases hzo with v | v; (exfalso; omega); (exact Bool.eq_false_iff.mpr v.2))
                    have hob : decide ((0 : Int) = 1) = (gM fM gX gY gF mp mv a1) kr kc := by show _ = (mkF fM mv kr kc && _); rw [hoo, Bool.false_and]; rfl
                    refine ii_iconst (n := 0) hx hb dM_clip_81 ?_
                    refine cw_v (wc := [(mo, .inr (4, [.int (iI (cs : Int)), .int (iI (rs : Int)), .ref mg, .ref mm, .int (iI (mv : Int)), .ref mx, .ref my, .ref mf, .int (iI (mp : Int)), .ref mt, .int (iI (mu1 : Int))])), (mg, .inl (cB, 65536, .inl (iA fB))), (mm, .inl (cS, 65536, .inl (iA fK2))), (mx, .inl (cA, 4096, .inl (iA gX))), (my, .inl (cA, 4096, .inl (iA gY))), (mf, .inl (cA, 4096, .inl (iA gF))), (mt, .inl (cA, 4096, .inl (iA gU1)))]) (wr := []) hP hD hS hA [0, 1, 2, 3, 4, 5, 6] [] rfl rfl (by decide) (by decide) (va_runV (As := [.int (iI ((256 * kr + kc : Nat) : Int)), .int (iI ((mv + 1 : Nat) : Int)), .int (iI 0)]) (rest := []) ⟨hx, hb, hml, hown, hts⟩ (m_setOpen l D cA cB cS mo cs rs mg mm mx my mf mt fB fK2 gX gY gF gU1 mv mp mu1 (256 * kr + kc) (mv + 1) 0 (by omega) (by omega) k3.1 (by omega) _) ⟨(callB_of 3 hts (gIn vm_356) rfl rfl rfl (hts _ (List.mem_cons_of_mem _ vm_8)) (hts _ (List.mem_cons_of_mem _ vm_354)) (by decide +kernel) ⟨Nat.le_of_ble_eq_true rfl, Nat.le_of_ble_eq_true rfl⟩), (hts _ (List.mem_cons_of_mem _ vm_355)), (hts _ (List.mem_cons_of_mem _ vm_428))⟩ (pW.preV (va_recv hK hP (ci := 4) (q0 := 0) rfl rfl) (hP.sub [0, 1, 2, 3, 4, 5, 6] rfl) (hD.sub [0, 1, 2, 3, 4, 5, 6] (by decide) rfl) hKW) rfl rfl hl.1 rfl (lv_room (Nat.le_of_ble_eq_true rfl)) dM_clip_82 ⟨Nat.le_of_ble_eq_true rfl, Nat.le_of_ble_eq_true rfl⟩) (fun u_10 H locs hzs hP hD hS => ?_)
                    obtain ⟨fL, rfl⟩ : ∃ z_, z_ = u_10 := ⟨_, rfl⟩
                    try dsimp only at hzs
                    have hP : va_P D vwCl [(mo, .inr (4, [.int (iI (cs : Int)), .int (iI (rs : Int)), .ref mg, .ref mm, .int (iI (mv : Int)), .ref mx, .ref my, .ref mf, .int (iI (mp : Int)), .ref mt, .int (iI (mu1 : Int))])), (mg, .inl (cB, 65536, .inl (iA fB))), (mm, .inl (cS, 65536, .inl (iA fL))), (mx, .inl (cA, 4096, .inl (iA gX))), (my, .inl (cA, 4096, .inl (iA gY))), (mf, .inl (cA, 4096, .inl (iA gF))), (mt, .inl (cA, 4096, .inl (iA gU1)))] H := hP
                    have hD : va_D A [(mo, .inr (4, [.int (iI (cs : Int)), .int (iI (rs : Int)), .ref mg, .ref mm, .int (iI (mv : Int)), .ref mx, .ref my, .ref mf, .int (iI (mp : Int)), .ref mt, .int (iI (mu1 : Int))])), (mg, .inl (cB, 65536, .inl (iA fB))), (mm, .inl (cS, 65536, .inl (iA fL))), (mx, .inl (cA, 4096, .inl (iA gX))), (my, .inl (cA, 4096, .inl (iA gY))), (mf, .inl (cA, 4096, .inl (iA gF))), (mt, .inl (cA, 4096, .inl (iA gU1)))] := hD
                    refine lv_iinc (v := iI ((kc + 1 : Nat) : Int)) (lv' := [(3, .int (iI ((kc + 1 : Nat) : Int))), (2, .int (iI (kr : Int))), (0, .ref mo), (1, .int (iI a1))]) hx hb dM_clip_85 hl (k := 0) rfl (iI_inc _ 1 (by omega)) (by decide) rfl (fun ls hl => ?_)
                    refine lv_goto (tgt := 28) hx hb dM_clip_88 (by decide) ?_
                    exact ih_lp28 (kc + 1) fL (by omega) (cpB_S k3 (by omega) (by omega) hob hzs) (by omega) _ _ (hP.sub [0, 1, 2, 3, 4, 5, 6] rfl) (hD.sub [0, 1, 2, 3, 4, 5, 6] (by decide) rfl) hS _ (lv_sub hl [0, 1, 2, 3] rfl)
                  · have hoo : mkF fM mv kr kc = true := by rw [← cpB_old k3 (by omega) (by omega) (by omega)]; exact (by rcases hzo with v | v; (exact v.2); (exfalso; omega))
                    have hw0 := wiZ_rng gX gY (nxZ gF mp) ((kr * 65536 + 32768 : Nat) : Int) (kc : Int) mp
                    have hi0 := insB_iff a1 (wiZ gX gY (nxZ gF mp) mp ((kr * 65536 + 32768 : Nat) : Int) (kc : Int))
                    refine lv_aload_n hx hb dM_clip_64 rfl (lv_at hl 2 rfl) ?_
                    refine lv_iload_n hx hb dM_clip_65 rfl (lv_at hl 0 rfl) ?_
                    refine lv_iload_n hx hb dM_clip_66 rfl (lv_at hl 1 rfl) ?_
                    refine cs_i (va_runV (As := [.int (iI (kc : Int)), .int (iI (kr : Int))]) (rest := [.int (iI ((mv + 1 : Nat) : Int)), .int (iI ((256 * kr + kc : Nat) : Int)), .ref mo]) ⟨hx, hb, hml, hown, hts⟩ (m_windings l D cA cB cS mo cs rs mg mm mx my mf mt fB fK2 gX gY gF gU1 mv mp mu1 kc kr (by omega) hf hp (by omega) (by omega) hzm) ⟨(callB_of 2 hts (gIn vm_333) rfl rfl rfl (hts _ (List.mem_cons_of_mem _ vm_8)) (hts _ (List.mem_cons_of_mem _ vm_331)) (by decide +kernel) ⟨Nat.le_of_ble_eq_true rfl, Nat.le_of_ble_eq_true rfl⟩), (hts _ (List.mem_cons_of_mem _ vm_332)), (hts _ (List.mem_cons_of_mem _ vm_425))⟩ (pR.preV (va_recv hK hP (ci := 4) (q0 := 0) rfl rfl) (hP.sub [0, 1, 2, 3, 4, 5, 6] rfl) hKW) rfl rfl hl.1 rfl (lv_room (Nat.le_of_ble_eq_true rfl)) dM_clip_67 ⟨Nat.le_of_ble_eq_true rfl, Nat.le_of_ble_eq_true rfl⟩) (fun z_11 hz_11 => ?_)
                    subst hz_11
                    refine lv_iload_n hx hb dM_clip_70 rfl (lv_at hl 3 rfl) ?_
                    refine cs_i (va_runS (As := [.int (iI (wiZ gX gY (nxZ gF mp) mp ((kr * 65536 + 32768 : Nat) : Int) (kc : Int))), .int (iI a1)]) (rest := [.int (iI ((mv + 1 : Nat) : Int)), .int (iI ((256 * kr + kc : Nat) : Int)), .ref mo]) ⟨hx, hb, hml, hown, hts⟩ (m_isInside l D cA cB cS (wiZ gX gY (nxZ gF mp) mp ((kr * 65536 + 32768 : Nat) : Int) (kc : Int)) a1 (by omega) (by omega)) ⟨(callB_of 2 hts (gIn vm_349) rfl rfl rfl (hts _ (List.mem_cons_of_mem _ vm_8)) (hts _ (List.mem_cons_of_mem _ vm_347)) (by decide +kernel) ⟨Nat.le_of_ble_eq_true rfl, Nat.le_of_ble_eq_true rfl⟩), (hts _ (List.mem_cons_of_mem _ vm_348))⟩ (pR.pre (hP.sub [] rfl) hKW) rfl rfl hl.1 rfl (lv_room (Nat.le_of_ble_eq_true rfl)) dM_clip_71 ⟨Nat.le_of_ble_eq_true rfl, Nat.le_of_ble_eq_true rfl⟩) (fun zi hzi => ?_)
                    refine ii_if_eq (tgt := 81) hx hb dM_clip_74 (by decide) (by omega) (fun c74 => ?_) (fun c74 => ?_)
                    · have hz0 : insB a1 (wiZ gX gY (nxZ gF mp) mp ((kr * 65536 + 32768 : Nat) : Int) (kc : Int)) = false := Bool.eq_false_iff.mpr (fun w => (by rcases hzi with v | v; (exfalso; omega); (exact v.2 (hi0.mp w))))
                      have hob : decide ((0 : Int) = 1) = (gM fM gX gY gF mp mv a1) kr kc := by show _ = (mkF fM mv kr kc && insB a1 (wiZ gX gY (nxZ gF mp) mp ((kr * 65536 + 32768 : Nat) : Int) (kc : Int))); rw [hoo, Bool.true_and, hz0]; rfl
                      refine ii_iconst (n := 0) hx hb dM_clip_81 ?_
                      refine cw_v (wc := [(mo, .inr (4, [.int (iI (cs : Int)), .int (iI (rs : Int)), .ref mg, .ref mm, .int (iI (mv : Int)), .ref mx, .ref my, .ref mf, .int (iI (mp : Int)), .ref mt, .int (iI (mu1 : Int))])), (mg, .inl (cB, 65536, .inl (iA fB))), (mm, .inl (cS, 65536, .inl (iA fK2))), (mx, .inl (cA, 4096, .inl (iA gX))), (my, .inl (cA, 4096, .inl (iA gY))), (mf, .inl (cA, 4096, .inl (iA gF))), (mt, .inl (cA, 4096, .inl (iA gU1)))]) (wr := []) hP hD hS hA [0, 1, 2, 3, 4, 5, 6] [] rfl rfl (by decide) (by decide) (va_runV (As := [.int (iI ((256 * kr + kc : Nat) : Int)), .int (iI ((mv + 1 : Nat) : Int)), .int (iI 0)]) (rest := []) ⟨hx, hb, hml, hown, hts⟩ (m_setOpen l D cA cB cS mo cs rs mg mm mx my mf mt fB fK2 gX gY gF gU1 mv mp mu1 (256 * kr + kc) (mv + 1) 0 (by omega) (by omega) k3.1 (by omega) _) ⟨(callB_of 3 hts (gIn vm_356) rfl rfl rfl (hts _ (List.mem_cons_of_mem _ vm_8)) (hts _ (List.mem_cons_of_mem _ vm_354)) (by decide +kernel) ⟨Nat.le_of_ble_eq_true rfl, Nat.le_of_ble_eq_true rfl⟩), (hts _ (List.mem_cons_of_mem _ vm_355)), (hts _ (List.mem_cons_of_mem _ vm_428))⟩ (pW.preV (va_recv hK hP (ci := 4) (q0 := 0) rfl rfl) (hP.sub [0, 1, 2, 3, 4, 5, 6] rfl) (hD.sub [0, 1, 2, 3, 4, 5, 6] (by decide) rfl) hKW) rfl rfl hl.1 rfl (lv_room (Nat.le_of_ble_eq_true rfl)) dM_clip_82 ⟨Nat.le_of_ble_eq_true rfl, Nat.le_of_ble_eq_true rfl⟩) (fun u_12 H locs hzs hP hD hS => ?_)
                      obtain ⟨fL, rfl⟩ : ∃ z_, z_ = u_12 := ⟨_, rfl⟩
                      try dsimp only at hzs
                      have hP : va_P D vwCl [(mo, .inr (4, [.int (iI (cs : Int)), .int (iI (rs : Int)), .ref mg, .ref mm, .int (iI (mv : Int)), .ref mx, .ref my, .ref mf, .int (iI (mp : Int)), .ref mt, .int (iI (mu1 : Int))])), (mg, .inl (cB, 65536, .inl (iA fB))), (mm, .inl (cS, 65536, .inl (iA fL))), (mx, .inl (cA, 4096, .inl (iA gX))), (my, .inl (cA, 4096, .inl (iA gY))), (mf, .inl (cA, 4096, .inl (iA gF))), (mt, .inl (cA, 4096, .inl (iA gU1)))] H := hP
                      have hD : va_D A [(mo, .inr (4, [.int (iI (cs : Int)), .int (iI (rs : Int)), .ref mg, .ref mm, .int (iI (mv : Int)), .ref mx, .ref my, .ref mf, .int (iI (mp : Int)), .ref mt, .int (iI (mu1 : Int))])), (mg, .inl (cB, 65536, .inl (iA fB))), (mm, .inl (cS, 65536, .inl (iA fL))), (mx, .inl (cA, 4096, .inl (iA gX))), (my, .inl (cA, 4096, .inl (iA gY))), (mf, .inl (cA, 4096, .inl (iA gF))), (mt, .inl (cA, 4096, .inl (iA gU1)))] := hD
                      refine lv_iinc (v := iI ((kc + 1 : Nat) : Int)) (lv' := [(3, .int (iI ((kc + 1 : Nat) : Int))), (2, .int (iI (kr : Int))), (0, .ref mo), (1, .int (iI a1))]) hx hb dM_clip_85 hl (k := 0) rfl (iI_inc _ 1 (by omega)) (by decide) rfl (fun ls hl => ?_)
                      refine lv_goto (tgt := 28) hx hb dM_clip_88 (by decide) ?_
                      exact ih_lp28 (kc + 1) fL (by omega) (cpB_S k3 (by omega) (by omega) hob hzs) (by omega) _ _ (hP.sub [0, 1, 2, 3, 4, 5, 6] rfl) (hD.sub [0, 1, 2, 3, 4, 5, 6] (by decide) rfl) hS _ (lv_sub hl [0, 1, 2, 3] rfl)
                    · have hob : decide ((1 : Int) = 1) = (gM fM gX gY gF mp mv a1) kr kc := by show _ = (mkF fM mv kr kc && insB a1 _); rw [hoo, Bool.true_and, hi0.mpr (by rcases hzi with v | v; (exact v.2); (exfalso; omega))]; rfl
                      refine ii_iconst (n := 1) hx hb dM_clip_77 ?_
                      refine lv_goto (tgt := 82) hx hb dM_clip_78 (by decide) ?_
                      refine cw_v (wc := [(mo, .inr (4, [.int (iI (cs : Int)), .int (iI (rs : Int)), .ref mg, .ref mm, .int (iI (mv : Int)), .ref mx, .ref my, .ref mf, .int (iI (mp : Int)), .ref mt, .int (iI (mu1 : Int))])), (mg, .inl (cB, 65536, .inl (iA fB))), (mm, .inl (cS, 65536, .inl (iA fK2))), (mx, .inl (cA, 4096, .inl (iA gX))), (my, .inl (cA, 4096, .inl (iA gY))), (mf, .inl (cA, 4096, .inl (iA gF))), (mt, .inl (cA, 4096, .inl (iA gU1)))]) (wr := []) hP hD hS hA [0, 1, 2, 3, 4, 5, 6] [] rfl rfl (by decide) (by decide) (va_runV (As := [.int (iI ((256 * kr + kc : Nat) : Int)), .int (iI ((mv + 1 : Nat) : Int)), .int (iI 1)]) (rest := []) ⟨hx, hb, hml, hown, hts⟩ (m_setOpen l D cA cB cS mo cs rs mg mm mx my mf mt fB fK2 gX gY gF gU1 mv mp mu1 (256 * kr + kc) (mv + 1) 1 (by omega) (by omega) k3.1 (by omega) _) ⟨(callB_of 3 hts (gIn vm_356) rfl rfl rfl (hts _ (List.mem_cons_of_mem _ vm_8)) (hts _ (List.mem_cons_of_mem _ vm_354)) (by decide +kernel) ⟨Nat.le_of_ble_eq_true rfl, Nat.le_of_ble_eq_true rfl⟩), (hts _ (List.mem_cons_of_mem _ vm_355)), (hts _ (List.mem_cons_of_mem _ vm_428))⟩ (pW.preV (va_recv hK hP (ci := 4) (q0 := 0) rfl rfl) (hP.sub [0, 1, 2, 3, 4, 5, 6] rfl) (hD.sub [0, 1, 2, 3, 4, 5, 6] (by decide) rfl) hKW) rfl rfl hl.1 rfl (lv_room (Nat.le_of_ble_eq_true rfl)) dM_clip_82 ⟨Nat.le_of_ble_eq_true rfl, Nat.le_of_ble_eq_true rfl⟩) (fun u_13 H locs hzs hP hD hS => ?_)
                      obtain ⟨fL, rfl⟩ : ∃ z_, z_ = u_13 := ⟨_, rfl⟩
                      try dsimp only at hzs
                      have hP : va_P D vwCl [(mo, .inr (4, [.int (iI (cs : Int)), .int (iI (rs : Int)), .ref mg, .ref mm, .int (iI (mv : Int)), .ref mx, .ref my, .ref mf, .int (iI (mp : Int)), .ref mt, .int (iI (mu1 : Int))])), (mg, .inl (cB, 65536, .inl (iA fB))), (mm, .inl (cS, 65536, .inl (iA fL))), (mx, .inl (cA, 4096, .inl (iA gX))), (my, .inl (cA, 4096, .inl (iA gY))), (mf, .inl (cA, 4096, .inl (iA gF))), (mt, .inl (cA, 4096, .inl (iA gU1)))] H := hP
                      have hD : va_D A [(mo, .inr (4, [.int (iI (cs : Int)), .int (iI (rs : Int)), .ref mg, .ref mm, .int (iI (mv : Int)), .ref mx, .ref my, .ref mf, .int (iI (mp : Int)), .ref mt, .int (iI (mu1 : Int))])), (mg, .inl (cB, 65536, .inl (iA fB))), (mm, .inl (cS, 65536, .inl (iA fL))), (mx, .inl (cA, 4096, .inl (iA gX))), (my, .inl (cA, 4096, .inl (iA gY))), (mf, .inl (cA, 4096, .inl (iA gF))), (mt, .inl (cA, 4096, .inl (iA gU1)))] := hD
                      refine lv_iinc (v := iI ((kc + 1 : Nat) : Int)) (lv' := [(3, .int (iI ((kc + 1 : Nat) : Int))), (2, .int (iI (kr : Int))), (0, .ref mo), (1, .int (iI a1))]) hx hb dM_clip_85 hl (k := 0) rfl (iI_inc _ 1 (by omega)) (by decide) rfl (fun ls hl => ?_)
                      refine lv_goto (tgt := 28) hx hb dM_clip_88 (by decide) ?_
                      exact ih_lp28 (kc + 1) fL (by omega) (cpB_S k3 (by omega) (by omega) hob hzs) (by omega) _ _ (hP.sub [0, 1, 2, 3, 4, 5, 6] rfl) (hD.sub [0, 1, 2, 3, 4, 5, 6] (by decide) rfl) hS _ (lv_sub hl [0, 1, 2, 3] rfl)
            exact lp28 (cs - 0 + 1) 0 fK (by omega) i3 (Nat.lt_succ_self _) _ _ (hP.sub [0, 1, 2, 3, 4, 5, 6] rfl) (hD.sub [0, 1, 2, 3, 4, 5, 6] (by decide) rfl) hS _ (lv_sub hl [0, 1, 2, 3] rfl)
      exact lp13 (rs - 0 + 1) 0 fM gT me (by omega) (cpB_0 _ _ _ hm) (Nat.lt_succ_self _) _ _ (hP.sub [0, 1, 2, 3, 4, 5, 6] rfl) (hD.sub [0, 1, 2, 3, 4, 5, 6] (by decide) rfl) hS _ (lv_sub hl [0, 1, 2] rfl)
    · refine ii_iconst (n := (-1)) hx hb dM_clip_9 ?_
      rw [← hQ]
      exact wr_iret (fM, gT, me) hx hb hr hlocks hAe (hP.sub [0, 1, 2, 3, 4, 5, 6] rfl) (hD.sub [0, 1, 2, 3, 4, 5, 6] (by decide) rfl) hS (Or.inl ⟨rfl, by omega, rfl⟩) dM_clip_10
