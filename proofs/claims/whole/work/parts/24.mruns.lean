def rm_m_runsOf : Room := { frames := 1, cells := 0, slots := 0, locals := 22 }
set_option maxHeartbeats 4000000 in
set_option maxRecDepth 100000 in
theorem m_runsOf (l : Launch) (D : va_G) (cA cB cS : ClassId) (mo : Nat) (cs : Nat) (rs : Nat) (mg : Nat) (mm : Nat) (mx : Nat) (my : Nat) (mf : Nat) (mt : Nat) (fB : Nat → Int) (fM : Nat → Int) (gX : Nat → Int) (gY : Nat → Int) (gF : Nat → Int) (gT : Nat → Int) (mv : Nat) (mp : Nat) (me : Nat) (jj : Nat) (h1 : jj < 14) (hm : mRng fM) (hc : 0 < cs ∧ cs ≤ 256) (hr_ : 0 < rs ∧ rs ≤ 256) : Met l yM_runsOf wM_runsOf rm_m_runsOf (pR [.ref mo, .int (iI (jj : Int))] D vwCl (vwTy cA cB cS) vwNw [(mo, .inr (4, [.int (iI (cs : Int)), .int (iI (rs : Int)), .ref mg, .ref mm, .int (iI (mv : Int)), .ref mx, .ref my, .ref mf, .int (iI (mp : Int)), .ref mt, .int (iI (me : Int))])), (mg, .inl (cB, 65536, .inl (iA fB))), (mm, .inl (cS, 65536, .inl (iA fM))), (mx, .inl (cA, 4096, .inl (iA gX))), (my, .inl (cA, 4096, .inl (iA gY))), (mf, .inl (cA, 4096, .inl (iA gF))), (mt, .inl (cA, 4096, .inl (iA gT)))]) (qI (fun z => z = (((canJ fM cs rs jj).length : Nat) : Int))) 0 0 (fun _ => False) := by
  refine Met.ofW (cc := bM_runsOf) (maxL := 5) (ret := (some .int)) (by decide +kernel) rfl ?_
  intro p e s m args below meth c s₁ B hml hv
  obtain ⟨rfl, hP, hKW⟩ := hv
  have hK := hKW.1
  have hN := hKW.2.2
  have hx := B.exec
  have hb := B.bytes
  have hr := B.returns
  have hts := atoms_spec (ws := wM_runsOf) B.pre
  have hown : s.vm.findClass "WindingRasterModel" = some m.cls := findClass_of_methodNamed B.named
  have hlocks := B.notSynchronized
  have hP : va_P D vwCl [(mo, .inr (4, [.int (iI (cs : Int)), .int (iI (rs : Int)), .ref mg, .ref mm, .int (iI (mv : Int)), .ref mx, .ref my, .ref mf, .int (iI (mp : Int)), .ref mt, .int (iI (me : Int))])), (mg, .inl (cB, 65536, .inl (iA fB))), (mm, .inl (cS, 65536, .inl (iA fM))), (mx, .inl (cA, 4096, .inl (iA gX))), (my, .inl (cA, 4096, .inl (iA gY))), (mf, .inl (cA, 4096, .inl (iA gF))), (mt, .inl (cA, 4096, .inl (iA gT)))] s.heap := hP
  have in_4 : ∀ w ∈ wsM, w ∈ wM_runsOf := fun w h => List.mem_cons_of_mem _ (in0_M w h)
  have fl_39 := (hts _ (List.mem_cons_of_mem _ vm_262))
  have fl_35 := (hts _ (List.mem_cons_of_mem _ vm_261))
  have hl := lv_entry ([.ref mo, .int (iI (jj : Int))]) (n := 5) (Nat.le_of_ble_eq_true rfl)
  rw [lg_entry_eq]
  generalize (lg_sl ([.ref mo, .int (iI (jj : Int))]) ++ List.replicate (5 - (lg_sl ([.ref mo, .int (iI (jj : Int))])).length) Slot.unset).toArray = ls at hl ⊢
  have hl : lv_has ls 5 [(0, .ref mo), (1, .int (iI (jj : Int)))] := hl
  generalize hQ : MQ below (qI (fun z => z = (((canJ fM cs rs jj).length : Nat) : Int))) [.ref mo, .int (iI (jj : Int))].toArray s 0 0 (fun _ => False) = QQ
  refine ii_iconst (n := 0) hx hb dM_runsOf_0 ?_
  refine lv_istore_n (lv' := [(2, .int (iI 0)), (0, .ref mo), (1, .int (iI (jj : Int)))]) hx hb dM_runsOf_1 rfl hl (by decide) rfl (fun ls hl => ?_)
  refine ii_iconst (n := 0) hx hb dM_runsOf_2 ?_
  refine lv_istore_n (lv' := [(3, .int (iI 0)), (2, .int (iI 0)), (0, .ref mo), (1, .int (iI (jj : Int)))]) hx hb dM_runsOf_3 rfl hl (by decide) rfl (fun ls hl => ?_)
  have lp4 : ∀ (n_ : Nat) (kr : Nat) (nn : Nat), (kr ≤ rs) → (nn + (canP (mkF fM jj) cs (rs - kr) kr).length = (canJ fM cs rs jj).length) → (rs - kr) < n_ → ∀ ls : Array Slot, lv_has ls 5 [(3, .int (iI (kr : Int))), (2, .int (iI (nn : Int))), (0, .ref mo), (1, .int (iI (jj : Int)))] → W p l e (headSpec wM_runsOf rm_m_runsOf).room s m [.ref mo, .int (iI (jj : Int))].toArray below meth c s.heap [] 0 0 QQ (F0 m 4 ls []) := by
    intro n_
    induction n_ with
    | zero =>
      intro kr nn i1 i2 hm_
      exact absurd hm_ (Nat.not_lt_zero _)
    | succ n_ ih_lp4 =>
      intro kr nn i1 i2 hm_lp4 ls hl
      refine lv_iload_n hx hb dM_runsOf_4 rfl (lv_at hl 0 rfl) ?_
      refine lv_aload_n hx hb dM_runsOf_5 rfl (lv_at hl 2 rfl) ?_
      refine va_get (ci := 4) (v := .int (iI (rs : Int))) (C := "WindingRasterModel") (T := TM) (N := 11) hx hb hts in_4 hown hK hP 0 rfl rfl 1 (by decide) fl_39 (fun _ h9 => h9) rfl dM_runsOf_6 ?_
      refine ii_icmp_ge (tgt := 74) hx hb dM_runsOf_9 (by decide) (by omega) (by omega) (fun c9 => ?_) (fun c9 => ?_)
      · refine lv_iload_n hx hb dM_runsOf_74 rfl (lv_at hl 1 rfl) ?_
        rw [← hQ]
        exact rd_iret hx hb hr hlocks (by rw [show rs - kr = 0 by omega, canP_0] at i2; have e0 : ([] : List Run3).length = 0 := rfl; omega) dM_runsOf_75
      · rw [canP_lenR (mkF fM jj) cs rs kr (by omega)] at i2
        refine ii_iconst (n := 0) hx hb dM_runsOf_12 ?_
        refine lv_istore (lv' := [(4, .int (iI 0)), (3, .int (iI (kr : Int))), (2, .int (iI (nn : Int))), (0, .ref mo), (1, .int (iI (jj : Int)))]) hx hb dM_runsOf_13 hl (by decide) rfl (fun ls hl => ?_)
        have lp15 : ∀ (n_ : Nat) (kc : Nat) (n2 : Nat) (pb : Bool), (kc ≤ cs) → (n2 + bgG (mkF fM jj kr) (cs - kc) kc pb + (canP (mkF fM jj) cs (rs - (kr + 1)) (kr + 1)).length = (canJ fM cs rs jj).length) → ((kc = 0 → pb = false) ∧ (0 < kc → pb = mkF fM jj kr (kc - 1))) → (cs - kc) < n_ → ∀ ls : Array Slot, lv_has ls 5 [(4, .int (iI (kc : Int))), (2, .int (iI (n2 : Int))), (3, .int (iI (kr : Int))), (0, .ref mo), (1, .int (iI (jj : Int)))] → W p l e (headSpec wM_runsOf rm_m_runsOf).room s m [.ref mo, .int (iI (jj : Int))].toArray below meth c s.heap [] 0 0 QQ (F0 m 15 ls []) := by
          intro n_
          induction n_ with
          | zero =>
            intro kc n2 pb k1 k2 k3 hm_
            exact absurd hm_ (Nat.not_lt_zero _)
          | succ n_ ih_lp15 =>
            intro kc n2 pb k1 k2 k3 hm_lp15 ls hl
            refine lv_iload hx hb dM_runsOf_15 (lv_at hl 0 rfl) ?_
            refine lv_aload_n hx hb dM_runsOf_17 rfl (lv_at hl 3 rfl) ?_
            refine va_get (ci := 4) (v := .int (iI (cs : Int))) (C := "WindingRasterModel") (T := TM) (N := 11) hx hb hts in_4 hown hK hP 0 rfl rfl 0 (by decide) fl_35 (fun _ h9 => h9) rfl dM_runsOf_18 ?_
            refine ii_icmp_ge (tgt := 68) hx hb dM_runsOf_21 (by decide) (by omega) (by omega) (fun c21 => ?_) (fun c21 => ?_)
            · refine lv_iinc (v := iI ((kr + 1 : Nat) : Int)) (lv' := [(3, .int (iI ((kr + 1 : Nat) : Int))), (4, .int (iI (kc : Int))), (2, .int (iI (n2 : Int))), (0, .ref mo), (1, .int (iI (jj : Int)))]) hx hb dM_runsOf_68 hl (k := 2) rfl (iI_inc _ 1 (by omega)) (by decide) rfl (fun ls hl => ?_)
              refine lv_goto (tgt := 4) hx hb dM_runsOf_71 (by decide) ?_
              exact ih_lp4 (kr + 1) n2 (by omega) (by rw [show cs - kc = 0 by omega, bg_0] at k2; omega) (by omega) _ (lv_sub hl [0, 2, 3, 4] rfl)
            · refine lv_aload_n hx hb dM_runsOf_24 rfl (lv_at hl 3 rfl) ?_
              refine lv_iload hx hb dM_runsOf_25 (lv_at hl 0 rfl) ?_
              refine lv_iload_n hx hb dM_runsOf_27 rfl (lv_at hl 2 rfl) ?_
              refine cs_i (va_runS (As := [.int (iI (kc : Int)), .int (iI (kr : Int))]) (rest := [.ref mo]) ⟨hx, hb, hml, hown, hts⟩ (m_at l D cA cB cS kc kr) ⟨(callB_of 2 hts (gIn vm_343) rfl rfl rfl (hts _ (List.mem_cons_of_mem _ vm_8)) (hts _ (List.mem_cons_of_mem _ vm_341)) (by decide +kernel) ⟨Nat.le_of_ble_eq_true rfl, Nat.le_of_ble_eq_true rfl⟩), (hts _ (List.mem_cons_of_mem _ vm_342))⟩ (pR.pre (hP.sub [] rfl) hKW) rfl rfl hl.1 rfl (lv_room (Nat.le_of_ble_eq_true rfl)) dM_runsOf_28 ⟨Nat.le_of_ble_eq_true rfl, Nat.le_of_ble_eq_true rfl⟩) (fun z_1 hz_1 => ?_)
              subst hz_1
              refine lv_iload_n hx hb dM_runsOf_31 rfl (lv_at hl 4 rfl) ?_
              refine cs_i (va_runV (As := [.int (iI ((256 * kr + kc : Nat) : Int)), .int (iI (jj : Int))]) (rest := []) ⟨hx, hb, hml, hown, hts⟩ (m_isOpen l D cA cB cS mo cs rs mg mm mx my mf mt fB fM gX gY gF gT mv mp me (256 * kr + kc) jj (by omega) (by omega) hm) ⟨(callB_of 2 hts (gIn vm_346) rfl rfl rfl (hts _ (List.mem_cons_of_mem _ vm_8)) (hts _ (List.mem_cons_of_mem _ vm_344)) (by decide +kernel) ⟨Nat.le_of_ble_eq_true rfl, Nat.le_of_ble_eq_true rfl⟩), (hts _ (List.mem_cons_of_mem _ vm_345)), (hts _ (List.mem_cons_of_mem _ vm_427))⟩ (pR.preV (va_recv hK hP (ci := 4) (q0 := 0) rfl rfl) (hP.sub [0, 1, 2, 3, 4, 5, 6] rfl) hKW) rfl rfl hl.1 rfl (lv_room (Nat.le_of_ble_eq_true rfl)) dM_runsOf_32 ⟨Nat.le_of_ble_eq_true rfl, Nat.le_of_ble_eq_true rfl⟩) (fun zo hzo => ?_)
              refine ii_if_eq (tgt := 62) hx hb dM_runsOf_35 (by decide) (by omega) (fun c35 => ?_) (fun c35 => ?_)
              · have hbb : ¬ (mkF fM jj kr kc = true ∧ pb = false) := fun w => (by rcases hzo with v | v; (omega); (exact v.2 w.1))
                refine lv_iinc (v := iI ((kc + 1 : Nat) : Int)) (lv' := [(4, .int (iI ((kc + 1 : Nat) : Int))), (2, .int (iI (n2 : Int))), (3, .int (iI (kr : Int))), (0, .ref mo), (1, .int (iI (jj : Int)))]) hx hb dM_runsOf_62 hl (k := 0) rfl (iI_inc _ 1 (by omega)) (by decide) rfl (fun ls hl => ?_)
                refine lv_goto (tgt := 15) hx hb dM_runsOf_65 (by decide) ?_
                exact ih_lp15 (kc + 1) n2 ((mkF fM jj) kr kc) (by omega) (by rw [bgG_S (mkF fM jj kr) cs kc pb (by omega)] at k2; first | (rw [if_pos hbb] at k2; omega) | (rw [if_neg hbb] at k2; omega)) ⟨fun w => absurd w (by omega), fun _ => rfl⟩ (by omega) _ (lv_sub hl [0, 1, 2, 3, 4] rfl)
              · have hoo : mkF fM jj kr kc = true := (by rcases hzo with v | v; (exact v.2); (exfalso; omega))
                refine lv_iload hx hb dM_runsOf_38 (lv_at hl 0 rfl) ?_
                refine ii_if_eq (tgt := 59) hx hb dM_runsOf_40 (by decide) (by omega) (fun c40 => ?_) (fun c40 => ?_)
                · have hbb : mkF fM jj kr kc = true ∧ pb = false := ⟨hoo, k3.1 (by omega)⟩
                  refine lv_iinc (v := iI ((n2 + 1 : Nat) : Int)) (lv' := [(2, .int (iI ((n2 + 1 : Nat) : Int))), (4, .int (iI (kc : Int))), (3, .int (iI (kr : Int))), (0, .ref mo), (1, .int (iI (jj : Int)))]) hx hb dM_runsOf_59 hl (k := 1) rfl (iI_inc _ 1 (by omega)) (by decide) rfl (fun ls hl => ?_)
                  refine lv_iinc (v := iI ((kc + 1 : Nat) : Int)) (lv' := [(4, .int (iI ((kc + 1 : Nat) : Int))), (2, .int (iI ((n2 + 1 : Nat) : Int))), (3, .int (iI (kr : Int))), (0, .ref mo), (1, .int (iI (jj : Int)))]) hx hb dM_runsOf_62 hl (k := 1) rfl (iI_inc _ 1 (by omega)) (by decide) rfl (fun ls hl => ?_)
                  refine lv_goto (tgt := 15) hx hb dM_runsOf_65 (by decide) ?_
                  exact ih_lp15 (kc + 1) (n2 + 1) ((mkF fM jj) kr kc) (by omega) (by rw [bgG_S (mkF fM jj kr) cs kc pb (by omega)] at k2; first | (rw [if_pos hbb] at k2; omega) | (rw [if_neg hbb] at k2; omega)) ⟨fun w => absurd w (by omega), fun _ => rfl⟩ (by omega) _ (lv_sub hl [0, 1, 2, 3, 4] rfl)
                · refine lv_aload_n hx hb dM_runsOf_43 rfl (lv_at hl 3 rfl) ?_
                  refine lv_iload hx hb dM_runsOf_44 (lv_at hl 0 rfl) ?_
                  refine ii_iconst (n := 1) hx hb dM_runsOf_46 ?_
                  refine ii_isub hx hb dM_runsOf_47 ?_
                  refine ii_top (y := ((kc - 1 : Nat) : Int)) (by omega) ?_
                  refine lv_iload_n hx hb dM_runsOf_48 rfl (lv_at hl 2 rfl) ?_
                  refine cs_i (va_runS (As := [.int (iI ((kc - 1 : Nat) : Int)), .int (iI (kr : Int))]) (rest := [.ref mo]) ⟨hx, hb, hml, hown, hts⟩ (m_at l D cA cB cS (kc - 1) kr) ⟨(callB_of 2 hts (gIn vm_343) rfl rfl rfl (hts _ (List.mem_cons_of_mem _ vm_8)) (hts _ (List.mem_cons_of_mem _ vm_341)) (by decide +kernel) ⟨Nat.le_of_ble_eq_true rfl, Nat.le_of_ble_eq_true rfl⟩), (hts _ (List.mem_cons_of_mem _ vm_342))⟩ (pR.pre (hP.sub [] rfl) hKW) rfl rfl hl.1 rfl (lv_room (Nat.le_of_ble_eq_true rfl)) dM_runsOf_49 ⟨Nat.le_of_ble_eq_true rfl, Nat.le_of_ble_eq_true rfl⟩) (fun z_2 hz_2 => ?_)
                  subst hz_2
                  refine lv_iload_n hx hb dM_runsOf_52 rfl (lv_at hl 4 rfl) ?_
                  refine cs_i (va_runV (As := [.int (iI ((256 * kr + (kc - 1) : Nat) : Int)), .int (iI (jj : Int))]) (rest := []) ⟨hx, hb, hml, hown, hts⟩ (m_isOpen l D cA cB cS mo cs rs mg mm mx my mf mt fB fM gX gY gF gT mv mp me (256 * kr + (kc - 1)) jj (by omega) (by omega) hm) ⟨(callB_of 2 hts (gIn vm_346) rfl rfl rfl (hts _ (List.mem_cons_of_mem _ vm_8)) (hts _ (List.mem_cons_of_mem _ vm_344)) (by decide +kernel) ⟨Nat.le_of_ble_eq_true rfl, Nat.le_of_ble_eq_true rfl⟩), (hts _ (List.mem_cons_of_mem _ vm_345)), (hts _ (List.mem_cons_of_mem _ vm_427))⟩ (pR.preV (va_recv hK hP (ci := 4) (q0 := 0) rfl rfl) (hP.sub [0, 1, 2, 3, 4, 5, 6] rfl) hKW) rfl rfl hl.1 rfl (lv_room (Nat.le_of_ble_eq_true rfl)) dM_runsOf_53 ⟨Nat.le_of_ble_eq_true rfl, Nat.le_of_ble_eq_true rfl⟩) (fun zq hzq => ?_)
                  refine ii_if_ne (tgt := 62) hx hb dM_runsOf_56 (by decide) (by omega) (fun c56 => ?_) (fun c56 => ?_)
                  · have hbb : ¬ (mkF fM jj kr kc = true ∧ pb = false) := fun w => (by rw [k3.2 (by omega)] at w; rcases hzq with v | v; (have v2 : mkF fM jj kr (kc - 1) = true := v.2; rw [v2] at w; cases w.2); (omega))
                    refine lv_iinc (v := iI ((kc + 1 : Nat) : Int)) (lv' := [(4, .int (iI ((kc + 1 : Nat) : Int))), (2, .int (iI (n2 : Int))), (3, .int (iI (kr : Int))), (0, .ref mo), (1, .int (iI (jj : Int)))]) hx hb dM_runsOf_62 hl (k := 0) rfl (iI_inc _ 1 (by omega)) (by decide) rfl (fun ls hl => ?_)
                    refine lv_goto (tgt := 15) hx hb dM_runsOf_65 (by decide) ?_
                    exact ih_lp15 (kc + 1) n2 ((mkF fM jj) kr kc) (by omega) (by rw [bgG_S (mkF fM jj kr) cs kc pb (by omega)] at k2; first | (rw [if_pos hbb] at k2; omega) | (rw [if_neg hbb] at k2; omega)) ⟨fun w => absurd w (by omega), fun _ => rfl⟩ (by omega) _ (lv_sub hl [0, 1, 2, 3, 4] rfl)
                  · have hbb : mkF fM jj kr kc = true ∧ pb = false := ⟨hoo, by rw [k3.2 (by omega)]; rcases hzq with v | v; (exfalso; omega); (exact Bool.eq_false_iff.mpr v.2)⟩
                    refine lv_iinc (v := iI ((n2 + 1 : Nat) : Int)) (lv' := [(2, .int (iI ((n2 + 1 : Nat) : Int))), (4, .int (iI (kc : Int))), (3, .int (iI (kr : Int))), (0, .ref mo), (1, .int (iI (jj : Int)))]) hx hb dM_runsOf_59 hl (k := 1) rfl (iI_inc _ 1 (by omega)) (by decide) rfl (fun ls hl => ?_)
                    refine lv_iinc (v := iI ((kc + 1 : Nat) : Int)) (lv' := [(4, .int (iI ((kc + 1 : Nat) : Int))), (2, .int (iI ((n2 + 1 : Nat) : Int))), (3, .int (iI (kr : Int))), (0, .ref mo), (1, .int (iI (jj : Int)))]) hx hb dM_runsOf_62 hl (k := 1) rfl (iI_inc _ 1 (by omega)) (by decide) rfl (fun ls hl => ?_)
                    refine lv_goto (tgt := 15) hx hb dM_runsOf_65 (by decide) ?_
                    exact ih_lp15 (kc + 1) (n2 + 1) ((mkF fM jj) kr kc) (by omega) (by rw [bgG_S (mkF fM jj kr) cs kc pb (by omega)] at k2; first | (rw [if_pos hbb] at k2; omega) | (rw [if_neg hbb] at k2; omega)) ⟨fun w => absurd w (by omega), fun _ => rfl⟩ (by omega) _ (lv_sub hl [0, 1, 2, 3, 4] rfl)
        exact lp15 (cs - 0 + 1) 0 nn false (by omega) (by rw [Nat.sub_zero]; omega) ⟨fun _ => rfl, fun w => absurd w (by omega)⟩ (Nat.lt_succ_self _) _ (lv_sub hl [0, 2, 1, 3, 4] rfl)
  exact lp4 (rs - 0 + 1) 0 0 (by omega) (by rw [Nat.sub_zero, Nat.zero_add]; rfl) (Nat.lt_succ_self _) _ (lv_sub hl [0, 1, 2, 3] rfl)

def rm_m_runsTo : Room := { frames := 2, cells := 0, slots := 0, locals := 46 }
set_option maxHeartbeats 4000000 in
set_option maxRecDepth 100000 in
theorem m_runsTo (l : Launch) (D : va_G) (cA cB cS : ClassId) (mo : Nat) (cs : Nat) (rs : Nat) (mg : Nat) (mm : Nat) (mx : Nat) (my : Nat) (mf : Nat) (mt : Nat) (fB : Nat → Int) (fM : Nat → Int) (gX : Nat → Int) (gY : Nat → Int) (gF : Nat → Int) (gT : Nat → Int) (mv : Nat) (mp : Nat) (me : Nat) (nc : Nat) (h1 : nc ≤ 14) (hm : mRng fM) (hc : 0 < cs ∧ cs ≤ 256) (hr_ : 0 < rs ∧ rs ≤ 256) : Met l yM_runsTo wM_runsTo rm_m_runsTo (pR [.ref mo, .int (iI (nc : Int))] D vwCl (vwTy cA cB cS) vwNw [(mo, .inr (4, [.int (iI (cs : Int)), .int (iI (rs : Int)), .ref mg, .ref mm, .int (iI (mv : Int)), .ref mx, .ref my, .ref mf, .int (iI (mp : Int)), .ref mt, .int (iI (me : Int))])), (mg, .inl (cB, 65536, .inl (iA fB))), (mm, .inl (cS, 65536, .inl (iA fM))), (mx, .inl (cA, 4096, .inl (iA gX))), (my, .inl (cA, 4096, .inl (iA gY))), (mf, .inl (cA, 4096, .inl (iA gF))), (mt, .inl (cA, 4096, .inl (iA gT)))]) (qI (fun z => z = ((rnJ fM cs rs nc : Nat) : Int))) 0 0 (fun _ => False) := by
  refine Met.ofW (cc := bM_runsTo) (maxL := 4) (ret := (some .int)) (by decide +kernel) rfl ?_
  intro p e s m args below meth c s₁ B hml hv
  obtain ⟨rfl, hP, hKW⟩ := hv
  have hK := hKW.1
  have hN := hKW.2.2
  have hx := B.exec
  have hb := B.bytes
  have hr := B.returns
  have hts := atoms_spec (ws := wM_runsTo) B.pre
  have hown : s.vm.findClass "WindingRasterModel" = some m.cls := findClass_of_methodNamed B.named
  have hlocks := B.notSynchronized
  have hP : va_P D vwCl [(mo, .inr (4, [.int (iI (cs : Int)), .int (iI (rs : Int)), .ref mg, .ref mm, .int (iI (mv : Int)), .ref mx, .ref my, .ref mf, .int (iI (mp : Int)), .ref mt, .int (iI (me : Int))])), (mg, .inl (cB, 65536, .inl (iA fB))), (mm, .inl (cS, 65536, .inl (iA fM))), (mx, .inl (cA, 4096, .inl (iA gX))), (my, .inl (cA, 4096, .inl (iA gY))), (mf, .inl (cA, 4096, .inl (iA gF))), (mt, .inl (cA, 4096, .inl (iA gT)))] s.heap := hP
  have hl := lv_entry ([.ref mo, .int (iI (nc : Int))]) (n := 4) (Nat.le_of_ble_eq_true rfl)
  rw [lg_entry_eq]
  generalize (lg_sl ([.ref mo, .int (iI (nc : Int))]) ++ List.replicate (4 - (lg_sl ([.ref mo, .int (iI (nc : Int))])).length) Slot.unset).toArray = ls at hl ⊢
  have hl : lv_has ls 4 [(0, .ref mo), (1, .int (iI (nc : Int)))] := hl
  generalize hQ : MQ below (qI (fun z => z = ((rnJ fM cs rs nc : Nat) : Int))) [.ref mo, .int (iI (nc : Int))].toArray s 0 0 (fun _ => False) = QQ
  refine ii_iconst (n := 0) hx hb dM_runsTo_0 ?_
  refine lv_istore_n (lv' := [(2, .int (iI 0)), (0, .ref mo), (1, .int (iI (nc : Int)))]) hx hb dM_runsTo_1 rfl hl (by decide) rfl (fun ls hl => ?_)
  refine ii_iconst (n := 0) hx hb dM_runsTo_2 ?_
  refine lv_istore_n (lv' := [(3, .int (iI 0)), (2, .int (iI 0)), (0, .ref mo), (1, .int (iI (nc : Int)))]) hx hb dM_runsTo_3 rfl hl (by decide) rfl (fun ls hl => ?_)
  have lp4 : ∀ (n_ : Nat) (k : Nat) (sn : Nat), (k ≤ nc) → (sn = rnJ fM cs rs k) → (nc - k) < n_ → ∀ ls : Array Slot, lv_has ls 4 [(3, .int (iI (k : Int))), (2, .int (iI (sn : Int))), (0, .ref mo), (1, .int (iI (nc : Int)))] → W p l e (headSpec wM_runsTo rm_m_runsTo).room s m [.ref mo, .int (iI (nc : Int))].toArray below meth c s.heap [] 0 0 QQ (F0 m 4 ls []) := by
    intro n_
    induction n_ with
    | zero =>
      intro k sn i1 i2 hm_
      exact absurd hm_ (Nat.not_lt_zero _)
    | succ n_ ih_lp4 =>
      intro k sn i1 i2 hm_lp4 ls hl
      refine lv_iload_n hx hb dM_runsTo_4 rfl (lv_at hl 0 rfl) ?_
      refine lv_iload_n hx hb dM_runsTo_5 rfl (lv_at hl 3 rfl) ?_
      refine ii_icmp_ge (tgt := 23) hx hb dM_runsTo_6 (by decide) (by omega) (by omega) (fun c6 => ?_) (fun c6 => ?_)
      · refine lv_iload_n hx hb dM_runsTo_23 rfl (lv_at hl 1 rfl) ?_
        rw [← hQ]
        exact rd_iret hx hb hr hlocks (by rw [i2, show k = nc by omega]) dM_runsTo_24
      · refine lv_iload_n hx hb dM_runsTo_9 rfl (lv_at hl 1 rfl) ?_
        refine lv_aload_n hx hb dM_runsTo_10 rfl (lv_at hl 2 rfl) ?_
        refine lv_iload_n hx hb dM_runsTo_11 rfl (lv_at hl 0 rfl) ?_
        refine cs_i (va_runV (As := [.int (iI (k : Int))]) (rest := [.int (iI (sn : Int))]) ⟨hx, hb, hml, hown, hts⟩ (m_runsOf l D cA cB cS mo cs rs mg mm mx my mf mt fB fM gX gY gF gT mv mp me k (by omega) hm (by omega) (by omega)) ⟨(callB_of 1 hts (gIn vm_362) rfl rfl rfl (hts _ (List.mem_cons_of_mem _ vm_8)) (hts _ (List.mem_cons_of_mem _ vm_360)) (by decide +kernel) ⟨Nat.le_of_ble_eq_true rfl, Nat.le_of_ble_eq_true rfl⟩), (hts _ (List.mem_cons_of_mem _ vm_361)), (hts _ (List.mem_cons_of_mem _ vm_430))⟩ (pR.preV (va_recv hK hP (ci := 4) (q0 := 0) rfl rfl) (hP.sub [0, 1, 2, 3, 4, 5, 6] rfl) hKW) rfl rfl hl.1 rfl (lv_room (Nat.le_of_ble_eq_true rfl)) dM_runsTo_12 ⟨Nat.le_of_ble_eq_true rfl, Nat.le_of_ble_eq_true rfl⟩) (fun z_1 hz_1 => ?_)
        subst hz_1
        refine ii_iadd hx hb dM_runsTo_15 ?_
        refine ii_top (y := ((sn + ((canJ fM cs rs k).length) : Nat) : Int)) (by push_cast; rfl) ?_
        refine lv_istore_n (lv' := [(2, .int (iI ((sn + ((canJ fM cs rs k).length) : Nat) : Int))), (3, .int (iI (k : Int))), (0, .ref mo), (1, .int (iI (nc : Int)))]) hx hb dM_runsTo_16 rfl hl (by decide) rfl (fun ls hl => ?_)
        refine lv_iinc (v := iI ((k + 1 : Nat) : Int)) (lv' := [(3, .int (iI ((k + 1 : Nat) : Int))), (2, .int (iI ((sn + ((canJ fM cs rs k).length) : Nat) : Int))), (0, .ref mo), (1, .int (iI (nc : Int)))]) hx hb dM_runsTo_17 hl (k := 1) rfl (iI_inc _ 1 (by omega)) (by decide) rfl (fun ls hl => ?_)
        refine lv_goto (tgt := 4) hx hb dM_runsTo_20 (by decide) ?_
        exact ih_lp4 (k + 1) (sn + ((canJ fM cs rs k).length)) (by omega) (by show _ = rnJ fM cs rs k + (canJ fM cs rs k).length; rw [i2]) (by omega) _ (lv_sub hl [0, 1, 2, 3] rfl)
  exact lp4 (nc - 0 + 1) 0 0 (by omega) rfl (Nat.lt_succ_self _) _ (lv_sub hl [0, 1, 2, 3] rfl)

def rm_m_pixels : Room := { frames := 1, cells := 0, slots := 0, locals := 22 }
set_option maxHeartbeats 4000000 in
set_option maxRecDepth 100000 in
theorem m_pixels (l : Launch) (D : va_G) (cA cB cS : ClassId) (mo : Nat) (cs : Nat) (rs : Nat) (mg : Nat) (mm : Nat) (mx : Nat) (my : Nat) (mf : Nat) (mt : Nat) (fB : Nat → Int) (fM : Nat → Int) (gX : Nat → Int) (gY : Nat → Int) (gF : Nat → Int) (gT : Nat → Int) (mv : Nat) (mp : Nat) (me : Nat) (h1 : mv < 14) (hm : mRng fM) (hc : 0 < cs ∧ cs ≤ 256) (hr_ : 0 < rs ∧ rs ≤ 256) : Met l yM_pixels wM_pixels rm_m_pixels (pR [.ref mo] D vwCl (vwTy cA cB cS) vwNw [(mo, .inr (4, [.int (iI (cs : Int)), .int (iI (rs : Int)), .ref mg, .ref mm, .int (iI (mv : Int)), .ref mx, .ref my, .ref mf, .int (iI (mp : Int)), .ref mt, .int (iI (me : Int))])), (mg, .inl (cB, 65536, .inl (iA fB))), (mm, .inl (cS, 65536, .inl (iA fM))), (mx, .inl (cA, 4096, .inl (iA gX))), (my, .inl (cA, 4096, .inl (iA gY))), (mf, .inl (cA, 4096, .inl (iA gF))), (mt, .inl (cA, 4096, .inl (iA gT)))]) (qI (fun z => z = ((lenS (canJ fM cs rs mv) : Nat) : Int))) 0 0 (fun _ => False) := by
  refine Met.ofW (cc := bM_pixels) (maxL := 4) (ret := (some .int)) (by decide +kernel) rfl ?_
  intro p e s m args below meth c s₁ B hml hv
  obtain ⟨rfl, hP, hKW⟩ := hv
  have hK := hKW.1
  have hN := hKW.2.2
  have hx := B.exec
  have hb := B.bytes
  have hr := B.returns
  have hts := atoms_spec (ws := wM_pixels) B.pre
  have hown : s.vm.findClass "WindingRasterModel" = some m.cls := findClass_of_methodNamed B.named
  have hlocks := B.notSynchronized
  have hP : va_P D vwCl [(mo, .inr (4, [.int (iI (cs : Int)), .int (iI (rs : Int)), .ref mg, .ref mm, .int (iI (mv : Int)), .ref mx, .ref my, .ref mf, .int (iI (mp : Int)), .ref mt, .int (iI (me : Int))])), (mg, .inl (cB, 65536, .inl (iA fB))), (mm, .inl (cS, 65536, .inl (iA fM))), (mx, .inl (cA, 4096, .inl (iA gX))), (my, .inl (cA, 4096, .inl (iA gY))), (mf, .inl (cA, 4096, .inl (iA gF))), (mt, .inl (cA, 4096, .inl (iA gT)))] s.heap := hP
  have in_4 : ∀ w ∈ wsM, w ∈ wM_pixels := fun w h => List.mem_cons_of_mem _ (in0_M w h)
  have fl_39 := (hts _ (List.mem_cons_of_mem _ vm_262))
  have fl_35 := (hts _ (List.mem_cons_of_mem _ vm_261))
  have fl_96 := (hts _ (List.mem_cons_of_mem _ vm_265))
  have hl := lv_entry ([.ref mo]) (n := 4) (Nat.le_of_ble_eq_true rfl)
  rw [lg_entry_eq]
  generalize (lg_sl ([.ref mo]) ++ List.replicate (4 - (lg_sl ([.ref mo])).length) Slot.unset).toArray = ls at hl ⊢
  have hl : lv_has ls 4 [(0, .ref mo)] := hl
  generalize hQ : MQ below (qI (fun z => z = ((lenS (canJ fM cs rs mv) : Nat) : Int))) [.ref mo].toArray s 0 0 (fun _ => False) = QQ
  refine ii_iconst (n := 0) hx hb dM_pixels_0 ?_
  refine lv_istore_n (lv' := [(1, .int (iI 0)), (0, .ref mo)]) hx hb dM_pixels_1 rfl hl (by decide) rfl (fun ls hl => ?_)
  refine ii_iconst (n := 0) hx hb dM_pixels_2 ?_
  refine lv_istore_n (lv' := [(2, .int (iI 0)), (1, .int (iI 0)), (0, .ref mo)]) hx hb dM_pixels_3 rfl hl (by decide) rfl (fun ls hl => ?_)
  have lp4 : ∀ (n_ : Nat) (kr : Nat) (nn : Nat), (kr ≤ rs) → (nn + lenS (canP (mkF fM mv) cs (rs - kr) kr) = lenS (canJ fM cs rs mv)) → (rs - kr) < n_ → ∀ ls : Array Slot, lv_has ls 4 [(2, .int (iI (kr : Int))), (1, .int (iI (nn : Int))), (0, .ref mo)] → W p l e (headSpec wM_pixels rm_m_pixels).room s m [.ref mo].toArray below meth c s.heap [] 0 0 QQ (F0 m 4 ls []) := by
    intro n_
    induction n_ with
    | zero =>
      intro kr nn i1 i2 hm_
      exact absurd hm_ (Nat.not_lt_zero _)
    | succ n_ ih_lp4 =>
      intro kr nn i1 i2 hm_lp4 ls hl
      refine lv_iload_n hx hb dM_pixels_4 rfl (lv_at hl 0 rfl) ?_
      refine lv_aload_n hx hb dM_pixels_5 rfl (lv_at hl 2 rfl) ?_
      refine va_get (ci := 4) (v := .int (iI (rs : Int))) (C := "WindingRasterModel") (T := TM) (N := 11) hx hb hts in_4 hown hK hP 0 rfl rfl 1 (by decide) fl_39 (fun _ h9 => h9) rfl dM_pixels_6 ?_
      refine ii_icmp_ge (tgt := 58) hx hb dM_pixels_9 (by decide) (by omega) (by omega) (fun c9 => ?_) (fun c9 => ?_)
      · refine lv_iload_n hx hb dM_pixels_58 rfl (lv_at hl 1 rfl) ?_
        rw [← hQ]
        exact rd_iret hx hb hr hlocks (by rw [show rs - kr = 0 by omega, canP_0] at i2; have e0 : lenS [] = 0 := rfl; omega) dM_pixels_59
      · rw [canP_lenSR (mkF fM mv) cs rs kr (by omega)] at i2
        refine ii_iconst (n := 0) hx hb dM_pixels_12 ?_
        refine lv_istore_n (lv' := [(3, .int (iI 0)), (2, .int (iI (kr : Int))), (1, .int (iI (nn : Int))), (0, .ref mo)]) hx hb dM_pixels_13 rfl hl (by decide) rfl (fun ls hl => ?_)
        have lp14 : ∀ (n_ : Nat) (kc : Nat) (n2 : Nat), (kc ≤ cs) → (n2 + cnG (mkF fM mv kr) (cs - kc) kc + lenS (canP (mkF fM mv) cs (rs - (kr + 1)) (kr + 1)) = lenS (canJ fM cs rs mv)) → (cs - kc) < n_ → ∀ ls : Array Slot, lv_has ls 4 [(3, .int (iI (kc : Int))), (1, .int (iI (n2 : Int))), (2, .int (iI (kr : Int))), (0, .ref mo)] → W p l e (headSpec wM_pixels rm_m_pixels).room s m [.ref mo].toArray below meth c s.heap [] 0 0 QQ (F0 m 14 ls []) := by
          intro n_
          induction n_ with
          | zero =>
            intro kc n2 k1 k2 hm_
            exact absurd hm_ (Nat.not_lt_zero _)
          | succ n_ ih_lp14 =>
            intro kc n2 k1 k2 hm_lp14 ls hl
            refine lv_iload_n hx hb dM_pixels_14 rfl (lv_at hl 0 rfl) ?_
            refine lv_aload_n hx hb dM_pixels_15 rfl (lv_at hl 3 rfl) ?_
            refine va_get (ci := 4) (v := .int (iI (cs : Int))) (C := "WindingRasterModel") (T := TM) (N := 11) hx hb hts in_4 hown hK hP 0 rfl rfl 0 (by decide) fl_35 (fun _ h9 => h9) rfl dM_pixels_16 ?_
            refine ii_icmp_ge (tgt := 52) hx hb dM_pixels_19 (by decide) (by omega) (by omega) (fun c19 => ?_) (fun c19 => ?_)
            · refine lv_iinc (v := iI ((kr + 1 : Nat) : Int)) (lv' := [(2, .int (iI ((kr + 1 : Nat) : Int))), (3, .int (iI (kc : Int))), (1, .int (iI (n2 : Int))), (0, .ref mo)]) hx hb dM_pixels_52 hl (k := 2) rfl (iI_inc _ 1 (by omega)) (by decide) rfl (fun ls hl => ?_)
              refine lv_goto (tgt := 4) hx hb dM_pixels_55 (by decide) ?_
              exact ih_lp4 (kr + 1) n2 (by omega) (by rw [show cs - kc = 0 by omega, cn_0] at k2; omega) (by omega) _ (lv_sub hl [0, 2, 3] rfl)
            · refine lv_iload_n hx hb dM_pixels_22 rfl (lv_at hl 1 rfl) ?_
              refine lv_aload_n hx hb dM_pixels_23 rfl (lv_at hl 3 rfl) ?_
              refine lv_iload_n hx hb dM_pixels_24 rfl (lv_at hl 0 rfl) ?_
              refine lv_iload_n hx hb dM_pixels_25 rfl (lv_at hl 2 rfl) ?_
              refine cs_i (va_runS (As := [.int (iI (kc : Int)), .int (iI (kr : Int))]) (rest := [.ref mo, .int (iI (n2 : Int))]) ⟨hx, hb, hml, hown, hts⟩ (m_at l D cA cB cS kc kr) ⟨(callB_of 2 hts (gIn vm_343) rfl rfl rfl (hts _ (List.mem_cons_of_mem _ vm_8)) (hts _ (List.mem_cons_of_mem _ vm_341)) (by decide +kernel) ⟨Nat.le_of_ble_eq_true rfl, Nat.le_of_ble_eq_true rfl⟩), (hts _ (List.mem_cons_of_mem _ vm_342))⟩ (pR.pre (hP.sub [] rfl) hKW) rfl rfl hl.1 rfl (lv_room (Nat.le_of_ble_eq_true rfl)) dM_pixels_26 ⟨Nat.le_of_ble_eq_true rfl, Nat.le_of_ble_eq_true rfl⟩) (fun z_1 hz_1 => ?_)
              subst hz_1
              refine lv_aload_n hx hb dM_pixels_29 rfl (lv_at hl 3 rfl) ?_
              refine va_get (ci := 4) (v := .int (iI (mv : Int))) (C := "WindingRasterModel") (T := TM) (N := 11) hx hb hts in_4 hown hK hP 0 rfl rfl 4 (by decide) fl_96 (fun _ h9 => h9) rfl dM_pixels_30 ?_
              refine cs_i (va_runV (As := [.int (iI ((256 * kr + kc : Nat) : Int)), .int (iI (mv : Int))]) (rest := [.int (iI (n2 : Int))]) ⟨hx, hb, hml, hown, hts⟩ (m_isOpen l D cA cB cS mo cs rs mg mm mx my mf mt fB fM gX gY gF gT mv mp me (256 * kr + kc) mv (by omega) (by omega) hm) ⟨(callB_of 2 hts (gIn vm_346) rfl rfl rfl (hts _ (List.mem_cons_of_mem _ vm_8)) (hts _ (List.mem_cons_of_mem _ vm_344)) (by decide +kernel) ⟨Nat.le_of_ble_eq_true rfl, Nat.le_of_ble_eq_true rfl⟩), (hts _ (List.mem_cons_of_mem _ vm_345)), (hts _ (List.mem_cons_of_mem _ vm_427))⟩ (pR.preV (va_recv hK hP (ci := 4) (q0 := 0) rfl rfl) (hP.sub [0, 1, 2, 3, 4, 5, 6] rfl) hKW) rfl rfl hl.1 rfl (lv_room (Nat.le_of_ble_eq_true rfl)) dM_pixels_33 ⟨Nat.le_of_ble_eq_true rfl, Nat.le_of_ble_eq_true rfl⟩) (fun zo hzo => ?_)
              refine ii_if_eq (tgt := 43) hx hb dM_pixels_36 (by decide) (by omega) (fun c36 => ?_) (fun c36 => ?_)
              · have hbb : ¬ mkF fM mv kr kc = true := fun w => (by rcases hzo with v | v; (omega); (exact v.2 w))
                refine ii_iconst (n := 0) hx hb dM_pixels_43 ?_
                refine ii_iadd hx hb dM_pixels_44 ?_
                refine ii_top (y := ((n2 + 0 : Nat) : Int)) (by push_cast; rfl) ?_
                refine lv_istore_n (lv' := [(1, .int (iI ((n2 + 0 : Nat) : Int))), (3, .int (iI (kc : Int))), (2, .int (iI (kr : Int))), (0, .ref mo)]) hx hb dM_pixels_45 rfl hl (by decide) rfl (fun ls hl => ?_)
                refine lv_iinc (v := iI ((kc + 1 : Nat) : Int)) (lv' := [(3, .int (iI ((kc + 1 : Nat) : Int))), (1, .int (iI ((n2 + 0 : Nat) : Int))), (2, .int (iI (kr : Int))), (0, .ref mo)]) hx hb dM_pixels_46 hl (k := 1) rfl (iI_inc _ 1 (by omega)) (by decide) rfl (fun ls hl => ?_)
                refine lv_goto (tgt := 14) hx hb dM_pixels_49 (by decide) ?_
                exact ih_lp14 (kc + 1) (n2 + 0) (by omega) (by rw [cnG_S (mkF fM mv kr) cs kc (by omega)] at k2; first | (rw [if_pos hbb] at k2; omega) | (rw [if_neg hbb] at k2; omega)) (by omega) _ (lv_sub hl [0, 1, 2, 3] rfl)
              · have hbb : mkF fM mv kr kc = true := (by rcases hzo with v | v; (exact v.2); (exfalso; omega))
                refine ii_iconst (n := 1) hx hb dM_pixels_39 ?_
                refine lv_goto (tgt := 44) hx hb dM_pixels_40 (by decide) ?_
                refine ii_iadd hx hb dM_pixels_44 ?_
                refine ii_top (y := ((n2 + 1 : Nat) : Int)) (by push_cast; rfl) ?_
                refine lv_istore_n (lv' := [(1, .int (iI ((n2 + 1 : Nat) : Int))), (3, .int (iI (kc : Int))), (2, .int (iI (kr : Int))), (0, .ref mo)]) hx hb dM_pixels_45 rfl hl (by decide) rfl (fun ls hl => ?_)
                refine lv_iinc (v := iI ((kc + 1 : Nat) : Int)) (lv' := [(3, .int (iI ((kc + 1 : Nat) : Int))), (1, .int (iI ((n2 + 1 : Nat) : Int))), (2, .int (iI (kr : Int))), (0, .ref mo)]) hx hb dM_pixels_46 hl (k := 1) rfl (iI_inc _ 1 (by omega)) (by decide) rfl (fun ls hl => ?_)
                refine lv_goto (tgt := 14) hx hb dM_pixels_49 (by decide) ?_
                exact ih_lp14 (kc + 1) (n2 + 1) (by omega) (by rw [cnG_S (mkF fM mv kr) cs kc (by omega)] at k2; first | (rw [if_pos hbb] at k2; omega) | (rw [if_neg hbb] at k2; omega)) (by omega) _ (lv_sub hl [0, 1, 2, 3] rfl)
        exact lp14 (cs - 0 + 1) 0 nn (by omega) (by rw [Nat.sub_zero]; omega) (Nat.lt_succ_self _) _ (lv_sub hl [0, 2, 1, 3] rfl)
  exact lp4 (rs - 0 + 1) 0 0 (by omega) (by rw [Nat.sub_zero, Nat.zero_add]; rfl) (Nat.lt_succ_self _) _ (lv_sub hl [0, 1, 2] rfl)

def rm_m_runs : Room := { frames := 3, cells := 0, slots := 0, locals := 69 }
set_option maxHeartbeats 4000000 in
set_option maxRecDepth 100000 in
theorem m_runs (l : Launch) (D : va_G) (cA cB cS : ClassId) (mo : Nat) (cs : Nat) (rs : Nat) (mg : Nat) (mm : Nat) (mx : Nat) (my : Nat) (mf : Nat) (mt : Nat) (fB : Nat → Int) (fM : Nat → Int) (gX : Nat → Int) (gY : Nat → Int) (gF : Nat → Int) (gT : Nat → Int) (mv : Nat) (mp : Nat) (me : Nat) (h1 : mv < 14) (hm : mRng fM) (hc : 0 < cs ∧ cs ≤ 256) (hr_ : 0 < rs ∧ rs ≤ 256) : Met l yM_runs wM_runs rm_m_runs (pR [.ref mo] D vwCl (vwTy cA cB cS) vwNw [(mo, .inr (4, [.int (iI (cs : Int)), .int (iI (rs : Int)), .ref mg, .ref mm, .int (iI (mv : Int)), .ref mx, .ref my, .ref mf, .int (iI (mp : Int)), .ref mt, .int (iI (me : Int))])), (mg, .inl (cB, 65536, .inl (iA fB))), (mm, .inl (cS, 65536, .inl (iA fM))), (mx, .inl (cA, 4096, .inl (iA gX))), (my, .inl (cA, 4096, .inl (iA gY))), (mf, .inl (cA, 4096, .inl (iA gF))), (mt, .inl (cA, 4096, .inl (iA gT)))]) (qI (fun z => z = ((rnJ fM cs rs (mv + 1) : Nat) : Int))) 0 0 (fun _ => False) := by
  refine Met.ofW (cc := bM_runs) (maxL := 1) (ret := (some .int)) (by decide +kernel) rfl ?_
  intro p e s m args below meth c s₁ B hml hv
  obtain ⟨rfl, hP, hKW⟩ := hv
  have hK := hKW.1
  have hN := hKW.2.2
  have hx := B.exec
  have hb := B.bytes
  have hr := B.returns
  have hts := atoms_spec (ws := wM_runs) B.pre
  have hown : s.vm.findClass "WindingRasterModel" = some m.cls := findClass_of_methodNamed B.named
  have hlocks := B.notSynchronized
  have hP : va_P D vwCl [(mo, .inr (4, [.int (iI (cs : Int)), .int (iI (rs : Int)), .ref mg, .ref mm, .int (iI (mv : Int)), .ref mx, .ref my, .ref mf, .int (iI (mp : Int)), .ref mt, .int (iI (me : Int))])), (mg, .inl (cB, 65536, .inl (iA fB))), (mm, .inl (cS, 65536, .inl (iA fM))), (mx, .inl (cA, 4096, .inl (iA gX))), (my, .inl (cA, 4096, .inl (iA gY))), (mf, .inl (cA, 4096, .inl (iA gF))), (mt, .inl (cA, 4096, .inl (iA gT)))] s.heap := hP
  have in_4 : ∀ w ∈ wsM, w ∈ wM_runs := fun w h => List.mem_cons_of_mem _ (in0_M w h)
  have fl_96 := (hts _ (List.mem_cons_of_mem _ vm_265))
  have hl := lv_entry ([.ref mo]) (n := 1) (Nat.le_of_ble_eq_true rfl)
  rw [lg_entry_eq]
  generalize (lg_sl ([.ref mo]) ++ List.replicate (1 - (lg_sl ([.ref mo])).length) Slot.unset).toArray = ls at hl ⊢
  have hl : lv_has ls 1 [(0, .ref mo)] := hl
  generalize hQ : MQ below (qI (fun z => z = ((rnJ fM cs rs (mv + 1) : Nat) : Int))) [.ref mo].toArray s 0 0 (fun _ => False) = QQ
  refine lv_aload_n hx hb dM_runs_0 rfl (lv_at hl 0 rfl) ?_
  refine lv_aload_n hx hb dM_runs_1 rfl (lv_at hl 0 rfl) ?_
  refine va_get (ci := 4) (v := .int (iI (mv : Int))) (C := "WindingRasterModel") (T := TM) (N := 11) hx hb hts in_4 hown hK hP 0 rfl rfl 4 (by decide) fl_96 (fun _ h9 => h9) rfl dM_runs_2 ?_
  refine ii_iconst (n := 1) hx hb dM_runs_5 ?_
  refine ii_iadd hx hb dM_runs_6 ?_
  refine ii_top (y := ((mv + 1 : Nat) : Int)) (by push_cast; rfl) ?_
  refine cs_i (va_runV (As := [.int (iI ((mv + 1 : Nat) : Int))]) (rest := []) ⟨hx, hb, hml, hown, hts⟩ (m_runsTo l D cA cB cS mo cs rs mg mm mx my mf mt fB fM gX gY gF gT mv mp me (mv + 1) (by omega) hm (by omega) (by omega)) ⟨(callB_of 1 hts (gIn vm_359) rfl rfl rfl (hts _ (List.mem_cons_of_mem _ vm_8)) (hts _ (List.mem_cons_of_mem _ vm_357)) (by decide +kernel) ⟨Nat.le_of_ble_eq_true rfl, Nat.le_of_ble_eq_true rfl⟩), (hts _ (List.mem_cons_of_mem _ vm_358)), (hts _ (List.mem_cons_of_mem _ vm_429))⟩ (pR.preV (va_recv hK hP (ci := 4) (q0 := 0) rfl rfl) (hP.sub [0, 1, 2, 3, 4, 5, 6] rfl) hKW) rfl rfl hl.1 rfl (lv_room (Nat.le_of_ble_eq_true rfl)) dM_runs_7 ⟨Nat.le_of_ble_eq_true rfl, Nat.le_of_ble_eq_true rfl⟩) (fun z_1 hz_1 => ?_)
  subst hz_1
  rw [← hQ]
  exact rd_iret hx hb hr hlocks rfl dM_runs_10

def rm_m_gray : Room := { frames := 1, cells := 0, slots := 0, locals := 22 }
set_option maxHeartbeats 4000000 in
set_option maxRecDepth 100000 in
theorem m_gray (l : Launch) (D : va_G) (cA cB cS : ClassId) (mo : Nat) (cs : Nat) (rs : Nat) (mg : Nat) (mm : Nat) (mx : Nat) (my : Nat) (mf : Nat) (mt : Nat) (fB : Nat → Int) (fM : Nat → Int) (gX : Nat → Int) (gY : Nat → Int) (gF : Nat → Int) (gT : Nat → Int) (mv : Nat) (mp : Nat) (me : Nat) (a1 : Int) (a2 : Int) (h1 : i32 a1) (h3 : i32 a2) (hc : 0 < cs ∧ cs ≤ 256) (hr_ : 0 < rs ∧ rs ≤ 256) : Met l yM_gray wM_gray rm_m_gray (pR [.ref mo, .int (iI a1), .int (iI a2)] D vwCl (vwTy cA cB cS) vwNw [(mo, .inr (4, [.int (iI (cs : Int)), .int (iI (rs : Int)), .ref mg, .ref mm, .int (iI (mv : Int)), .ref mx, .ref my, .ref mf, .int (iI (mp : Int)), .ref mt, .int (iI (me : Int))])), (mg, .inl (cB, 65536, .inl (iA fB))), (mm, .inl (cS, 65536, .inl (iA fM))), (mx, .inl (cA, 4096, .inl (iA gX))), (my, .inl (cA, 4096, .inl (iA gY))), (mf, .inl (cA, 4096, .inl (iA gF))), (mt, .inl (cA, 4096, .inl (iA gT)))]) (qI (fun z => ((0 ≤ a1 ∧ a1 < (cs : Int) ∧ 0 ≤ a2 ∧ a2 < (rs : Int)) ∧ z = fB (256 * a2.toNat + a1.toNat) % 256) ∨ (¬ (0 ≤ a1 ∧ a1 < (cs : Int) ∧ 0 ≤ a2 ∧ a2 < (rs : Int)) ∧ z = -1))) 0 0 (fun _ => False) := by
  refine Met.ofW (cc := bM_gray) (maxL := 3) (ret := (some .int)) (by decide +kernel) rfl ?_
  intro p e s m args below meth c s₁ B hml hv
  obtain ⟨rfl, hP, hKW⟩ := hv
  have hK := hKW.1
  have hN := hKW.2.2
  have hx := B.exec
  have hb := B.bytes
  have hr := B.returns
  have hts := atoms_spec (ws := wM_gray) B.pre
  have hown : s.vm.findClass "WindingRasterModel" = some m.cls := findClass_of_methodNamed B.named
  have hlocks := B.notSynchronized
  have hP : va_P D vwCl [(mo, .inr (4, [.int (iI (cs : Int)), .int (iI (rs : Int)), .ref mg, .ref mm, .int (iI (mv : Int)), .ref mx, .ref my, .ref mf, .int (iI (mp : Int)), .ref mt, .int (iI (me : Int))])), (mg, .inl (cB, 65536, .inl (iA fB))), (mm, .inl (cS, 65536, .inl (iA fM))), (mx, .inl (cA, 4096, .inl (iA gX))), (my, .inl (cA, 4096, .inl (iA gY))), (mf, .inl (cA, 4096, .inl (iA gF))), (mt, .inl (cA, 4096, .inl (iA gT)))] s.heap := hP
  have in_4 : ∀ w ∈ wsM, w ∈ wM_gray := fun w h => List.mem_cons_of_mem _ (in0_M w h)
  have fl_8 := (hts _ (List.mem_cons_of_mem _ vm_263))
  have hl := lv_entry ([.ref mo, .int (iI a1), .int (iI a2)]) (n := 3) (Nat.le_of_ble_eq_true rfl)
  rw [lg_entry_eq]
  generalize (lg_sl ([.ref mo, .int (iI a1), .int (iI a2)]) ++ List.replicate (3 - (lg_sl ([.ref mo, .int (iI a1), .int (iI a2)])).length) Slot.unset).toArray = ls at hl ⊢
  have hl : lv_has ls 3 [(0, .ref mo), (1, .int (iI a1)), (2, .int (iI a2))] := hl
  generalize hQ : MQ below (qI (fun z => ((0 ≤ a1 ∧ a1 < (cs : Int) ∧ 0 ≤ a2 ∧ a2 < (rs : Int)) ∧ z = fB (256 * a2.toNat + a1.toNat) % 256) ∨ (¬ (0 ≤ a1 ∧ a1 < (cs : Int) ∧ 0 ≤ a2 ∧ a2 < (rs : Int)) ∧ z = -1))) [.ref mo, .int (iI a1), .int (iI a2)].toArray s 0 0 (fun _ => False) = QQ
  refine lv_aload_n hx hb dM_gray_0 rfl (lv_at hl 0 rfl) ?_
  refine lv_iload_n hx hb dM_gray_1 rfl (lv_at hl 1 rfl) ?_
  refine lv_iload_n hx hb dM_gray_2 rfl (lv_at hl 2 rfl) ?_
  refine cs_i (va_runV (As := [.int (iI a1), .int (iI a2)]) (rest := []) ⟨hx, hb, hml, hown, hts⟩ (m_isPixel l D cA cB cS mo cs rs mg mm mx my mf mt fB fM gX gY gF gT mv mp me a1 a2 (by omega) (by omega) (by omega) (by omega)) ⟨(callB_of 2 hts (gIn vm_319) rfl rfl rfl (hts _ (List.mem_cons_of_mem _ vm_8)) (hts _ (List.mem_cons_of_mem _ vm_317)) (by decide +kernel) ⟨Nat.le_of_ble_eq_true rfl, Nat.le_of_ble_eq_true rfl⟩), (hts _ (List.mem_cons_of_mem _ vm_318)), (hts _ (List.mem_cons_of_mem _ vm_422))⟩ (pR.preV (va_recv hK hP (ci := 4) (q0 := 0) rfl rfl) (hP.sub [0, 1, 2, 3, 4, 5, 6] rfl) hKW) rfl rfl hl.1 rfl (lv_room (Nat.le_of_ble_eq_true rfl)) dM_gray_3 ⟨Nat.le_of_ble_eq_true rfl, Nat.le_of_ble_eq_true rfl⟩) (fun z_1 hz_1 => ?_)
  refine ii_if_eq (tgt := 26) hx hb dM_gray_6 (by decide) (by omega) (fun c6 => ?_) (fun c6 => ?_)
  · refine ii_iconst (n := (-1)) hx hb dM_gray_26 ?_
    rw [← hQ]
    exact rd_iret hx hb hr hlocks (Or.inr ⟨by omega, rfl⟩) dM_gray_27
  · obtain ⟨kc, rfl⟩ : ∃ kc : Nat, a1 = (kc : Int) := ⟨a1.toNat, by omega⟩
    obtain ⟨kr, rfl⟩ : ∃ kr : Nat, a2 = (kr : Int) := ⟨a2.toNat, by omega⟩
    refine lv_aload_n hx hb dM_gray_9 rfl (lv_at hl 0 rfl) ?_
    refine va_get (ci := 4) (v := .ref mg) (C := "WindingRasterModel") (T := TM) (N := 11) hx hb hts in_4 hown hK hP 0 rfl rfl 2 (by decide) fl_8 (fun _ h9 => h9) rfl dM_gray_10 ?_
    refine lv_iload_n hx hb dM_gray_13 rfl (lv_at hl 1 rfl) ?_
    refine lv_iload_n hx hb dM_gray_14 rfl (lv_at hl 2 rfl) ?_
    refine cs_i (va_runS (As := [.int (iI (kc : Int)), .int (iI (kr : Int))]) (rest := [.ref mg]) ⟨hx, hb, hml, hown, hts⟩ (m_at l D cA cB cS kc kr) ⟨(callB_of 2 hts (gIn vm_343) rfl rfl rfl (hts _ (List.mem_cons_of_mem _ vm_8)) (hts _ (List.mem_cons_of_mem _ vm_341)) (by decide +kernel) ⟨Nat.le_of_ble_eq_true rfl, Nat.le_of_ble_eq_true rfl⟩), (hts _ (List.mem_cons_of_mem _ vm_342))⟩ (pR.pre (hP.sub [] rfl) hKW) rfl rfl hl.1 rfl (lv_room (Nat.le_of_ble_eq_true rfl)) dM_gray_15 ⟨Nat.le_of_ble_eq_true rfl, Nat.le_of_ble_eq_true rfl⟩) (fun z_2 hz_2 => ?_)
    subst hz_2
    refine ii_bald hx hb hK hP 1 1 rfl rfl (256 * kr + kc) rfl (by omega) (by omega) dM_gray_18 ?_
    refine ii_sipush (n := 255) hx hb dM_gray_19 (by decide +kernel) ?_
    refine ii_iand (z := (fB (256 * kr + kc)) % 256) hx hb dM_gray_22 (iI_and255 _) ?_
    refine lv_goto (tgt := 27) hx hb dM_gray_23 (by decide) ?_
    rw [← hQ]
    exact rd_iret hx hb hr hlocks (Or.inl ⟨by omega, rfl⟩) dM_gray_27

def rm_m_openP : Room := { frames := 1, cells := 0, slots := 0, locals := 22 }
set_option maxHeartbeats 4000000 in
set_option maxRecDepth 100000 in
theorem m_openP (l : Launch) (D : va_G) (cA cB cS : ClassId) (mo : Nat) (cs : Nat) (rs : Nat) (mg : Nat) (mm : Nat) (mx : Nat) (my : Nat) (mf : Nat) (mt : Nat) (fB : Nat → Int) (fM : Nat → Int) (gX : Nat → Int) (gY : Nat → Int) (gF : Nat → Int) (gT : Nat → Int) (mv : Nat) (mp : Nat) (me : Nat) (a1 : Int) (a2 : Int) (h1 : i32 a1) (h3 : i32 a2) (hc : 0 < cs ∧ cs ≤ 256) (hr_ : 0 < rs ∧ rs ≤ 256) (h5 : mv < 14) (hm : mRng fM) : Met l yM_open wM_open rm_m_openP (pR [.ref mo, .int (iI a1), .int (iI a2)] D vwCl (vwTy cA cB cS) vwNw [(mo, .inr (4, [.int (iI (cs : Int)), .int (iI (rs : Int)), .ref mg, .ref mm, .int (iI (mv : Int)), .ref mx, .ref my, .ref mf, .int (iI (mp : Int)), .ref mt, .int (iI (me : Int))])), (mg, .inl (cB, 65536, .inl (iA fB))), (mm, .inl (cS, 65536, .inl (iA fM))), (mx, .inl (cA, 4096, .inl (iA gX))), (my, .inl (cA, 4096, .inl (iA gY))), (mf, .inl (cA, 4096, .inl (iA gF))), (mt, .inl (cA, 4096, .inl (iA gT)))]) (qI (fun z => ((0 ≤ a1 ∧ a1 < (cs : Int) ∧ 0 ≤ a2 ∧ a2 < (rs : Int)) ∧ ((z = 1 ∧ mkF fM mv a2.toNat a1.toNat = true) ∨ (z = 0 ∧ ¬ mkF fM mv a2.toNat a1.toNat = true))) ∨ (¬ (0 ≤ a1 ∧ a1 < (cs : Int) ∧ 0 ≤ a2 ∧ a2 < (rs : Int)) ∧ z = -1))) 0 0 (fun _ => False) := by
  refine Met.ofW (cc := bM_open) (maxL := 3) (ret := (some .int)) (by decide +kernel) rfl ?_
  intro p e s m args below meth c s₁ B hml hv
  obtain ⟨rfl, hP, hKW⟩ := hv
  have hK := hKW.1
  have hN := hKW.2.2
  have hx := B.exec
  have hb := B.bytes
  have hr := B.returns
  have hts := atoms_spec (ws := wM_open) B.pre
  have hown : s.vm.findClass "WindingRasterModel" = some m.cls := findClass_of_methodNamed B.named
  have hlocks := B.notSynchronized
  have hP : va_P D vwCl [(mo, .inr (4, [.int (iI (cs : Int)), .int (iI (rs : Int)), .ref mg, .ref mm, .int (iI (mv : Int)), .ref mx, .ref my, .ref mf, .int (iI (mp : Int)), .ref mt, .int (iI (me : Int))])), (mg, .inl (cB, 65536, .inl (iA fB))), (mm, .inl (cS, 65536, .inl (iA fM))), (mx, .inl (cA, 4096, .inl (iA gX))), (my, .inl (cA, 4096, .inl (iA gY))), (mf, .inl (cA, 4096, .inl (iA gF))), (mt, .inl (cA, 4096, .inl (iA gT)))] s.heap := hP
  have in_4 : ∀ w ∈ wsM, w ∈ wM_open := fun w h => List.mem_cons_of_mem _ (in0_M w h)
  have fl_96 := (hts _ (List.mem_cons_of_mem _ vm_265))
  have hl := lv_entry ([.ref mo, .int (iI a1), .int (iI a2)]) (n := 3) (Nat.le_of_ble_eq_true rfl)
  rw [lg_entry_eq]
  generalize (lg_sl ([.ref mo, .int (iI a1), .int (iI a2)]) ++ List.replicate (3 - (lg_sl ([.ref mo, .int (iI a1), .int (iI a2)])).length) Slot.unset).toArray = ls at hl ⊢
  have hl : lv_has ls 3 [(0, .ref mo), (1, .int (iI a1)), (2, .int (iI a2))] := hl
  generalize hQ : MQ below (qI (fun z => ((0 ≤ a1 ∧ a1 < (cs : Int) ∧ 0 ≤ a2 ∧ a2 < (rs : Int)) ∧ ((z = 1 ∧ mkF fM mv a2.toNat a1.toNat = true) ∨ (z = 0 ∧ ¬ mkF fM mv a2.toNat a1.toNat = true))) ∨ (¬ (0 ≤ a1 ∧ a1 < (cs : Int) ∧ 0 ≤ a2 ∧ a2 < (rs : Int)) ∧ z = -1))) [.ref mo, .int (iI a1), .int (iI a2)].toArray s 0 0 (fun _ => False) = QQ
  refine lv_aload_n hx hb dM_open_0 rfl (lv_at hl 0 rfl) ?_
  refine lv_iload_n hx hb dM_open_1 rfl (lv_at hl 1 rfl) ?_
  refine lv_iload_n hx hb dM_open_2 rfl (lv_at hl 2 rfl) ?_
  refine cs_i (va_runV (As := [.int (iI a1), .int (iI a2)]) (rest := []) ⟨hx, hb, hml, hown, hts⟩ (m_isPixel l D cA cB cS mo cs rs mg mm mx my mf mt fB fM gX gY gF gT mv mp me a1 a2 (by omega) (by omega) (by omega) (by omega)) ⟨(callB_of 2 hts (gIn vm_319) rfl rfl rfl (hts _ (List.mem_cons_of_mem _ vm_8)) (hts _ (List.mem_cons_of_mem _ vm_317)) (by decide +kernel) ⟨Nat.le_of_ble_eq_true rfl, Nat.le_of_ble_eq_true rfl⟩), (hts _ (List.mem_cons_of_mem _ vm_318)), (hts _ (List.mem_cons_of_mem _ vm_422))⟩ (pR.preV (va_recv hK hP (ci := 4) (q0 := 0) rfl rfl) (hP.sub [0, 1, 2, 3, 4, 5, 6] rfl) hKW) rfl rfl hl.1 rfl (lv_room (Nat.le_of_ble_eq_true rfl)) dM_open_3 ⟨Nat.le_of_ble_eq_true rfl, Nat.le_of_ble_eq_true rfl⟩) (fun z_1 hz_1 => ?_)
  refine ii_if_ne (tgt := 11) hx hb dM_open_6 (by decide) (by omega) (fun c6 => ?_) (fun c6 => ?_)
  · obtain ⟨kc, rfl⟩ : ∃ kc : Nat, a1 = (kc : Int) := ⟨a1.toNat, by omega⟩
    obtain ⟨kr, rfl⟩ : ∃ kr : Nat, a2 = (kr : Int) := ⟨a2.toNat, by omega⟩
    refine lv_aload_n hx hb dM_open_11 rfl (lv_at hl 0 rfl) ?_
    refine lv_iload_n hx hb dM_open_12 rfl (lv_at hl 1 rfl) ?_
    refine lv_iload_n hx hb dM_open_13 rfl (lv_at hl 2 rfl) ?_
    refine cs_i (va_runS (As := [.int (iI (kc : Int)), .int (iI (kr : Int))]) (rest := [.ref mo]) ⟨hx, hb, hml, hown, hts⟩ (m_at l D cA cB cS kc kr) ⟨(callB_of 2 hts (gIn vm_343) rfl rfl rfl (hts _ (List.mem_cons_of_mem _ vm_8)) (hts _ (List.mem_cons_of_mem _ vm_341)) (by decide +kernel) ⟨Nat.le_of_ble_eq_true rfl, Nat.le_of_ble_eq_true rfl⟩), (hts _ (List.mem_cons_of_mem _ vm_342))⟩ (pR.pre (hP.sub [] rfl) hKW) rfl rfl hl.1 rfl (lv_room (Nat.le_of_ble_eq_true rfl)) dM_open_14 ⟨Nat.le_of_ble_eq_true rfl, Nat.le_of_ble_eq_true rfl⟩) (fun z_2 hz_2 => ?_)
    subst hz_2
    refine lv_aload_n hx hb dM_open_17 rfl (lv_at hl 0 rfl) ?_
    refine va_get (ci := 4) (v := .int (iI (mv : Int))) (C := "WindingRasterModel") (T := TM) (N := 11) hx hb hts in_4 hown hK hP 0 rfl rfl 4 (by decide) fl_96 (fun _ h9 => h9) rfl dM_open_18 ?_
    refine cs_i (va_runV (As := [.int (iI ((256 * kr + kc : Nat) : Int)), .int (iI (mv : Int))]) (rest := []) ⟨hx, hb, hml, hown, hts⟩ (m_isOpen l D cA cB cS mo cs rs mg mm mx my mf mt fB fM gX gY gF gT mv mp me (256 * kr + kc) mv (by omega) (by omega) hm) ⟨(callB_of 2 hts (gIn vm_346) rfl rfl rfl (hts _ (List.mem_cons_of_mem _ vm_8)) (hts _ (List.mem_cons_of_mem _ vm_344)) (by decide +kernel) ⟨Nat.le_of_ble_eq_true rfl, Nat.le_of_ble_eq_true rfl⟩), (hts _ (List.mem_cons_of_mem _ vm_345)), (hts _ (List.mem_cons_of_mem _ vm_427))⟩ (pR.preV (va_recv hK hP (ci := 4) (q0 := 0) rfl rfl) (hP.sub [0, 1, 2, 3, 4, 5, 6] rfl) hKW) rfl rfl hl.1 rfl (lv_room (Nat.le_of_ble_eq_true rfl)) dM_open_21 ⟨Nat.le_of_ble_eq_true rfl, Nat.le_of_ble_eq_true rfl⟩) (fun zo hzo => ?_)
    refine ii_if_eq (tgt := 31) hx hb dM_open_24 (by decide) (by omega) (fun c24 => ?_) (fun c24 => ?_)
    · refine ii_iconst (n := 0) hx hb dM_open_31 ?_
      rw [← hQ]
      exact rd_iret hx hb hr hlocks (Or.inl ⟨by omega, Or.inr ⟨rfl, by rcases hzo with w | w; (exfalso; omega); (exact w.2)⟩⟩) dM_open_32
    · refine ii_iconst (n := 1) hx hb dM_open_27 ?_
      refine lv_goto (tgt := 32) hx hb dM_open_28 (by decide) ?_
      rw [← hQ]
      exact rd_iret hx hb hr hlocks (Or.inl ⟨by omega, Or.inl ⟨rfl, by rcases hzo with w | w; (exact w.2); (exfalso; omega)⟩⟩) dM_open_32
  · refine ii_iconst (n := (-1)) hx hb dM_open_9 ?_
    rw [← hQ]
    exact rd_iret hx hb hr hlocks (Or.inr ⟨by omega, rfl⟩) dM_open_10

def rm_m_count : Room := { frames := 1, cells := 0, slots := 0, locals := 21 }
set_option maxHeartbeats 4000000 in
set_option maxRecDepth 100000 in
theorem m_count (l : Launch) (D : va_G) (cA cB cS : ClassId) (mo : Nat) (cs : Nat) (rs : Nat) (mg : Nat) (mm : Nat) (mx : Nat) (my : Nat) (mf : Nat) (mt : Nat) (fB : Nat → Int) (fM : Nat → Int) (gX : Nat → Int) (gY : Nat → Int) (gF : Nat → Int) (gT : Nat → Int) (mv : Nat) (mp : Nat) (me : Nat) (a1 : Int) (a2 : Int) (h1 : i32 a1) (h3 : i32 a2) (hc : 0 < cs ∧ cs ≤ 256) (hr_ : 0 < rs ∧ rs ≤ 256) : Met l yM_count wM_count rm_m_count (pR [.ref mo, .int (iI a1), .int (iI a2)] D vwCl (vwTy cA cB cS) vwNw [(mo, .inr (4, [.int (iI (cs : Int)), .int (iI (rs : Int)), .ref mg, .ref mm, .int (iI (mv : Int)), .ref mx, .ref my, .ref mf, .int (iI (mp : Int)), .ref mt, .int (iI (me : Int))])), (mg, .inl (cB, 65536, .inl (iA fB))), (mm, .inl (cS, 65536, .inl (iA fM))), (mx, .inl (cA, 4096, .inl (iA gX))), (my, .inl (cA, 4096, .inl (iA gY))), (mf, .inl (cA, 4096, .inl (iA gF))), (mt, .inl (cA, 4096, .inl (iA gT)))]) (qI (fun z => ((0 ≤ a1 ∧ a1 < (rs : Int)) ∧ z = sm (fun k => if fB (256 * a1.toNat + k) % 256 = a2 then 1 else 0) cs) ∨ (¬ (0 ≤ a1 ∧ a1 < (rs : Int)) ∧ z = -1))) 0 0 (fun _ => False) := by
  refine Met.ofW (cc := bM_count) (maxL := 5) (ret := (some .int)) (by decide +kernel) rfl ?_
  intro p e s m args below meth c s₁ B hml hv
  obtain ⟨rfl, hP, hKW⟩ := hv
  have hK := hKW.1
  have hN := hKW.2.2
  have hx := B.exec
  have hb := B.bytes
  have hr := B.returns
  have hts := atoms_spec (ws := wM_count) B.pre
  have hown : s.vm.findClass "WindingRasterModel" = some m.cls := findClass_of_methodNamed B.named
  have hlocks := B.notSynchronized
  have hP : va_P D vwCl [(mo, .inr (4, [.int (iI (cs : Int)), .int (iI (rs : Int)), .ref mg, .ref mm, .int (iI (mv : Int)), .ref mx, .ref my, .ref mf, .int (iI (mp : Int)), .ref mt, .int (iI (me : Int))])), (mg, .inl (cB, 65536, .inl (iA fB))), (mm, .inl (cS, 65536, .inl (iA fM))), (mx, .inl (cA, 4096, .inl (iA gX))), (my, .inl (cA, 4096, .inl (iA gY))), (mf, .inl (cA, 4096, .inl (iA gF))), (mt, .inl (cA, 4096, .inl (iA gT)))] s.heap := hP
  have in_4 : ∀ w ∈ wsM, w ∈ wM_count := fun w h => List.mem_cons_of_mem _ (in0_M w h)
  have fl_39 := (hts _ (List.mem_cons_of_mem _ vm_262))
  have fl_35 := (hts _ (List.mem_cons_of_mem _ vm_261))
  have fl_8 := (hts _ (List.mem_cons_of_mem _ vm_263))
  have hl := lv_entry ([.ref mo, .int (iI a1), .int (iI a2)]) (n := 5) (Nat.le_of_ble_eq_true rfl)
  rw [lg_entry_eq]
  generalize (lg_sl ([.ref mo, .int (iI a1), .int (iI a2)]) ++ List.replicate (5 - (lg_sl ([.ref mo, .int (iI a1), .int (iI a2)])).length) Slot.unset).toArray = ls at hl ⊢
  have hl : lv_has ls 5 [(0, .ref mo), (1, .int (iI a1)), (2, .int (iI a2))] := hl
  generalize hQ : MQ below (qI (fun z => ((0 ≤ a1 ∧ a1 < (rs : Int)) ∧ z = sm (fun k => if fB (256 * a1.toNat + k) % 256 = a2 then 1 else 0) cs) ∨ (¬ (0 ≤ a1 ∧ a1 < (rs : Int)) ∧ z = -1))) [.ref mo, .int (iI a1), .int (iI a2)].toArray s 0 0 (fun _ => False) = QQ
  refine lv_iload_n hx hb dM_count_0 rfl (lv_at hl 1 rfl) ?_
  refine ii_if_lt (tgt := 12) hx hb dM_count_1 (by decide) (by omega) (fun c1 => ?_) (fun c1 => ?_)
  · refine ii_iconst (n := (-1)) hx hb dM_count_12 ?_
    rw [← hQ]
    exact rd_iret hx hb hr hlocks (Or.inr ⟨by omega, rfl⟩) dM_count_13
  · refine lv_iload_n hx hb dM_count_4 rfl (lv_at hl 1 rfl) ?_
    refine lv_aload_n hx hb dM_count_5 rfl (lv_at hl 0 rfl) ?_
    refine va_get (ci := 4) (v := .int (iI (rs : Int))) (C := "WindingRasterModel") (T := TM) (N := 11) hx hb hts in_4 hown hK hP 0 rfl rfl 1 (by decide) fl_39 (fun _ h9 => h9) rfl dM_count_6 ?_
    refine ii_icmp_lt (tgt := 14) hx hb dM_count_9 (by decide) (by omega) (by omega) (fun c9 => ?_) (fun c9 => ?_)
    · obtain ⟨kr, hkr⟩ : ∃ kr : Nat, a1 = (kr : Int) := ⟨a1.toNat, by omega⟩
      rw [hkr] at hl
      refine ii_iconst (n := 0) hx hb dM_count_14 ?_
      refine lv_istore_n (lv' := [(3, .int (iI 0)), (0, .ref mo), (1, .int (iI (kr : Int))), (2, .int (iI a2))]) hx hb dM_count_15 rfl hl (by decide) rfl (fun ls hl => ?_)
      refine ii_iconst (n := 0) hx hb dM_count_16 ?_
      refine lv_istore (lv' := [(4, .int (iI 0)), (3, .int (iI 0)), (0, .ref mo), (1, .int (iI (kr : Int))), (2, .int (iI a2))]) hx hb dM_count_17 hl (by decide) rfl (fun ls hl => ?_)
      have lp19 : ∀ (n_ : Nat) (k : Nat) (fo : Nat), (k ≤ cs) → ((fo : Int) = sm (fun k => if fB (256 * kr + k) % 256 = a2 then 1 else 0) k) → (cs - k) < n_ → ∀ ls : Array Slot, lv_has ls 5 [(4, .int (iI (k : Int))), (3, .int (iI (fo : Int))), (0, .ref mo), (1, .int (iI (kr : Int))), (2, .int (iI a2))] → W p l e (headSpec wM_count rm_m_count).room s m [.ref mo, .int (iI a1), .int (iI a2)].toArray below meth c s.heap [] 0 0 QQ (F0 m 19 ls []) := by
        intro n_
        induction n_ with
        | zero =>
          intro k fo k1 k2 hm_
          exact absurd hm_ (Nat.not_lt_zero _)
        | succ n_ ih_lp19 =>
          intro k fo k1 k2 hm_lp19 ls hl
          refine lv_iload hx hb dM_count_19 (lv_at hl 0 rfl) ?_
          refine lv_aload_n hx hb dM_count_21 rfl (lv_at hl 2 rfl) ?_
          refine va_get (ci := 4) (v := .int (iI (cs : Int))) (C := "WindingRasterModel") (T := TM) (N := 11) hx hb hts in_4 hown hK hP 0 rfl rfl 0 (by decide) fl_35 (fun _ h9 => h9) rfl dM_count_22 ?_
          refine ii_icmp_ge (tgt := 61) hx hb dM_count_25 (by decide) (by omega) (by omega) (fun c25 => ?_) (fun c25 => ?_)
          · refine lv_iload_n hx hb dM_count_61 rfl (lv_at hl 1 rfl) ?_
            rw [← hQ]
            exact rd_iret hx hb hr hlocks (Or.inl ⟨by omega, by rw [show a1.toNat = kr by omega, k2, show k = cs by omega]⟩) dM_count_62
          · refine lv_iload_n hx hb dM_count_28 rfl (lv_at hl 1 rfl) ?_
            refine lv_aload_n hx hb dM_count_29 rfl (lv_at hl 2 rfl) ?_
            refine va_get (ci := 4) (v := .ref mg) (C := "WindingRasterModel") (T := TM) (N := 11) hx hb hts in_4 hown hK hP 0 rfl rfl 2 (by decide) fl_8 (fun _ h9 => h9) rfl dM_count_30 ?_
            refine lv_iload hx hb dM_count_33 (lv_at hl 0 rfl) ?_
            refine lv_iload_n hx hb dM_count_35 rfl (lv_at hl 3 rfl) ?_
            refine cs_i (va_runS (As := [.int (iI (k : Int)), .int (iI (kr : Int))]) (rest := [.ref mg, .int (iI (fo : Int))]) ⟨hx, hb, hml, hown, hts⟩ (m_at l D cA cB cS k kr) ⟨(callB_of 2 hts (gIn vm_343) rfl rfl rfl (hts _ (List.mem_cons_of_mem _ vm_8)) (hts _ (List.mem_cons_of_mem _ vm_341)) (by decide +kernel) ⟨Nat.le_of_ble_eq_true rfl, Nat.le_of_ble_eq_true rfl⟩), (hts _ (List.mem_cons_of_mem _ vm_342))⟩ (pR.pre (hP.sub [] rfl) hKW) rfl rfl hl.1 rfl (lv_room (Nat.le_of_ble_eq_true rfl)) dM_count_36 ⟨Nat.le_of_ble_eq_true rfl, Nat.le_of_ble_eq_true rfl⟩) (fun z_1 hz_1 => ?_)
            subst hz_1
            refine ii_bald hx hb hK hP 1 1 rfl rfl (256 * kr + k) rfl (by omega) (by omega) dM_count_39 ?_
            refine ii_sipush (n := 255) hx hb dM_count_40 (by decide +kernel) ?_
            refine ii_iand (z := (fB (256 * kr + k)) % 256) hx hb dM_count_43 (iI_and255 _) ?_
            refine lv_iload_n hx hb dM_count_44 rfl (lv_at hl 4 rfl) ?_
            refine ii_icmp_ne (tgt := 52) hx hb dM_count_45 (by decide) (by omega) (by omega) (fun c45 => ?_) (fun c45 => ?_)
            · refine ii_iconst (n := 0) hx hb dM_count_52 ?_
              refine ii_iadd hx hb dM_count_53 ?_
              refine ii_top (y := ((fo + 0 : Nat) : Int)) (by push_cast; rfl) ?_
              refine lv_istore_n (lv' := [(3, .int (iI ((fo + 0 : Nat) : Int))), (4, .int (iI (k : Int))), (0, .ref mo), (1, .int (iI (kr : Int))), (2, .int (iI a2))]) hx hb dM_count_54 rfl hl (by decide) rfl (fun ls hl => ?_)
              refine lv_iinc (v := iI ((k + 1 : Nat) : Int)) (lv' := [(4, .int (iI ((k + 1 : Nat) : Int))), (3, .int (iI ((fo + 0 : Nat) : Int))), (0, .ref mo), (1, .int (iI (kr : Int))), (2, .int (iI a2))]) hx hb dM_count_55 hl (k := 1) rfl (iI_inc _ 1 (by omega)) (by decide) rfl (fun ls hl => ?_)
              refine lv_goto (tgt := 19) hx hb dM_count_58 (by decide) ?_
              exact ih_lp19 (k + 1) (fo + 0) (by omega) (by show _ = sm _ k + _; rw [← k2]; dsimp only; first | (rw [if_pos (by omega)]; omega) | (rw [if_neg (by omega)]; omega)) (by omega) _ (lv_sub hl [0, 1, 2, 3, 4] rfl)
            · refine ii_iconst (n := 1) hx hb dM_count_48 ?_
              refine lv_goto (tgt := 53) hx hb dM_count_49 (by decide) ?_
              refine ii_iadd hx hb dM_count_53 ?_
              refine ii_top (y := ((fo + 1 : Nat) : Int)) (by push_cast; rfl) ?_
              refine lv_istore_n (lv' := [(3, .int (iI ((fo + 1 : Nat) : Int))), (4, .int (iI (k : Int))), (0, .ref mo), (1, .int (iI (kr : Int))), (2, .int (iI a2))]) hx hb dM_count_54 rfl hl (by decide) rfl (fun ls hl => ?_)
              refine lv_iinc (v := iI ((k + 1 : Nat) : Int)) (lv' := [(4, .int (iI ((k + 1 : Nat) : Int))), (3, .int (iI ((fo + 1 : Nat) : Int))), (0, .ref mo), (1, .int (iI (kr : Int))), (2, .int (iI a2))]) hx hb dM_count_55 hl (k := 1) rfl (iI_inc _ 1 (by omega)) (by decide) rfl (fun ls hl => ?_)
              refine lv_goto (tgt := 19) hx hb dM_count_58 (by decide) ?_
              exact ih_lp19 (k + 1) (fo + 1) (by omega) (by show _ = sm _ k + _; rw [← k2]; dsimp only; first | (rw [if_pos (by omega)]; omega) | (rw [if_neg (by omega)]; omega)) (by omega) _ (lv_sub hl [0, 1, 2, 3, 4] rfl)
      exact lp19 (cs - 0 + 1) 0 0 (by omega) rfl (Nat.lt_succ_self _) _ (lv_sub hl [0, 1, 2, 3, 4] rfl)
    · refine ii_iconst (n := (-1)) hx hb dM_count_12 ?_
      rw [← hQ]
      exact rd_iret hx hb hr hlocks (Or.inr ⟨by omega, rfl⟩) dM_count_13
