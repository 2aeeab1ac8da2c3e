def rm_m_init : Room := { frames := 1, cells := 6, slots := 147456, locals := 20 }
set_option maxHeartbeats 4000000 in
set_option maxRecDepth 100000 in
theorem m_init (l : Launch) (D : va_G) (cA cB cS : ClassId) (mo : Nat) (a1 : Int) (a2 : Int) (cs : Nat) (rs : Nat) (h1 : i32 a1) (h2 : i32 a2) (h3 : (cs : Int) = max 1 (min 256 a1)) (h4 : (rs : Int) = max 1 (min 256 a2)) (sz : Nat) : Met l yM_init wM_init rm_m_init (pW [.ref mo, .int (iI a1), .int (iI a2)] D vwCl (vwTy cA cB cS) vwNw [(mo, .inr (4, [.int (iI 0), .int (iI 0), .null, .null, .int (iI 0), .null, .null, .null, .int (iI 0), .null, .int (iI 0)]))] sz) (qV (S := Nat × Nat × Nat × Nat × Nat × Nat × (Nat → Int) × (Nat → Int)) (fun u : Nat × Nat × Nat × Nat × Nat × Nat × (Nat → Int) × (Nat → Int) => (∀ q, q < 65536 → u.2.2.2.2.2.2.1 q = -1) ∧ ∀ q, q < 65536 → u.2.2.2.2.2.2.2 q = 1) D vwCl [(mo, .inr (4, [.int (iI 0), .int (iI 0), .null, .null, .int (iI 0), .null, .null, .null, .int (iI 0), .null, .int (iI 0)]))] sz (fun u : Nat × Nat × Nat × Nat × Nat × Nat × (Nat → Int) × (Nat → Int) => [(mo, .inr (4, [.int (iI (cs : Int)), .int (iI (rs : Int)), .ref u.1, .ref u.2.1, .int (iI 0), .ref u.2.2.1, .ref u.2.2.2.1, .ref u.2.2.2.2.1, .int (iI 0), .ref u.2.2.2.2.2.1, .int (iI 0)])), (u.1, .inl (cB, 65536, .inl (iA u.2.2.2.2.2.2.1))), (u.2.1, .inl (cS, 65536, .inl (iA u.2.2.2.2.2.2.2))), (u.2.2.1, .inl (cA, 4096, .inl (iA (fun _ => 0)))), (u.2.2.2.1, .inl (cA, 4096, .inl (iA (fun _ => 0)))), (u.2.2.2.2.1, .inl (cA, 4096, .inl (iA (fun _ => 0)))), (u.2.2.2.2.2.1, .inl (cA, 4096, .inl (iA (fun _ => 0))))])) 6 147456 (va_A [(mo, .inr (4, [.int (iI 0), .int (iI 0), .null, .null, .int (iI 0), .null, .null, .null, .int (iI 0), .null, .int (iI 0)]))] sz) := by
  refine Met.ofW (cc := bM_init) (maxL := 4) (ret := none) (by decide +kernel) rfl ?_
  intro p e s m args below meth c s₁ B hml hv
  obtain ⟨rfl, hsz, hP, hKW, hD0⟩ := hv
  have hK := hKW.1
  have hN := hKW.2.2
  have hx := B.exec
  have hb := B.bytes
  have hr := B.returns
  have hts := atoms_spec (ws := wM_init) B.pre
  have hown : s.vm.findClass "WindingRasterModel" = some m.cls := findClass_of_methodNamed B.named
  have hlocks := B.notSynchronized
  subst hsz
  have hD := hD0.self (sz := s.heap.size)
  obtain ⟨A, hAe⟩ : ∃ A, va_A [(mo, .inr (4, [.int (iI 0), .int (iI 0), .null, .null, .int (iI 0), .null, .null, .null, .int (iI 0), .null, .int (iI 0)]))] s.heap.size = A := ⟨_, rfl⟩
  rw [hAe] at hD
  have hA : ∀ q : Nat, s.heap.size ≤ q → A q := fun q h => by rw [← hAe]; exact Or.inr h
  have hS : va_S A s.heap s.heap [] := va_S.rf
  have hP : va_P D vwCl [(mo, .inr (4, [.int (iI 0), .int (iI 0), .null, .null, .int (iI 0), .null, .null, .null, .int (iI 0), .null, .int (iI 0)]))] s.heap := hP
  have ml_1 := (hts _ (List.mem_cons_of_mem _ vm_256))
  have oi_i := (hts _ (List.mem_cons_of_mem _ vm_16))
  have oi_c := (hts _ (List.mem_cons_of_mem _ vx_obj))
  have kc_7 := (hts _ (List.mem_cons_of_mem _ vm_257))
  have harb := (hts _ (List.mem_cons_of_mem _ vm_283))
  have in_4 : ∀ w ∈ wsM, w ∈ wM_init := fun w h => List.mem_cons_of_mem _ (in0_M w h)
  have fl_8 := (hts _ (List.mem_cons_of_mem _ vm_263))
  have hin : meth.name = "<init>" := (name_of_methodNamed B.named B.method).1
  have hars := (hts _ (List.mem_cons_of_mem _ vm_284))
  have fl_14 := (hts _ (List.mem_cons_of_mem _ vm_264))
  have hari := (hts _ (List.mem_cons_of_mem _ vm_42))
  have fl_18 := (hts _ (List.mem_cons_of_mem _ vm_266))
  have fl_22 := (hts _ (List.mem_cons_of_mem _ vm_267))
  have fl_25 := (hts _ (List.mem_cons_of_mem _ vm_268))
  have fl_28 := (hts _ (List.mem_cons_of_mem _ vm_270))
  have fl_35 := (hts _ (List.mem_cons_of_mem _ vm_261))
  have fl_39 := (hts _ (List.mem_cons_of_mem _ vm_262))
  have hl := lv_entry ([.ref mo, .int (iI a1), .int (iI a2)]) (n := 4) (Nat.le_of_ble_eq_true rfl)
  rw [lg_entry_eq]
  generalize (lg_sl ([.ref mo, .int (iI a1), .int (iI a2)]) ++ List.replicate (4 - (lg_sl ([.ref mo, .int (iI a1), .int (iI a2)])).length) Slot.unset).toArray = ls at hl ⊢
  have hl : lv_has ls 4 [(0, .ref mo), (1, .int (iI a1)), (2, .int (iI a2))] := hl
  generalize hQ : MQ below (qV (S := Nat × Nat × Nat × Nat × Nat × Nat × (Nat → Int) × (Nat → Int)) (fun u : Nat × Nat × Nat × Nat × Nat × Nat × (Nat → Int) × (Nat → Int) => (∀ q, q < 65536 → u.2.2.2.2.2.2.1 q = -1) ∧ ∀ q, q < 65536 → u.2.2.2.2.2.2.2 q = 1) D vwCl [(mo, .inr (4, [.int (iI 0), .int (iI 0), .null, .null, .int (iI 0), .null, .null, .null, .int (iI 0), .null, .int (iI 0)]))] s.heap.size (fun u : Nat × Nat × Nat × Nat × Nat × Nat × (Nat → Int) × (Nat → Int) => [(mo, .inr (4, [.int (iI (cs : Int)), .int (iI (rs : Int)), .ref u.1, .ref u.2.1, .int (iI 0), .ref u.2.2.1, .ref u.2.2.2.1, .ref u.2.2.2.2.1, .int (iI 0), .ref u.2.2.2.2.2.1, .int (iI 0)])), (u.1, .inl (cB, 65536, .inl (iA u.2.2.2.2.2.2.1))), (u.2.1, .inl (cS, 65536, .inl (iA u.2.2.2.2.2.2.2))), (u.2.2.1, .inl (cA, 4096, .inl (iA (fun _ => 0)))), (u.2.2.2.1, .inl (cA, 4096, .inl (iA (fun _ => 0)))), (u.2.2.2.2.1, .inl (cA, 4096, .inl (iA (fun _ => 0)))), (u.2.2.2.2.2.1, .inl (cA, 4096, .inl (iA (fun _ => 0))))])) [.ref mo, .int (iI a1), .int (iI a2)].toArray s 6 147456 (va_A [(mo, .inr (4, [.int (iI 0), .int (iI 0), .null, .null, .int (iI 0), .null, .null, .null, .int (iI 0), .null, .int (iI 0)]))] s.heap.size) = QQ
  refine lv_aload_n hx hb dM_init_0 rfl (lv_at hl 0 rfl) ?_
  refine W.objInit hx hb hown ml_1 oi_i oi_c rfl (by rw [hml]; exact hl.1) rfl dM_init_1 (Nat.le_of_ble_eq_true rfl) (Nat.le_of_ble_eq_true rfl) ?_
  refine W.eq (g2 := F0 m 4 ls []) rfl ?_
  refine lv_aload_n hx hb dM_init_4 rfl (lv_at hl 0 rfl) ?_
  refine ii_ldc (n := 65536) hx hb hown kc_7 dM_init_5 (by decide +kernel) ?_
  refine ii_newb hx hb harb hK hP hD hS hA 1 rfl 65536 rfl (by omega) (by decide) (by decide) dM_init_7 (fun mg H hP hD hS => ?_)
  refine W.widen (k := 1) (n := 65536) (by omega) (by omega) ?_
  have hP : va_P D vwCl [(mo, .inr (4, [.int (iI 0), .int (iI 0), .null, .null, .int (iI 0), .null, .null, .null, .int (iI 0), .null, .int (iI 0)])), (mg, .inl (cB, 65536, .inl (iA (fun _ => 0))))] H := hP
  have hD : va_D A [(mo, .inr (4, [.int (iI 0), .int (iI 0), .null, .null, .int (iI 0), .null, .null, .null, .int (iI 0), .null, .int (iI 0)])), (mg, .inl (cB, 65536, .inl (iA (fun _ => 0))))] := hD
  refine va_putF (ci := 4) (v := .ref mg) (ty := (.array .byte)) (C := "WindingRasterModel") (T := TM) (N := 11) hx hb hts in_4 tM tM_ok nM hown hK hP hD hS 0 rfl rfl 2 (by decide) fl_8 (fun _ h9 => h9) rfl hin rfl (by decide +kernel) rfl rfl (Nat.le_of_ble_eq_true rfl) dM_init_9 (fun H locs hP hD hS => ?_)
  have hP : va_P D vwCl [(mo, .inr (4, [.int (iI 0), .int (iI 0), .ref mg, .null, .int (iI 0), .null, .null, .null, .int (iI 0), .null, .int (iI 0)])), (mg, .inl (cB, 65536, .inl (iA (fun _ => 0))))] H := hP
  have hD : va_D A [(mo, .inr (4, [.int (iI 0), .int (iI 0), .ref mg, .null, .int (iI 0), .null, .null, .null, .int (iI 0), .null, .int (iI 0)])), (mg, .inl (cB, 65536, .inl (iA (fun _ => 0))))] := hD
  refine lv_aload_n hx hb dM_init_12 rfl (lv_at hl 0 rfl) ?_
  refine ii_ldc (n := 65536) hx hb hown kc_7 dM_init_13 (by decide +kernel) ?_
  refine ii_news hx hb hars hK hP hD hS hA 2 rfl 65536 rfl (by omega) (by decide) (by decide) dM_init_15 (fun mm H hP hD hS => ?_)
  refine W.widen (k := 2) (n := 131072) (by omega) (by omega) ?_
  have hP : va_P D vwCl [(mo, .inr (4, [.int (iI 0), .int (iI 0), .ref mg, .null, .int (iI 0), .null, .null, .null, .int (iI 0), .null, .int (iI 0)])), (mg, .inl (cB, 65536, .inl (iA (fun _ => 0)))), (mm, .inl (cS, 65536, .inl (iA (fun _ => 0))))] H := hP
  have hD : va_D A [(mo, .inr (4, [.int (iI 0), .int (iI 0), .ref mg, .null, .int (iI 0), .null, .null, .null, .int (iI 0), .null, .int (iI 0)])), (mg, .inl (cB, 65536, .inl (iA (fun _ => 0)))), (mm, .inl (cS, 65536, .inl (iA (fun _ => 0))))] := hD
  refine va_putF (ci := 4) (v := .ref mm) (ty := (.array .short)) (C := "WindingRasterModel") (T := TM) (N := 11) hx hb hts in_4 tM tM_ok nM hown hK hP hD hS 0 rfl rfl 3 (by decide) fl_14 (fun _ h9 => h9) rfl hin rfl (by decide +kernel) rfl rfl (Nat.le_of_ble_eq_true rfl) dM_init_17 (fun H locs hP hD hS => ?_)
  have hP : va_P D vwCl [(mo, .inr (4, [.int (iI 0), .int (iI 0), .ref mg, .ref mm, .int (iI 0), .null, .null, .null, .int (iI 0), .null, .int (iI 0)])), (mg, .inl (cB, 65536, .inl (iA (fun _ => 0)))), (mm, .inl (cS, 65536, .inl (iA (fun _ => 0))))] H := hP
  have hD : va_D A [(mo, .inr (4, [.int (iI 0), .int (iI 0), .ref mg, .ref mm, .int (iI 0), .null, .null, .null, .int (iI 0), .null, .int (iI 0)])), (mg, .inl (cB, 65536, .inl (iA (fun _ => 0)))), (mm, .inl (cS, 65536, .inl (iA (fun _ => 0))))] := hD
  refine lv_aload_n hx hb dM_init_20 rfl (lv_at hl 0 rfl) ?_
  refine ii_sipush (n := 4096) hx hb dM_init_21 (by decide +kernel) ?_
  refine ii_newa hx hb hari hK hP hD hS hA 0 rfl 4096 rfl (by omega) (by decide) (by decide) dM_init_24 (fun mx H hP hD hS => ?_)
  refine W.widen (k := 3) (n := 135168) (by omega) (by omega) ?_
  have hP : va_P D vwCl [(mo, .inr (4, [.int (iI 0), .int (iI 0), .ref mg, .ref mm, .int (iI 0), .null, .null, .null, .int (iI 0), .null, .int (iI 0)])), (mg, .inl (cB, 65536, .inl (iA (fun _ => 0)))), (mm, .inl (cS, 65536, .inl (iA (fun _ => 0)))), (mx, .inl (cA, 4096, .inl (iA (fun _ => 0))))] H := hP
  have hD : va_D A [(mo, .inr (4, [.int (iI 0), .int (iI 0), .ref mg, .ref mm, .int (iI 0), .null, .null, .null, .int (iI 0), .null, .int (iI 0)])), (mg, .inl (cB, 65536, .inl (iA (fun _ => 0)))), (mm, .inl (cS, 65536, .inl (iA (fun _ => 0)))), (mx, .inl (cA, 4096, .inl (iA (fun _ => 0))))] := hD
  refine va_putF (ci := 4) (v := .ref mx) (ty := (.array .int)) (C := "WindingRasterModel") (T := TM) (N := 11) hx hb hts in_4 tM tM_ok nM hown hK hP hD hS 0 rfl rfl 5 (by decide) fl_18 (fun _ h9 => h9) rfl hin rfl (by decide +kernel) rfl rfl (Nat.le_of_ble_eq_true rfl) dM_init_26 (fun H locs hP hD hS => ?_)
  have hP : va_P D vwCl [(mo, .inr (4, [.int (iI 0), .int (iI 0), .ref mg, .ref mm, .int (iI 0), .ref mx, .null, .null, .int (iI 0), .null, .int (iI 0)])), (mg, .inl (cB, 65536, .inl (iA (fun _ => 0)))), (mm, .inl (cS, 65536, .inl (iA (fun _ => 0)))), (mx, .inl (cA, 4096, .inl (iA (fun _ => 0))))] H := hP
  have hD : va_D A [(mo, .inr (4, [.int (iI 0), .int (iI 0), .ref mg, .ref mm, .int (iI 0), .ref mx, .null, .null, .int (iI 0), .null, .int (iI 0)])), (mg, .inl (cB, 65536, .inl (iA (fun _ => 0)))), (mm, .inl (cS, 65536, .inl (iA (fun _ => 0)))), (mx, .inl (cA, 4096, .inl (iA (fun _ => 0))))] := hD
  refine lv_aload_n hx hb dM_init_29 rfl (lv_at hl 0 rfl) ?_
  refine ii_sipush (n := 4096) hx hb dM_init_30 (by decide +kernel) ?_
  refine ii_newa hx hb hari hK hP hD hS hA 0 rfl 4096 rfl (by omega) (by decide) (by decide) dM_init_33 (fun my H hP hD hS => ?_)
  refine W.widen (k := 4) (n := 139264) (by omega) (by omega) ?_
  have hP : va_P D vwCl [(mo, .inr (4, [.int (iI 0), .int (iI 0), .ref mg, .ref mm, .int (iI 0), .ref mx, .null, .null, .int (iI 0), .null, .int (iI 0)])), (mg, .inl (cB, 65536, .inl (iA (fun _ => 0)))), (mm, .inl (cS, 65536, .inl (iA (fun _ => 0)))), (mx, .inl (cA, 4096, .inl (iA (fun _ => 0)))), (my, .inl (cA, 4096, .inl (iA (fun _ => 0))))] H := hP
  have hD : va_D A [(mo, .inr (4, [.int (iI 0), .int (iI 0), .ref mg, .ref mm, .int (iI 0), .ref mx, .null, .null, .int (iI 0), .null, .int (iI 0)])), (mg, .inl (cB, 65536, .inl (iA (fun _ => 0)))), (mm, .inl (cS, 65536, .inl (iA (fun _ => 0)))), (mx, .inl (cA, 4096, .inl (iA (fun _ => 0)))), (my, .inl (cA, 4096, .inl (iA (fun _ => 0))))] := hD
  refine va_putF (ci := 4) (v := .ref my) (ty := (.array .int)) (C := "WindingRasterModel") (T := TM) (N := 11) hx hb hts in_4 tM tM_ok nM hown hK hP hD hS 0 rfl rfl 6 (by decide) fl_22 (fun _ h9 => h9) rfl hin rfl (by decide +kernel) rfl rfl (Nat.le_of_ble_eq_true rfl) dM_init_35 (fun H locs hP hD hS => ?_)
  have hP : va_P D vwCl [(mo, .inr (4, [.int (iI 0), .int (iI 0), .ref mg, .ref mm, .int (iI 0), .ref mx, .ref my, .null, .int (iI 0), .null, .int (iI 0)])), (mg, .inl (cB, 65536, .inl (iA (fun _ => 0)))), (mm, .inl (cS, 65536, .inl (iA (fun _ => 0)))), (mx, .inl (cA, 4096, .inl (iA (fun _ => 0)))), (my, .inl (cA, 4096, .inl (iA (fun _ => 0))))] H := hP
  have hD : va_D A [(mo, .inr (4, [.int (iI 0), .int (iI 0), .ref mg, .ref mm, .int (iI 0), .ref mx, .ref my, .null, .int (iI 0), .null, .int (iI 0)])), (mg, .inl (cB, 65536, .inl (iA (fun _ => 0)))), (mm, .inl (cS, 65536, .inl (iA (fun _ => 0)))), (mx, .inl (cA, 4096, .inl (iA (fun _ => 0)))), (my, .inl (cA, 4096, .inl (iA (fun _ => 0))))] := hD
  refine lv_aload_n hx hb dM_init_38 rfl (lv_at hl 0 rfl) ?_
  refine ii_sipush (n := 4096) hx hb dM_init_39 (by decide +kernel) ?_
  refine ii_newa hx hb hari hK hP hD hS hA 0 rfl 4096 rfl (by omega) (by decide) (by decide) dM_init_42 (fun mf H hP hD hS => ?_)
  refine W.widen (k := 5) (n := 143360) (by omega) (by omega) ?_
  have hP : va_P D vwCl [(mo, .inr (4, [.int (iI 0), .int (iI 0), .ref mg, .ref mm, .int (iI 0), .ref mx, .ref my, .null, .int (iI 0), .null, .int (iI 0)])), (mg, .inl (cB, 65536, .inl (iA (fun _ => 0)))), (mm, .inl (cS, 65536, .inl (iA (fun _ => 0)))), (mx, .inl (cA, 4096, .inl (iA (fun _ => 0)))), (my, .inl (cA, 4096, .inl (iA (fun _ => 0)))), (mf, .inl (cA, 4096, .inl (iA (fun _ => 0))))] H := hP
  have hD : va_D A [(mo, .inr (4, [.int (iI 0), .int (iI 0), .ref mg, .ref mm, .int (iI 0), .ref mx, .ref my, .null, .int (iI 0), .null, .int (iI 0)])), (mg, .inl (cB, 65536, .inl (iA (fun _ => 0)))), (mm, .inl (cS, 65536, .inl (iA (fun _ => 0)))), (mx, .inl (cA, 4096, .inl (iA (fun _ => 0)))), (my, .inl (cA, 4096, .inl (iA (fun _ => 0)))), (mf, .inl (cA, 4096, .inl (iA (fun _ => 0))))] := hD
  refine va_putF (ci := 4) (v := .ref mf) (ty := (.array .int)) (C := "WindingRasterModel") (T := TM) (N := 11) hx hb hts in_4 tM tM_ok nM hown hK hP hD hS 0 rfl rfl 7 (by decide) fl_25 (fun _ h9 => h9) rfl hin rfl (by decide +kernel) rfl rfl (Nat.le_of_ble_eq_true rfl) dM_init_44 (fun H locs hP hD hS => ?_)
  have hP : va_P D vwCl [(mo, .inr (4, [.int (iI 0), .int (iI 0), .ref mg, .ref mm, .int (iI 0), .ref mx, .ref my, .ref mf, .int (iI 0), .null, .int (iI 0)])), (mg, .inl (cB, 65536, .inl (iA (fun _ => 0)))), (mm, .inl (cS, 65536, .inl (iA (fun _ => 0)))), (mx, .inl (cA, 4096, .inl (iA (fun _ => 0)))), (my, .inl (cA, 4096, .inl (iA (fun _ => 0)))), (mf, .inl (cA, 4096, .inl (iA (fun _ => 0))))] H := hP
  have hD : va_D A [(mo, .inr (4, [.int (iI 0), .int (iI 0), .ref mg, .ref mm, .int (iI 0), .ref mx, .ref my, .ref mf, .int (iI 0), .null, .int (iI 0)])), (mg, .inl (cB, 65536, .inl (iA (fun _ => 0)))), (mm, .inl (cS, 65536, .inl (iA (fun _ => 0)))), (mx, .inl (cA, 4096, .inl (iA (fun _ => 0)))), (my, .inl (cA, 4096, .inl (iA (fun _ => 0)))), (mf, .inl (cA, 4096, .inl (iA (fun _ => 0))))] := hD
  refine lv_aload_n hx hb dM_init_47 rfl (lv_at hl 0 rfl) ?_
  refine ii_sipush (n := 4096) hx hb dM_init_48 (by decide +kernel) ?_
  refine ii_newa hx hb hari hK hP hD hS hA 0 rfl 4096 rfl (by omega) (by decide) (by decide) dM_init_51 (fun mt H hP hD hS => ?_)
  refine W.widen (k := 6) (n := 147456) (by omega) (by omega) ?_
  have hP : va_P D vwCl [(mo, .inr (4, [.int (iI 0), .int (iI 0), .ref mg, .ref mm, .int (iI 0), .ref mx, .ref my, .ref mf, .int (iI 0), .null, .int (iI 0)])), (mg, .inl (cB, 65536, .inl (iA (fun _ => 0)))), (mm, .inl (cS, 65536, .inl (iA (fun _ => 0)))), (mx, .inl (cA, 4096, .inl (iA (fun _ => 0)))), (my, .inl (cA, 4096, .inl (iA (fun _ => 0)))), (mf, .inl (cA, 4096, .inl (iA (fun _ => 0)))), (mt, .inl (cA, 4096, .inl (iA (fun _ => 0))))] H := hP
  have hD : va_D A [(mo, .inr (4, [.int (iI 0), .int (iI 0), .ref mg, .ref mm, .int (iI 0), .ref mx, .ref my, .ref mf, .int (iI 0), .null, .int (iI 0)])), (mg, .inl (cB, 65536, .inl (iA (fun _ => 0)))), (mm, .inl (cS, 65536, .inl (iA (fun _ => 0)))), (mx, .inl (cA, 4096, .inl (iA (fun _ => 0)))), (my, .inl (cA, 4096, .inl (iA (fun _ => 0)))), (mf, .inl (cA, 4096, .inl (iA (fun _ => 0)))), (mt, .inl (cA, 4096, .inl (iA (fun _ => 0))))] := hD
  refine va_putF (ci := 4) (v := .ref mt) (ty := (.array .int)) (C := "WindingRasterModel") (T := TM) (N := 11) hx hb hts in_4 tM tM_ok nM hown hK hP hD hS 0 rfl rfl 9 (by decide) fl_28 (fun _ h9 => h9) rfl hin rfl (by decide +kernel) rfl rfl (Nat.le_of_ble_eq_true rfl) dM_init_53 (fun H locs hP hD hS => ?_)
  have hP : va_P D vwCl [(mo, .inr (4, [.int (iI 0), .int (iI 0), .ref mg, .ref mm, .int (iI 0), .ref mx, .ref my, .ref mf, .int (iI 0), .ref mt, .int (iI 0)])), (mg, .inl (cB, 65536, .inl (iA (fun _ => 0)))), (mm, .inl (cS, 65536, .inl (iA (fun _ => 0)))), (mx, .inl (cA, 4096, .inl (iA (fun _ => 0)))), (my, .inl (cA, 4096, .inl (iA (fun _ => 0)))), (mf, .inl (cA, 4096, .inl (iA (fun _ => 0)))), (mt, .inl (cA, 4096, .inl (iA (fun _ => 0))))] H := hP
  have hD : va_D A [(mo, .inr (4, [.int (iI 0), .int (iI 0), .ref mg, .ref mm, .int (iI 0), .ref mx, .ref my, .ref mf, .int (iI 0), .ref mt, .int (iI 0)])), (mg, .inl (cB, 65536, .inl (iA (fun _ => 0)))), (mm, .inl (cS, 65536, .inl (iA (fun _ => 0)))), (mx, .inl (cA, 4096, .inl (iA (fun _ => 0)))), (my, .inl (cA, 4096, .inl (iA (fun _ => 0)))), (mf, .inl (cA, 4096, .inl (iA (fun _ => 0)))), (mt, .inl (cA, 4096, .inl (iA (fun _ => 0))))] := hD
  refine lv_aload_n hx hb dM_init_56 rfl (lv_at hl 0 rfl) ?_
  refine lv_iload_n hx hb dM_init_57 rfl (lv_at hl 1 rfl) ?_
  refine cs_i (va_runS (As := [.int (iI a1)]) (rest := [.ref mo]) ⟨hx, hb, hml, hown, hts⟩ (m_side l D cA cB cS a1 (by omega)) ⟨(callB_of 1 hts (gIn vm_260) rfl rfl rfl (hts _ (List.mem_cons_of_mem _ vm_8)) (hts _ (List.mem_cons_of_mem _ vm_258)) (by decide +kernel) ⟨Nat.le_of_ble_eq_true rfl, Nat.le_of_ble_eq_true rfl⟩), (hts _ (List.mem_cons_of_mem _ vm_259))⟩ (pR.pre (hP.sub [] rfl) hKW) rfl rfl hl.1 rfl (lv_room (Nat.le_of_ble_eq_true rfl)) dM_init_58 ⟨Nat.le_of_ble_eq_true rfl, Nat.le_of_ble_eq_true rfl⟩) (fun z_1 hz_1 => ?_)
  subst hz_1
  refine ii_top (y := (cs : Int)) h3.symm ?_
  refine va_putF (ci := 4) (v := .int (iI (cs : Int))) (ty := .int) (C := "WindingRasterModel") (T := TM) (N := 11) hx hb hts in_4 tM tM_ok nM hown hK hP hD hS 0 rfl rfl 0 (by decide) fl_35 (fun _ h9 => h9) rfl hin rfl (by decide +kernel) rfl rfl (Nat.le_of_ble_eq_true rfl) dM_init_61 (fun H locs hP hD hS => ?_)
  have hP : va_P D vwCl [(mo, .inr (4, [.int (iI (cs : Int)), .int (iI 0), .ref mg, .ref mm, .int (iI 0), .ref mx, .ref my, .ref mf, .int (iI 0), .ref mt, .int (iI 0)])), (mg, .inl (cB, 65536, .inl (iA (fun _ => 0)))), (mm, .inl (cS, 65536, .inl (iA (fun _ => 0)))), (mx, .inl (cA, 4096, .inl (iA (fun _ => 0)))), (my, .inl (cA, 4096, .inl (iA (fun _ => 0)))), (mf, .inl (cA, 4096, .inl (iA (fun _ => 0)))), (mt, .inl (cA, 4096, .inl (iA (fun _ => 0))))] H := hP
  have hD : va_D A [(mo, .inr (4, [.int (iI (cs : Int)), .int (iI 0), .ref mg, .ref mm, .int (iI 0), .ref mx, .ref my, .ref mf, .int (iI 0), .ref mt, .int (iI 0)])), (mg, .inl (cB, 65536, .inl (iA (fun _ => 0)))), (mm, .inl (cS, 65536, .inl (iA (fun _ => 0)))), (mx, .inl (cA, 4096, .inl (iA (fun _ => 0)))), (my, .inl (cA, 4096, .inl (iA (fun _ => 0)))), (mf, .inl (cA, 4096, .inl (iA (fun _ => 0)))), (mt, .inl (cA, 4096, .inl (iA (fun _ => 0))))] := hD
  refine lv_aload_n hx hb dM_init_64 rfl (lv_at hl 0 rfl) ?_
  refine lv_iload_n hx hb dM_init_65 rfl (lv_at hl 2 rfl) ?_
  refine cs_i (va_runS (As := [.int (iI a2)]) (rest := [.ref mo]) ⟨hx, hb, hml, hown, hts⟩ (m_side l D cA cB cS a2 (by omega)) ⟨(callB_of 1 hts (gIn vm_260) rfl rfl rfl (hts _ (List.mem_cons_of_mem _ vm_8)) (hts _ (List.mem_cons_of_mem _ vm_258)) (by decide +kernel) ⟨Nat.le_of_ble_eq_true rfl, Nat.le_of_ble_eq_true rfl⟩), (hts _ (List.mem_cons_of_mem _ vm_259))⟩ (pR.pre (hP.sub [] rfl) hKW) rfl rfl hl.1 rfl (lv_room (Nat.le_of_ble_eq_true rfl)) dM_init_66 ⟨Nat.le_of_ble_eq_true rfl, Nat.le_of_ble_eq_true rfl⟩) (fun z_2 hz_2 => ?_)
  subst hz_2
  refine ii_top (y := (rs : Int)) h4.symm ?_
  refine va_putF (ci := 4) (v := .int (iI (rs : Int))) (ty := .int) (C := "WindingRasterModel") (T := TM) (N := 11) hx hb hts in_4 tM tM_ok nM hown hK hP hD hS 0 rfl rfl 1 (by decide) fl_39 (fun _ h9 => h9) rfl hin rfl (by decide +kernel) rfl rfl (Nat.le_of_ble_eq_true rfl) dM_init_69 (fun H locs hP hD hS => ?_)
  have hP : va_P D vwCl [(mo, .inr (4, [.int (iI (cs : Int)), .int (iI (rs : Int)), .ref mg, .ref mm, .int (iI 0), .ref mx, .ref my, .ref mf, .int (iI 0), .ref mt, .int (iI 0)])), (mg, .inl (cB, 65536, .inl (iA (fun _ => 0)))), (mm, .inl (cS, 65536, .inl (iA (fun _ => 0)))), (mx, .inl (cA, 4096, .inl (iA (fun _ => 0)))), (my, .inl (cA, 4096, .inl (iA (fun _ => 0)))), (mf, .inl (cA, 4096, .inl (iA (fun _ => 0)))), (mt, .inl (cA, 4096, .inl (iA (fun _ => 0))))] H := hP
  have hD : va_D A [(mo, .inr (4, [.int (iI (cs : Int)), .int (iI (rs : Int)), .ref mg, .ref mm, .int (iI 0), .ref mx, .ref my, .ref mf, .int (iI 0), .ref mt, .int (iI 0)])), (mg, .inl (cB, 65536, .inl (iA (fun _ => 0)))), (mm, .inl (cS, 65536, .inl (iA (fun _ => 0)))), (mx, .inl (cA, 4096, .inl (iA (fun _ => 0)))), (my, .inl (cA, 4096, .inl (iA (fun _ => 0)))), (mf, .inl (cA, 4096, .inl (iA (fun _ => 0)))), (mt, .inl (cA, 4096, .inl (iA (fun _ => 0))))] := hD
  refine ii_iconst (n := 0) hx hb dM_init_72 ?_
  refine lv_istore_n (lv' := [(3, .int (iI 0)), (0, .ref mo), (1, .int (iI a1)), (2, .int (iI a2))]) hx hb dM_init_73 rfl hl (by decide) rfl (fun ls hl => ?_)
  have lp74 : ∀ (n_ : Nat) (k : Nat) (fK : Nat → Int) (fL : Nat → Int), (k ≤ 65536) → (∀ q, q < k → fK q = -1) → (∀ q, q < k → fL q = 1) → (65536 - k) < n_ → ∀ (H : Heap) (locs : List Loc), va_P D vwCl [(mo, .inr (4, [.int (iI (cs : Int)), .int (iI (rs : Int)), .ref mg, .ref mm, .int (iI 0), .ref mx, .ref my, .ref mf, .int (iI 0), .ref mt, .int (iI 0)])), (mg, .inl (cB, 65536, .inl (iA fK))), (mm, .inl (cS, 65536, .inl (iA fL))), (mx, .inl (cA, 4096, .inl (iA (fun _ => 0)))), (my, .inl (cA, 4096, .inl (iA (fun _ => 0)))), (mf, .inl (cA, 4096, .inl (iA (fun _ => 0)))), (mt, .inl (cA, 4096, .inl (iA (fun _ => 0))))] H → va_D A [(mo, .inr (4, [.int (iI (cs : Int)), .int (iI (rs : Int)), .ref mg, .ref mm, .int (iI 0), .ref mx, .ref my, .ref mf, .int (iI 0), .ref mt, .int (iI 0)])), (mg, .inl (cB, 65536, .inl (iA fK))), (mm, .inl (cS, 65536, .inl (iA fL))), (mx, .inl (cA, 4096, .inl (iA (fun _ => 0)))), (my, .inl (cA, 4096, .inl (iA (fun _ => 0)))), (mf, .inl (cA, 4096, .inl (iA (fun _ => 0)))), (mt, .inl (cA, 4096, .inl (iA (fun _ => 0))))] → va_S A s.heap H locs → ∀ ls : Array Slot, lv_has ls 4 [(3, .int (iI (k : Int))), (0, .ref mo), (1, .int (iI a1)), (2, .int (iI a2))] → W p l e (headSpec wM_init rm_m_init).room s m [.ref mo, .int (iI a1), .int (iI a2)].toArray below meth c H locs 6 147456 QQ (F0 m 74 ls []) := by
    intro n_
    induction n_ with
    | zero =>
      intro k fK fL k1 k2 k3 hm_
      exact absurd hm_ (Nat.not_lt_zero _)
    | succ n_ ih_lp74 =>
      intro k fK fL k1 k2 k3 hm_lp74 H locs hP hD hS ls hl
      refine lv_iload_n hx hb dM_init_74 rfl (lv_at hl 0 rfl) ?_
      refine ii_ldc (n := 65536) hx hb hown kc_7 dM_init_75 (by decide +kernel) ?_
      refine ii_icmp_ge (tgt := 100) hx hb dM_init_77 (by decide) (by omega) (by omega) (fun c77 => ?_) (fun c77 => ?_)
      · rw [← hQ]
        exact wr_vret (mg, mm, mx, my, mf, mt, fK, fL) hx hb hr hlocks hAe (hP.sub [0, 1, 2, 3, 4, 5, 6] rfl) (hD.sub [0, 1, 2, 3, 4, 5, 6] (by decide) rfl) hS ⟨fun q w => k2 q (by omega), fun q w => k3 q (by omega)⟩ dM_init_100
      · refine lv_aload_n hx hb dM_init_80 rfl (lv_at hl 1 rfl) ?_
        refine va_get (ci := 4) (v := .ref mg) (C := "WindingRasterModel") (T := TM) (N := 11) hx hb hts in_4 hown hK hP 0 rfl rfl 2 (by decide) fl_8 (fun _ h9 => h9) rfl dM_init_81 ?_
        refine lv_iload_n hx hb dM_init_84 rfl (lv_at hl 0 rfl) ?_
        refine ii_iconst (n := (-1)) hx hb dM_init_85 ?_
        refine ii_bast hx hb hK hP hD hS 1 1 rfl rfl k rfl (by omega) (by omega) (by omega) dM_init_86 (fun H locs hP hD hS => ?_)
        have hP : va_P D vwCl [(mo, .inr (4, [.int (iI (cs : Int)), .int (iI (rs : Int)), .ref mg, .ref mm, .int (iI 0), .ref mx, .ref my, .ref mf, .int (iI 0), .ref mt, .int (iI 0)])), (mg, .inl (cB, 65536, .inl (iA (uZ fK k (-1))))), (mm, .inl (cS, 65536, .inl (iA fL))), (mx, .inl (cA, 4096, .inl (iA (fun _ => 0)))), (my, .inl (cA, 4096, .inl (iA (fun _ => 0)))), (mf, .inl (cA, 4096, .inl (iA (fun _ => 0)))), (mt, .inl (cA, 4096, .inl (iA (fun _ => 0))))] H := hP
        have hD : va_D A [(mo, .inr (4, [.int (iI (cs : Int)), .int (iI (rs : Int)), .ref mg, .ref mm, .int (iI 0), .ref mx, .ref my, .ref mf, .int (iI 0), .ref mt, .int (iI 0)])), (mg, .inl (cB, 65536, .inl (iA (uZ fK k (-1))))), (mm, .inl (cS, 65536, .inl (iA fL))), (mx, .inl (cA, 4096, .inl (iA (fun _ => 0)))), (my, .inl (cA, 4096, .inl (iA (fun _ => 0)))), (mf, .inl (cA, 4096, .inl (iA (fun _ => 0)))), (mt, .inl (cA, 4096, .inl (iA (fun _ => 0))))] := hD
        refine lv_aload_n hx hb dM_init_87 rfl (lv_at hl 1 rfl) ?_
        refine va_get (ci := 4) (v := .ref mm) (C := "WindingRasterModel") (T := TM) (N := 11) hx hb hts in_4 hown hK hP 0 rfl rfl 3 (by decide) fl_14 (fun _ h9 => h9) rfl dM_init_88 ?_
        refine lv_iload_n hx hb dM_init_91 rfl (lv_at hl 0 rfl) ?_
        refine ii_iconst (n := 1) hx hb dM_init_92 ?_
        refine ii_sast hx hb hK hP hD hS 2 2 rfl rfl k rfl (by omega) (by omega) (by omega) dM_init_93 (fun H locs hP hD hS => ?_)
        have hP : va_P D vwCl [(mo, .inr (4, [.int (iI (cs : Int)), .int (iI (rs : Int)), .ref mg, .ref mm, .int (iI 0), .ref mx, .ref my, .ref mf, .int (iI 0), .ref mt, .int (iI 0)])), (mg, .inl (cB, 65536, .inl (iA (uZ fK k (-1))))), (mm, .inl (cS, 65536, .inl (iA (uZ fL k 1)))), (mx, .inl (cA, 4096, .inl (iA (fun _ => 0)))), (my, .inl (cA, 4096, .inl (iA (fun _ => 0)))), (mf, .inl (cA, 4096, .inl (iA (fun _ => 0)))), (mt, .inl (cA, 4096, .inl (iA (fun _ => 0))))] H := hP
        have hD : va_D A [(mo, .inr (4, [.int (iI (cs : Int)), .int (iI (rs : Int)), .ref mg, .ref mm, .int (iI 0), .ref mx, .ref my, .ref mf, .int (iI 0), .ref mt, .int (iI 0)])), (mg, .inl (cB, 65536, .inl (iA (uZ fK k (-1))))), (mm, .inl (cS, 65536, .inl (iA (uZ fL k 1)))), (mx, .inl (cA, 4096, .inl (iA (fun _ => 0)))), (my, .inl (cA, 4096, .inl (iA (fun _ => 0)))), (mf, .inl (cA, 4096, .inl (iA (fun _ => 0)))), (mt, .inl (cA, 4096, .inl (iA (fun _ => 0))))] := hD
        refine lv_iinc (v := iI ((k + 1 : Nat) : Int)) (lv' := [(3, .int (iI ((k + 1 : Nat) : Int))), (0, .ref mo), (1, .int (iI a1)), (2, .int (iI a2))]) hx hb dM_init_94 hl (k := 0) rfl (iI_inc _ 1 (by omega)) (by decide) rfl (fun ls hl => ?_)
        refine lv_goto (tgt := 74) hx hb dM_init_97 (by decide) ?_
        exact ih_lp74 (k + 1) (uZ fK k (-1)) (uZ fL k 1) (by omega) (fun q w => by unfold uZ; split; (next v => rfl); (next v => exact k2 q (by omega))) (fun q w => by unfold uZ; split; (next v => rfl); (next v => exact k3 q (by omega))) (by omega) _ _ (hP.sub [0, 1, 2, 3, 4, 5, 6] rfl) (hD.sub [0, 1, 2, 3, 4, 5, 6] (by decide) rfl) hS _ (lv_sub hl [0, 1, 2, 3] rfl)
  exact lp74 (65536 - 0 + 1) 0 (fun _ => 0) (fun _ => 0) (by omega) (fun q w => absurd w (Nat.not_lt_zero _)) (fun q w => absurd w (Nat.not_lt_zero _)) (Nat.lt_succ_self _) _ _ (hP.sub [0, 1, 2, 3, 4, 5, 6] rfl) (hD.sub [0, 1, 2, 3, 4, 5, 6] (by decide) rfl) hS _ (lv_sub hl [0, 1, 2, 3] rfl)
