def rm_c_Outline_init : Room := { frames := 1, cells := 3, slots := 12288, locals := 20 }
set_option maxHeartbeats 4000000 in
set_option maxRecDepth 100000 in
theorem c_Outline_init (l : Launch) (D : va_G) (cA cB cS : ClassId) (oo : Nat) (sz : Nat) : Met l yO_init wO_init rm_c_Outline_init (pW [.ref oo] D vwCl (vwTy cA cB cS) vwNw [(oo, .inr (1, [.null, .null, .null, .int (iI 0), .int (iI 0)]))] sz) (qV (S := Nat × Nat × Nat) (fun u : Nat × Nat × Nat => True) D vwCl [(oo, .inr (1, [.null, .null, .null, .int (iI 0), .int (iI 0)]))] sz (fun u : Nat × Nat × Nat => [(oo, .inr (1, [.ref u.1, .ref u.2.1, .ref u.2.2, .int (iI 0), .int (iI 0)])), (u.1, .inl (cA, 4096, .inl (iA (fun _ => 0)))), (u.2.1, .inl (cA, 4096, .inl (iA (fun _ => 0)))), (u.2.2, .inl (cA, 4096, .inl (iA (fun _ => 0))))])) 3 12288 (va_A [(oo, .inr (1, [.null, .null, .null, .int (iI 0), .int (iI 0)]))] sz) := by
  refine Met.ofW (cc := bO_init) (maxL := 1) (ret := none) (by decide +kernel) rfl ?_
  intro p e s m args below meth c s₁ B hml hv
  obtain ⟨rfl, hsz, hP, hKW, hD0⟩ := hv
  have hK := hKW.1
  have hN := hKW.2.2
  have hx := B.exec
  have hb := B.bytes
  have hr := B.returns
  have hts := atoms_spec (ws := wO_init) B.pre
  have hown : s.vm.findClass "WindingRaster$Outline" = some m.cls := findClass_of_methodNamed B.named
  have hlocks := B.notSynchronized
  subst hsz
  have hD := hD0.self (sz := s.heap.size)
  obtain ⟨A, hAe⟩ : ∃ A, va_A [(oo, .inr (1, [.null, .null, .null, .int (iI 0), .int (iI 0)]))] s.heap.size = A := ⟨_, rfl⟩
  rw [hAe] at hD
  have hA : ∀ q : Nat, s.heap.size ≤ q → A q := fun q h => by rw [← hAe]; exact Or.inr h
  have hS : va_S A s.heap s.heap [] := va_S.rf
  have hP : va_P D vwCl [(oo, .inr (1, [.null, .null, .null, .int (iI 0), .int (iI 0)]))] s.heap := hP
  have ml_3 := (hts _ (List.mem_cons_of_mem _ vm_31))
  have oi_i := (hts _ (List.mem_cons_of_mem _ vm_16))
  have oi_c := (hts _ (List.mem_cons_of_mem _ vx_obj))
  have hari := (hts _ (List.mem_cons_of_mem _ vm_42))
  have in_1 : ∀ w ∈ wsO, w ∈ wO_init := fun w h => List.mem_cons_of_mem _ (in0_O w h)
  have fl_9 := (hts _ (List.mem_cons_of_mem _ vm_32))
  have hin : meth.name = "<init>" := (name_of_methodNamed B.named B.method).1
  have fl_15 := (hts _ (List.mem_cons_of_mem _ vm_33))
  have fl_18 := (hts _ (List.mem_cons_of_mem _ vm_34))
  have hl := lv_entry ([.ref oo]) (n := 1) (Nat.le_of_ble_eq_true rfl)
  rw [lg_entry_eq]
  generalize (lg_sl ([.ref oo]) ++ List.replicate (1 - (lg_sl ([.ref oo])).length) Slot.unset).toArray = ls at hl ⊢
  have hl : lv_has ls 1 [(0, .ref oo)] := hl
  generalize hQ : MQ below (qV (S := Nat × Nat × Nat) (fun u : Nat × Nat × Nat => True) D vwCl [(oo, .inr (1, [.null, .null, .null, .int (iI 0), .int (iI 0)]))] s.heap.size (fun u : Nat × Nat × Nat => [(oo, .inr (1, [.ref u.1, .ref u.2.1, .ref u.2.2, .int (iI 0), .int (iI 0)])), (u.1, .inl (cA, 4096, .inl (iA (fun _ => 0)))), (u.2.1, .inl (cA, 4096, .inl (iA (fun _ => 0)))), (u.2.2, .inl (cA, 4096, .inl (iA (fun _ => 0))))])) [.ref oo].toArray s 3 12288 (va_A [(oo, .inr (1, [.null, .null, .null, .int (iI 0), .int (iI 0)]))] s.heap.size) = QQ
  refine lv_aload_n hx hb dO_init_0 rfl (lv_at hl 0 rfl) ?_
  refine W.objInit hx hb hown ml_3 oi_i oi_c rfl (by rw [hml]; exact hl.1) rfl dO_init_1 (Nat.le_of_ble_eq_true rfl) (Nat.le_of_ble_eq_true rfl) ?_
  refine W.eq (g2 := F0 m 4 ls []) rfl ?_
  refine lv_aload_n hx hb dO_init_4 rfl (lv_at hl 0 rfl) ?_
  refine ii_sipush (n := 4096) hx hb dO_init_5 (by decide +kernel) ?_
  refine ii_newa hx hb hari hK hP hD hS hA 0 rfl 4096 rfl (by omega) (by decide) (by decide) dO_init_8 (fun ax H hP hD hS => ?_)
  refine W.widen (k := 1) (n := 4096) (by omega) (by omega) ?_
  have hP : va_P D vwCl [(oo, .inr (1, [.null, .null, .null, .int (iI 0), .int (iI 0)])), (ax, .inl (cA, 4096, .inl (iA (fun _ => 0))))] H := hP
  have hD : va_D A [(oo, .inr (1, [.null, .null, .null, .int (iI 0), .int (iI 0)])), (ax, .inl (cA, 4096, .inl (iA (fun _ => 0))))] := hD
  refine va_putF (ci := 1) (v := .ref ax) (ty := (.array .int)) (C := "WindingRaster$Outline") (T := TO) (N := 5) hx hb hts in_1 tO tO_ok nO hown hK hP hD hS 0 rfl rfl 0 (by decide) fl_9 (fun _ h9 => h9) rfl hin rfl (by decide +kernel) rfl rfl (Nat.le_of_ble_eq_true rfl) dO_init_10 (fun H locs hP hD hS => ?_)
  have hP : va_P D vwCl [(oo, .inr (1, [.ref ax, .null, .null, .int (iI 0), .int (iI 0)])), (ax, .inl (cA, 4096, .inl (iA (fun _ => 0))))] H := hP
  have hD : va_D A [(oo, .inr (1, [.ref ax, .null, .null, .int (iI 0), .int (iI 0)])), (ax, .inl (cA, 4096, .inl (iA (fun _ => 0))))] := hD
  refine lv_aload_n hx hb dO_init_13 rfl (lv_at hl 0 rfl) ?_
  refine ii_sipush (n := 4096) hx hb dO_init_14 (by decide +kernel) ?_
  refine ii_newa hx hb hari hK hP hD hS hA 0 rfl 4096 rfl (by omega) (by decide) (by decide) dO_init_17 (fun ay H hP hD hS => ?_)
  refine W.widen (k := 2) (n := 8192) (by omega) (by omega) ?_
  have hP : va_P D vwCl [(oo, .inr (1, [.ref ax, .null, .null, .int (iI 0), .int (iI 0)])), (ax, .inl (cA, 4096, .inl (iA (fun _ => 0)))), (ay, .inl (cA, 4096, .inl (iA (fun _ => 0))))] H := hP
  have hD : va_D A [(oo, .inr (1, [.ref ax, .null, .null, .int (iI 0), .int (iI 0)])), (ax, .inl (cA, 4096, .inl (iA (fun _ => 0)))), (ay, .inl (cA, 4096, .inl (iA (fun _ => 0))))] := hD
  refine va_putF (ci := 1) (v := .ref ay) (ty := (.array .int)) (C := "WindingRaster$Outline") (T := TO) (N := 5) hx hb hts in_1 tO tO_ok nO hown hK hP hD hS 0 rfl rfl 1 (by decide) fl_15 (fun _ h9 => h9) rfl hin rfl (by decide +kernel) rfl rfl (Nat.le_of_ble_eq_true rfl) dO_init_19 (fun H locs hP hD hS => ?_)
  have hP : va_P D vwCl [(oo, .inr (1, [.ref ax, .ref ay, .null, .int (iI 0), .int (iI 0)])), (ax, .inl (cA, 4096, .inl (iA (fun _ => 0)))), (ay, .inl (cA, 4096, .inl (iA (fun _ => 0))))] H := hP
  have hD : va_D A [(oo, .inr (1, [.ref ax, .ref ay, .null, .int (iI 0), .int (iI 0)])), (ax, .inl (cA, 4096, .inl (iA (fun _ => 0)))), (ay, .inl (cA, 4096, .inl (iA (fun _ => 0))))] := hD
  refine lv_aload_n hx hb dO_init_22 rfl (lv_at hl 0 rfl) ?_
  refine ii_sipush (n := 4096) hx hb dO_init_23 (by decide +kernel) ?_
  refine ii_newa hx hb hari hK hP hD hS hA 0 rfl 4096 rfl (by omega) (by decide) (by decide) dO_init_26 (fun an H hP hD hS => ?_)
  refine W.widen (k := 3) (n := 12288) (by omega) (by omega) ?_
  have hP : va_P D vwCl [(oo, .inr (1, [.ref ax, .ref ay, .null, .int (iI 0), .int (iI 0)])), (ax, .inl (cA, 4096, .inl (iA (fun _ => 0)))), (ay, .inl (cA, 4096, .inl (iA (fun _ => 0)))), (an, .inl (cA, 4096, .inl (iA (fun _ => 0))))] H := hP
  have hD : va_D A [(oo, .inr (1, [.ref ax, .ref ay, .null, .int (iI 0), .int (iI 0)])), (ax, .inl (cA, 4096, .inl (iA (fun _ => 0)))), (ay, .inl (cA, 4096, .inl (iA (fun _ => 0)))), (an, .inl (cA, 4096, .inl (iA (fun _ => 0))))] := hD
  refine va_putF (ci := 1) (v := .ref an) (ty := (.array .int)) (C := "WindingRaster$Outline") (T := TO) (N := 5) hx hb hts in_1 tO tO_ok nO hown hK hP hD hS 0 rfl rfl 2 (by decide) fl_18 (fun _ h9 => h9) rfl hin rfl (by decide +kernel) rfl rfl (Nat.le_of_ble_eq_true rfl) dO_init_28 (fun H locs hP hD hS => ?_)
  have hP : va_P D vwCl [(oo, .inr (1, [.ref ax, .ref ay, .ref an, .int (iI 0), .int (iI 0)])), (ax, .inl (cA, 4096, .inl (iA (fun _ => 0)))), (ay, .inl (cA, 4096, .inl (iA (fun _ => 0)))), (an, .inl (cA, 4096, .inl (iA (fun _ => 0))))] H := hP
  have hD : va_D A [(oo, .inr (1, [.ref ax, .ref ay, .ref an, .int (iI 0), .int (iI 0)])), (ax, .inl (cA, 4096, .inl (iA (fun _ => 0)))), (ay, .inl (cA, 4096, .inl (iA (fun _ => 0)))), (an, .inl (cA, 4096, .inl (iA (fun _ => 0))))] := hD
  rw [← hQ]
  exact wr_vret (ax, ay, an) hx hb hr hlocks hAe (hP.sub [0, 1, 2, 3] rfl) (hD.sub [0, 1, 2, 3] (by decide) rfl) hS trivial dO_init_31

def rm_c_WR_init : Room := { frames := 2, cells := 11, slots := 134872, locals := 45 }
set_option maxHeartbeats 4000000 in
set_option maxRecDepth 100000 in
theorem c_WR_init (l : Launch) (D : va_G) (cA cB cS : ClassId) (wr : Nat) (a1 : Int) (a2 : Int) (cs : Nat) (rs : Nat) (h1 : i32 a1) (h2 : i32 a2) (h3 : (cs : Int) = max 1 (min 256 a1)) (h4 : (rs : Int) = max 1 (min 256 a2)) (sz : Nat) : Met l yW_init wW_init rm_c_WR_init (pW [.ref wr, .int (iI a1), .int (iI a2)] D vwCl (vwTy cA cB cS) vwNw [(wr, .inr (0, [.int (iI 0), .int (iI 0), .null, .null, .null, .null, .null]))] sz) (qV (S := Nat × Nat × Nat × Nat × Nat × Nat × Nat × Nat × Nat × Nat × Nat × (Nat → Int) × (Nat → Int)) (fun u : Nat × Nat × Nat × Nat × Nat × Nat × Nat × Nat × Nat × Nat × Nat × (Nat → Int) × (Nat → Int) => (∀ p, p < cs * rs → u.2.2.2.2.2.2.2.2.2.2.2.1 p = 255) ∧ ∀ k : Nat, k < rs → u.2.2.2.2.2.2.2.2.2.2.2.2 k = ((enc (k, 0, cs) : Nat) : Int)) D vwCl [(wr, .inr (0, [.int (iI 0), .int (iI 0), .null, .null, .null, .null, .null]))] sz (fun u : Nat × Nat × Nat × Nat × Nat × Nat × Nat × Nat × Nat × Nat × Nat × (Nat → Int) × (Nat → Int) => [(wr, .inr (0, [.int (iI (cs : Int)), .int (iI (rs : Int)), .ref u.1, .ref u.2.1, .ref u.2.2.2.2.2.1, .ref u.2.2.2.2.2.2.2.2.1, .ref u.2.2.2.2.2.2.2.2.2.1])), (u.1, .inl (cA, cs * rs, .inl (iA u.2.2.2.2.2.2.2.2.2.2.2.1))), (u.2.1, .inr (1, [.ref u.2.2.1, .ref u.2.2.2.1, .ref u.2.2.2.2.1, .int (iI 0), .int (iI 0)])), (u.2.2.1, .inl (cA, 4096, .inl (iA (fun _ => 0)))), (u.2.2.2.1, .inl (cA, 4096, .inl (iA (fun _ => 0)))), (u.2.2.2.2.1, .inl (cA, 4096, .inl (iA (fun _ => 0)))), (u.2.2.2.2.2.1, .inr (2, [.ref u.2.2.2.2.2.2.1, .ref u.2.2.2.2.2.2.2.1, .int (iI 0), .int (iI (rs : Int))])), (u.2.2.2.2.2.2.1, .inl (cA, 24000, .inl (iA u.2.2.2.2.2.2.2.2.2.2.2.2))), (u.2.2.2.2.2.2.2.1, .inl (cA, 13, .inl (iA (fun _ => 0)))), (u.2.2.2.2.2.2.2.2.1, .inl (cA, cs, .inl (iA (fun _ => 0)))), (u.2.2.2.2.2.2.2.2.2.1, .inr (3, [.ref u.2.2.2.2.2.2.2.2.2.2.1, .int (iI 0)])), (u.2.2.2.2.2.2.2.2.2.2.1, .inl (cA, (cs + 1) / 2 * rs, .inl (iA (fun _ => 0))))])) 11 134872 (va_A [(wr, .inr (0, [.int (iI 0), .int (iI 0), .null, .null, .null, .null, .null]))] sz) := by
  refine Met.ofW (cc := bW_init) (maxL := 3) (ret := none) (by decide +kernel) rfl ?_
  intro p e s m args below meth c s₁ B hml hv
  obtain ⟨rfl, hsz, hP, hKW, hD0⟩ := hv
  have hK := hKW.1
  have hN := hKW.2.2
  have hx := B.exec
  have hb := B.bytes
  have hr := B.returns
  have hts := atoms_spec (ws := wW_init) B.pre
  have hown : s.vm.findClass "WindingRaster" = some m.cls := findClass_of_methodNamed B.named
  have hlocks := B.notSynchronized
  subst hsz
  have hD := hD0.self (sz := s.heap.size)
  obtain ⟨A, hAe⟩ : ∃ A, va_A [(wr, .inr (0, [.int (iI 0), .int (iI 0), .null, .null, .null, .null, .null]))] s.heap.size = A := ⟨_, rfl⟩
  rw [hAe] at hD
  have hA : ∀ q : Nat, s.heap.size ≤ q → A q := fun q h => by rw [← hAe]; exact Or.inr h
  have hS : va_S A s.heap s.heap [] := va_S.rf
  have hP : va_P D vwCl [(wr, .inr (0, [.int (iI 0), .int (iI 0), .null, .null, .null, .null, .null]))] s.heap := hP
  have ml_1 := (hts _ (List.mem_cons_of_mem _ vm_15))
  have oi_i := (hts _ (List.mem_cons_of_mem _ vm_16))
  have oi_c := (hts _ (List.mem_cons_of_mem _ vx_obj))
  have ml_9 := (hts _ (List.mem_cons_of_mem _ vm_18))
  have ms_min := (hts _ (List.mem_cons_of_mem _ vm_19))
  have mi_math := (hts _ (List.mem_cons_of_mem _ vm_2))
  have mc_min := (hts _ (List.mem_cons_of_mem _ vx_min))
  have ml_15 := (hts _ (List.mem_cons_of_mem _ vm_21))
  have ms_max := (hts _ (List.mem_cons_of_mem _ vm_22))
  have mc_max := (hts _ (List.mem_cons_of_mem _ vx_max))
  have in_0 : ∀ w ∈ wsW, w ∈ wW_init := fun w h => List.mem_cons_of_mem _ (in0_W w h)
  have fl_18 := (hts _ (List.mem_cons_of_mem _ vm_69))
  have hin : meth.name = "<init>" := (name_of_methodNamed B.named B.method).1
  have fl_22 := (hts _ (List.mem_cons_of_mem _ vm_70))
  have hari := (hts _ (List.mem_cons_of_mem _ vm_42))
  have fl_25 := (hts _ (List.mem_cons_of_mem _ vm_71))
  have in_1 : ∀ w ∈ wsO, w ∈ wW_init := fun w h => List.mem_cons_of_mem _ (in0_O w h)
  have fl_38 := (hts _ (List.mem_cons_of_mem _ vm_72))
  have in_2 : ∀ w ∈ wsC, w ∈ wW_init := fun w h => List.mem_cons_of_mem _ (in0_C w h)
  have fl_47 := (hts _ (List.mem_cons_of_mem _ vm_73))
  have fl_51 := (hts _ (List.mem_cons_of_mem _ vm_74))
  have in_3 : ∀ w ∈ wsL, w ∈ wW_init := fun w h => List.mem_cons_of_mem _ (in0_L w h)
  have fl_59 := (hts _ (List.mem_cons_of_mem _ vm_75))
  have hl := lv_entry ([.ref wr, .int (iI a1), .int (iI a2)]) (n := 3) (Nat.le_of_ble_eq_true rfl)
  rw [lg_entry_eq]
  generalize (lg_sl ([.ref wr, .int (iI a1), .int (iI a2)]) ++ List.replicate (3 - (lg_sl ([.ref wr, .int (iI a1), .int (iI a2)])).length) Slot.unset).toArray = ls at hl ⊢
  have hl : lv_has ls 3 [(0, .ref wr), (1, .int (iI a1)), (2, .int (iI a2))] := hl
  generalize hQ : MQ below (qV (S := Nat × Nat × Nat × Nat × Nat × Nat × Nat × Nat × Nat × Nat × Nat × (Nat → Int) × (Nat → Int)) (fun u : Nat × Nat × Nat × Nat × Nat × Nat × Nat × Nat × Nat × Nat × Nat × (Nat → Int) × (Nat → Int) => (∀ p, p < cs * rs → u.2.2.2.2.2.2.2.2.2.2.2.1 p = 255) ∧ ∀ k : Nat, k < rs → u.2.2.2.2.2.2.2.2.2.2.2.2 k = ((enc (k, 0, cs) : Nat) : Int)) D vwCl [(wr, .inr (0, [.int (iI 0), .int (iI 0), .null, .null, .null, .null, .null]))] s.heap.size (fun u : Nat × Nat × Nat × Nat × Nat × Nat × Nat × Nat × Nat × Nat × Nat × (Nat → Int) × (Nat → Int) => [(wr, .inr (0, [.int (iI (cs : Int)), .int (iI (rs : Int)), .ref u.1, .ref u.2.1, .ref u.2.2.2.2.2.1, .ref u.2.2.2.2.2.2.2.2.1, .ref u.2.2.2.2.2.2.2.2.2.1])), (u.1, .inl (cA, cs * rs, .inl (iA u.2.2.2.2.2.2.2.2.2.2.2.1))), (u.2.1, .inr (1, [.ref u.2.2.1, .ref u.2.2.2.1, .ref u.2.2.2.2.1, .int (iI 0), .int (iI 0)])), (u.2.2.1, .inl (cA, 4096, .inl (iA (fun _ => 0)))), (u.2.2.2.1, .inl (cA, 4096, .inl (iA (fun _ => 0)))), (u.2.2.2.2.1, .inl (cA, 4096, .inl (iA (fun _ => 0)))), (u.2.2.2.2.2.1, .inr (2, [.ref u.2.2.2.2.2.2.1, .ref u.2.2.2.2.2.2.2.1, .int (iI 0), .int (iI (rs : Int))])), (u.2.2.2.2.2.2.1, .inl (cA, 24000, .inl (iA u.2.2.2.2.2.2.2.2.2.2.2.2))), (u.2.2.2.2.2.2.2.1, .inl (cA, 13, .inl (iA (fun _ => 0)))), (u.2.2.2.2.2.2.2.2.1, .inl (cA, cs, .inl (iA (fun _ => 0)))), (u.2.2.2.2.2.2.2.2.2.1, .inr (3, [.ref u.2.2.2.2.2.2.2.2.2.2.1, .int (iI 0)])), (u.2.2.2.2.2.2.2.2.2.2.1, .inl (cA, (cs + 1) / 2 * rs, .inl (iA (fun _ => 0))))])) [.ref wr, .int (iI a1), .int (iI a2)].toArray s 11 134872 (va_A [(wr, .inr (0, [.int (iI 0), .int (iI 0), .null, .null, .null, .null, .null]))] s.heap.size) = QQ
  have hpm : (cs + 1) / 2 * rs ≤ 128 * 256 := Nat.mul_le_mul (by omega) (by omega)
  have hgm : cs * rs ≤ 256 * 256 := Nat.mul_le_mul (by omega) (by omega)
  refine lv_aload_n hx hb dW_init_0 rfl (lv_at hl 0 rfl) ?_
  refine W.objInit hx hb hown ml_1 oi_i oi_c rfl (by rw [hml]; exact hl.1) rfl dW_init_1 (Nat.le_of_ble_eq_true rfl) (Nat.le_of_ble_eq_true rfl) ?_
  refine W.eq (g2 := F0 m 4 ls []) rfl ?_
  refine lv_aload_n hx hb dW_init_4 rfl (lv_at hl 0 rfl) ?_
  refine ii_iconst (n := 1) hx hb dW_init_5 ?_
  refine ii_sipush (n := 256) hx hb dW_init_6 (by decide +kernel) ?_
  refine lv_iload_n hx hb dW_init_9 rfl (lv_at hl 1 rfl) ?_
  refine ii_mmin hx hb (hml.trans hl.1.symm) hown ml_9 ms_min mi_math mc_min (Nat.le_of_ble_eq_true rfl) (Nat.le_of_ble_eq_true rfl) (Nat.le_of_ble_eq_true rfl) (Nat.le_of_ble_eq_true rfl) (by omega) (by omega) dW_init_10 ?_
  refine ii_mmax hx hb (hml.trans hl.1.symm) hown ml_15 ms_max mi_math mc_max (Nat.le_of_ble_eq_true rfl) (Nat.le_of_ble_eq_true rfl) (Nat.le_of_ble_eq_true rfl) (Nat.le_of_ble_eq_true rfl) (by omega) (by omega) dW_init_13 ?_
  refine ii_top (y := (cs : Int)) h3.symm ?_
  refine va_putF (ci := 0) (v := .int (iI (cs : Int))) (ty := .int) (C := "WindingRaster") (T := TW) (N := 7) hx hb hts in_0 tW tW_ok nW hown hK hP hD hS 0 rfl rfl 0 (by decide) fl_18 (fun _ h9 => h9) rfl hin rfl (by decide +kernel) rfl rfl (Nat.le_of_ble_eq_true rfl) dW_init_16 (fun H locs hP hD hS => ?_)
  have hP : va_P D vwCl [(wr, .inr (0, [.int (iI (cs : Int)), .int (iI 0), .null, .null, .null, .null, .null]))] H := hP
  have hD : va_D A [(wr, .inr (0, [.int (iI (cs : Int)), .int (iI 0), .null, .null, .null, .null, .null]))] := hD
  refine lv_aload_n hx hb dW_init_19 rfl (lv_at hl 0 rfl) ?_
  refine ii_iconst (n := 1) hx hb dW_init_20 ?_
  refine ii_sipush (n := 256) hx hb dW_init_21 (by decide +kernel) ?_
  refine lv_iload_n hx hb dW_init_24 rfl (lv_at hl 2 rfl) ?_
  refine ii_mmin hx hb (hml.trans hl.1.symm) hown ml_9 ms_min mi_math mc_min (Nat.le_of_ble_eq_true rfl) (Nat.le_of_ble_eq_true rfl) (Nat.le_of_ble_eq_true rfl) (Nat.le_of_ble_eq_true rfl) (by omega) (by omega) dW_init_25 ?_
  refine ii_mmax hx hb (hml.trans hl.1.symm) hown ml_15 ms_max mi_math mc_max (Nat.le_of_ble_eq_true rfl) (Nat.le_of_ble_eq_true rfl) (Nat.le_of_ble_eq_true rfl) (Nat.le_of_ble_eq_true rfl) (by omega) (by omega) dW_init_28 ?_
  refine ii_top (y := (rs : Int)) h4.symm ?_
  refine va_putF (ci := 0) (v := .int (iI (rs : Int))) (ty := .int) (C := "WindingRaster") (T := TW) (N := 7) hx hb hts in_0 tW tW_ok nW hown hK hP hD hS 0 rfl rfl 1 (by decide) fl_22 (fun _ h9 => h9) rfl hin rfl (by decide +kernel) rfl rfl (Nat.le_of_ble_eq_true rfl) dW_init_31 (fun H locs hP hD hS => ?_)
  have hP : va_P D vwCl [(wr, .inr (0, [.int (iI (cs : Int)), .int (iI (rs : Int)), .null, .null, .null, .null, .null]))] H := hP
  have hD : va_D A [(wr, .inr (0, [.int (iI (cs : Int)), .int (iI (rs : Int)), .null, .null, .null, .null, .null]))] := hD
  refine lv_aload_n hx hb dW_init_34 rfl (lv_at hl 0 rfl) ?_
  refine lv_aload_n hx hb dW_init_35 rfl (lv_at hl 0 rfl) ?_
  refine va_get (ci := 0) (v := .int (iI (cs : Int))) (C := "WindingRaster") (T := TW) (N := 7) hx hb hts in_0 hown hK hP 0 rfl rfl 0 (by decide) fl_18 (fun _ h9 => h9) rfl dW_init_36 ?_
  refine lv_aload_n hx hb dW_init_39 rfl (lv_at hl 0 rfl) ?_
  refine va_get (ci := 0) (v := .int (iI (rs : Int))) (C := "WindingRaster") (T := TW) (N := 7) hx hb hts in_0 hown hK hP 0 rfl rfl 1 (by decide) fl_22 (fun _ h9 => h9) rfl dW_init_40 ?_
  refine ii_imul hx hb dW_init_43 ?_
  refine ii_top (y := ((cs * rs : Nat) : Int)) (by push_cast; rfl) ?_
  refine ii_newa hx hb hari hK hP hD hS hA 0 rfl (cs * rs) rfl (by omega) (by decide) (by show 0 + cs * rs ≤ 134872; omega) dW_init_44 (fun ag H hP hD hS => ?_)
  refine W.widen (k := 1) (n := 65536) (by omega) (by omega) ?_
  have hP : va_P D vwCl [(wr, .inr (0, [.int (iI (cs : Int)), .int (iI (rs : Int)), .null, .null, .null, .null, .null])), (ag, .inl (cA, cs * rs, .inl (iA (fun _ => 0))))] H := hP
  have hD : va_D A [(wr, .inr (0, [.int (iI (cs : Int)), .int (iI (rs : Int)), .null, .null, .null, .null, .null])), (ag, .inl (cA, cs * rs, .inl (iA (fun _ => 0))))] := hD
  refine va_putF (ci := 0) (v := .ref ag) (ty := (.array .int)) (C := "WindingRaster") (T := TW) (N := 7) hx hb hts in_0 tW tW_ok nW hown hK hP hD hS 0 rfl rfl 2 (by decide) fl_25 (fun _ h9 => h9) rfl hin rfl (by decide +kernel) rfl rfl (Nat.le_of_ble_eq_true rfl) dW_init_46 (fun H locs hP hD hS => ?_)
  have hP : va_P D vwCl [(wr, .inr (0, [.int (iI (cs : Int)), .int (iI (rs : Int)), .ref ag, .null, .null, .null, .null])), (ag, .inl (cA, cs * rs, .inl (iA (fun _ => 0))))] H := hP
  have hD : va_D A [(wr, .inr (0, [.int (iI (cs : Int)), .int (iI (rs : Int)), .ref ag, .null, .null, .null, .null])), (ag, .inl (cA, cs * rs, .inl (iA (fun _ => 0))))] := hD
  refine lv_aload_n hx hb dW_init_49 rfl (lv_at hl 0 rfl) ?_
  refine va_get (ci := 0) (v := .ref ag) (C := "WindingRaster") (T := TW) (N := 7) hx hb hts in_0 hown hK hP 0 rfl rfl 2 (by decide) fl_25 (fun _ h9 => h9) rfl dW_init_50 ?_
  refine ii_sipush (n := 255) hx hb dW_init_53 (by decide +kernel) ?_
  refine cw_v (wc := [(ag, .inl (cA, cs * rs, .inl (iA (fun _ => 0))))]) (wr := [(wr, .inr (0, [.int (iI (cs : Int)), .int (iI (rs : Int)), .ref ag, .null, .null, .null, .null]))]) hP hD hS hA [1] [0] rfl rfl (by decide) (by decide) (va_runS (As := [.ref ag, .int (iI 255)]) (rest := []) ⟨hx, hb, hml, hown, hts⟩ (c_afill l D cA cB cS ag (cs * rs) (fun _ => 0) 255 (by omega) _) ⟨(callB_of 2 hts (gIn vm_26) rfl rfl rfl (hts _ (List.mem_cons_of_mem _ vm_3)) (hts _ (List.mem_cons_of_mem _ vm_24)) (by decide +kernel) ⟨Nat.le_of_ble_eq_true rfl, Nat.le_of_ble_eq_true rfl⟩), (hts _ (List.mem_cons_of_mem _ vm_25))⟩ (pW.pre (hP.sub [1] rfl) (hD.sub [1] (by decide) rfl) hKW) rfl rfl hl.1 rfl (lv_room (Nat.le_of_ble_eq_true rfl)) dW_init_56 ⟨Nat.le_of_ble_eq_true rfl, Nat.le_of_ble_eq_true rfl⟩) (fun u_1 H locs hzf hP hD hS => ?_)
  obtain ⟨fG, rfl⟩ : ∃ z_, z_ = u_1 := ⟨_, rfl⟩
  try dsimp only at hzf
  have hP : va_P D vwCl [(wr, .inr (0, [.int (iI (cs : Int)), .int (iI (rs : Int)), .ref ag, .null, .null, .null, .null])), (ag, .inl (cA, cs * rs, .inl (iA fG)))] H := hP
  have hD : va_D A [(wr, .inr (0, [.int (iI (cs : Int)), .int (iI (rs : Int)), .ref ag, .null, .null, .null, .null])), (ag, .inl (cA, cs * rs, .inl (iA fG)))] := hD
  refine lv_aload_n hx hb dW_init_59 rfl (lv_at hl 0 rfl) ?_
  refine va_new (ci := 1) (fs := [.null, .null, .null, .int (iI 0), .int (iI 0)]) (C := "WindingRaster$Outline") (T := TO) (N := 5) hx hb hts in_1 tO tO_ok hown (hts _ (List.mem_cons_of_mem _ vm_27)) (hts _ (List.mem_cons_of_mem _ vm_28)) (hts _ (List.mem_cons_of_mem _ vm_4)) hK hP hD hS hA rfl (fun j hj => by rcases (show j = 0 ∨ j = 1 ∨ j = 2 ∨ j = 3 ∨ j = 4 by omega) with rfl | rfl | rfl | rfl | rfl <;> rfl) (by decide) (by decide) dW_init_60 (fun oo H hP hD hS => ?_)
  refine W.widen (k := 2) (n := 65541) (by omega) (by omega) ?_
  have hP : va_P D vwCl [(wr, .inr (0, [.int (iI (cs : Int)), .int (iI (rs : Int)), .ref ag, .null, .null, .null, .null])), (ag, .inl (cA, cs * rs, .inl (iA fG))), (oo, .inr (1, [.null, .null, .null, .int (iI 0), .int (iI 0)]))] H := hP
  have hD : va_D A [(wr, .inr (0, [.int (iI (cs : Int)), .int (iI (rs : Int)), .ref ag, .null, .null, .null, .null])), (ag, .inl (cA, cs * rs, .inl (iA fG))), (oo, .inr (1, [.null, .null, .null, .int (iI 0), .int (iI 0)]))] := hD
  refine lv_dup hx hb dW_init_63 rfl ?_
  refine cw_v (wc := [(oo, .inr (1, [.null, .null, .null, .int (iI 0), .int (iI 0)]))]) (wr := [(wr, .inr (0, [.int (iI (cs : Int)), .int (iI (rs : Int)), .ref ag, .null, .null, .null, .null])), (ag, .inl (cA, cs * rs, .inl (iA fG)))]) hP hD hS hA [2] [0, 1] rfl rfl (by decide) (by decide) (va_runIN (As := []) (rest := [.ref oo, .ref wr]) ⟨hx, hb, hml, hown, hts⟩ (c_Outline_init l D cA cB cS oo _) ⟨(va_cnB 0 hts (gIn vm_30) rfl rfl rfl (hN _ vn_0) (hts _ (List.mem_cons_of_mem _ vm_4)) (by decide +kernel) ⟨Nat.le_of_ble_eq_true rfl, Nat.le_of_ble_eq_true rfl⟩), rfl, (hts _ (List.mem_cons_of_mem _ vm_29))⟩ (pW.pre (hP.sub [2] rfl) (hD.sub [2] (by decide) rfl) hKW) rfl rfl hl.1 rfl (lv_room (Nat.le_of_ble_eq_true rfl)) dW_init_64 ⟨Nat.le_of_ble_eq_true rfl, Nat.le_of_ble_eq_true rfl⟩) (fun u_3 H locs hz_2 hP hD hS => ?_)
  obtain ⟨ax, ay, an⟩ := u_3
  try dsimp only at hz_2
  refine W.widen (k := 5) (n := 77829) (by omega) (by omega) ?_
  have hP : va_P D vwCl [(wr, .inr (0, [.int (iI (cs : Int)), .int (iI (rs : Int)), .ref ag, .null, .null, .null, .null])), (ag, .inl (cA, cs * rs, .inl (iA fG))), (oo, .inr (1, [.ref ax, .ref ay, .ref an, .int (iI 0), .int (iI 0)])), (ax, .inl (cA, 4096, .inl (iA (fun _ => 0)))), (ay, .inl (cA, 4096, .inl (iA (fun _ => 0)))), (an, .inl (cA, 4096, .inl (iA (fun _ => 0))))] H := hP
  have hD : va_D A [(wr, .inr (0, [.int (iI (cs : Int)), .int (iI (rs : Int)), .ref ag, .null, .null, .null, .null])), (ag, .inl (cA, cs * rs, .inl (iA fG))), (oo, .inr (1, [.ref ax, .ref ay, .ref an, .int (iI 0), .int (iI 0)])), (ax, .inl (cA, 4096, .inl (iA (fun _ => 0)))), (ay, .inl (cA, 4096, .inl (iA (fun _ => 0)))), (an, .inl (cA, 4096, .inl (iA (fun _ => 0))))] := hD
  refine va_putF (ci := 0) (v := .ref oo) (ty := (.object "WindingRaster$Outline")) (C := "WindingRaster") (T := TW) (N := 7) hx hb hts in_0 tW tW_ok nW hown hK hP hD hS 0 rfl rfl 3 (by decide) fl_38 (fun _ h9 => h9) rfl hin rfl (by decide +kernel) rfl rfl (Nat.le_of_ble_eq_true rfl) dW_init_67 (fun H locs hP hD hS => ?_)
  have hP : va_P D vwCl [(wr, .inr (0, [.int (iI (cs : Int)), .int (iI (rs : Int)), .ref ag, .ref oo, .null, .null, .null])), (ag, .inl (cA, cs * rs, .inl (iA fG))), (oo, .inr (1, [.ref ax, .ref ay, .ref an, .int (iI 0), .int (iI 0)])), (ax, .inl (cA, 4096, .inl (iA (fun _ => 0)))), (ay, .inl (cA, 4096, .inl (iA (fun _ => 0)))), (an, .inl (cA, 4096, .inl (iA (fun _ => 0))))] H := hP
  have hD : va_D A [(wr, .inr (0, [.int (iI (cs : Int)), .int (iI (rs : Int)), .ref ag, .ref oo, .null, .null, .null])), (ag, .inl (cA, cs * rs, .inl (iA fG))), (oo, .inr (1, [.ref ax, .ref ay, .ref an, .int (iI 0), .int (iI 0)])), (ax, .inl (cA, 4096, .inl (iA (fun _ => 0)))), (ay, .inl (cA, 4096, .inl (iA (fun _ => 0)))), (an, .inl (cA, 4096, .inl (iA (fun _ => 0))))] := hD
  refine lv_aload_n hx hb dW_init_70 rfl (lv_at hl 0 rfl) ?_
  refine va_new (ci := 2) (fs := [.null, .null, .int (iI 0), .int (iI 0)]) (C := "WindingRaster$ClipPile") (T := TC) (N := 4) hx hb hts in_2 tC tC_ok hown (hts _ (List.mem_cons_of_mem _ vm_43)) (hts _ (List.mem_cons_of_mem _ vm_44)) (hts _ (List.mem_cons_of_mem _ vm_5)) hK hP hD hS hA rfl (fun j hj => by rcases (show j = 0 ∨ j = 1 ∨ j = 2 ∨ j = 3 by omega) with rfl | rfl | rfl | rfl <;> rfl) (by decide) (by decide) dW_init_71 (fun cp H hP hD hS => ?_)
  refine W.widen (k := 6) (n := 77833) (by omega) (by omega) ?_
  have hP : va_P D vwCl [(wr, .inr (0, [.int (iI (cs : Int)), .int (iI (rs : Int)), .ref ag, .ref oo, .null, .null, .null])), (ag, .inl (cA, cs * rs, .inl (iA fG))), (oo, .inr (1, [.ref ax, .ref ay, .ref an, .int (iI 0), .int (iI 0)])), (ax, .inl (cA, 4096, .inl (iA (fun _ => 0)))), (ay, .inl (cA, 4096, .inl (iA (fun _ => 0)))), (an, .inl (cA, 4096, .inl (iA (fun _ => 0)))), (cp, .inr (2, [.null, .null, .int (iI 0), .int (iI 0)]))] H := hP
  have hD : va_D A [(wr, .inr (0, [.int (iI (cs : Int)), .int (iI (rs : Int)), .ref ag, .ref oo, .null, .null, .null])), (ag, .inl (cA, cs * rs, .inl (iA fG))), (oo, .inr (1, [.ref ax, .ref ay, .ref an, .int (iI 0), .int (iI 0)])), (ax, .inl (cA, 4096, .inl (iA (fun _ => 0)))), (ay, .inl (cA, 4096, .inl (iA (fun _ => 0)))), (an, .inl (cA, 4096, .inl (iA (fun _ => 0)))), (cp, .inr (2, [.null, .null, .int (iI 0), .int (iI 0)]))] := hD
  refine lv_dup hx hb dW_init_74 rfl ?_
  refine lv_aload_n hx hb dW_init_75 rfl (lv_at hl 0 rfl) ?_
  refine va_get (ci := 0) (v := .int (iI (cs : Int))) (C := "WindingRaster") (T := TW) (N := 7) hx hb hts in_0 hown hK hP 0 rfl rfl 0 (by decide) fl_18 (fun _ h9 => h9) rfl dW_init_76 ?_
  refine lv_aload_n hx hb dW_init_79 rfl (lv_at hl 0 rfl) ?_
  refine va_get (ci := 0) (v := .int (iI (rs : Int))) (C := "WindingRaster") (T := TW) (N := 7) hx hb hts in_0 hown hK hP 0 rfl rfl 1 (by decide) fl_22 (fun _ h9 => h9) rfl dW_init_80 ?_
  refine cw_v (wc := [(cp, .inr (2, [.null, .null, .int (iI 0), .int (iI 0)]))]) (wr := [(wr, .inr (0, [.int (iI (cs : Int)), .int (iI (rs : Int)), .ref ag, .ref oo, .null, .null, .null])), (ag, .inl (cA, cs * rs, .inl (iA fG))), (oo, .inr (1, [.ref ax, .ref ay, .ref an, .int (iI 0), .int (iI 0)])), (ax, .inl (cA, 4096, .inl (iA (fun _ => 0)))), (ay, .inl (cA, 4096, .inl (iA (fun _ => 0)))), (an, .inl (cA, 4096, .inl (iA (fun _ => 0))))]) hP hD hS hA [6] [0, 1, 2, 3, 4, 5] rfl rfl (by decide) (by decide) (va_runIN (As := [.int (iI (cs : Int)), .int (iI (rs : Int))]) (rest := [.ref cp, .ref wr]) ⟨hx, hb, hml, hown, hts⟩ (c_ClipPile_init l D cA cB cS cp cs rs (by omega) (by omega) _) ⟨(va_cnB 2 hts (gIn vm_46) rfl rfl rfl (hN _ vn_2) (hts _ (List.mem_cons_of_mem _ vm_5)) (by decide +kernel) ⟨Nat.le_of_ble_eq_true rfl, Nat.le_of_ble_eq_true rfl⟩), rfl, (hts _ (List.mem_cons_of_mem _ vm_45))⟩ (pW.pre (hP.sub [6] rfl) (hD.sub [6] (by decide) rfl) hKW) rfl rfl hl.1 rfl (lv_room (Nat.le_of_ble_eq_true rfl)) dW_init_83 ⟨Nat.le_of_ble_eq_true rfl, Nat.le_of_ble_eq_true rfl⟩) (fun u_4 H locs hzc hP hD hS => ?_)
  obtain ⟨ai, at_, fI⟩ := u_4
  try dsimp only at hzc
  refine W.widen (k := 8) (n := 101846) (by omega) (by omega) ?_
  have hP : va_P D vwCl [(wr, .inr (0, [.int (iI (cs : Int)), .int (iI (rs : Int)), .ref ag, .ref oo, .null, .null, .null])), (ag, .inl (cA, cs * rs, .inl (iA fG))), (oo, .inr (1, [.ref ax, .ref ay, .ref an, .int (iI 0), .int (iI 0)])), (ax, .inl (cA, 4096, .inl (iA (fun _ => 0)))), (ay, .inl (cA, 4096, .inl (iA (fun _ => 0)))), (an, .inl (cA, 4096, .inl (iA (fun _ => 0)))), (cp, .inr (2, [.ref ai, .ref at_, .int (iI 0), .int (iI (rs : Int))])), (ai, .inl (cA, 24000, .inl (iA fI))), (at_, .inl (cA, 13, .inl (iA (fun _ => 0))))] H := hP
  have hD : va_D A [(wr, .inr (0, [.int (iI (cs : Int)), .int (iI (rs : Int)), .ref ag, .ref oo, .null, .null, .null])), (ag, .inl (cA, cs * rs, .inl (iA fG))), (oo, .inr (1, [.ref ax, .ref ay, .ref an, .int (iI 0), .int (iI 0)])), (ax, .inl (cA, 4096, .inl (iA (fun _ => 0)))), (ay, .inl (cA, 4096, .inl (iA (fun _ => 0)))), (an, .inl (cA, 4096, .inl (iA (fun _ => 0)))), (cp, .inr (2, [.ref ai, .ref at_, .int (iI 0), .int (iI (rs : Int))])), (ai, .inl (cA, 24000, .inl (iA fI))), (at_, .inl (cA, 13, .inl (iA (fun _ => 0))))] := hD
  refine va_putF (ci := 0) (v := .ref cp) (ty := (.object "WindingRaster$ClipPile")) (C := "WindingRaster") (T := TW) (N := 7) hx hb hts in_0 tW tW_ok nW hown hK hP hD hS 0 rfl rfl 4 (by decide) fl_47 (fun _ h9 => h9) rfl hin rfl (by decide +kernel) rfl rfl (Nat.le_of_ble_eq_true rfl) dW_init_86 (fun H locs hP hD hS => ?_)
  have hP : va_P D vwCl [(wr, .inr (0, [.int (iI (cs : Int)), .int (iI (rs : Int)), .ref ag, .ref oo, .ref cp, .null, .null])), (ag, .inl (cA, cs * rs, .inl (iA fG))), (oo, .inr (1, [.ref ax, .ref ay, .ref an, .int (iI 0), .int (iI 0)])), (ax, .inl (cA, 4096, .inl (iA (fun _ => 0)))), (ay, .inl (cA, 4096, .inl (iA (fun _ => 0)))), (an, .inl (cA, 4096, .inl (iA (fun _ => 0)))), (cp, .inr (2, [.ref ai, .ref at_, .int (iI 0), .int (iI (rs : Int))])), (ai, .inl (cA, 24000, .inl (iA fI))), (at_, .inl (cA, 13, .inl (iA (fun _ => 0))))] H := hP
  have hD : va_D A [(wr, .inr (0, [.int (iI (cs : Int)), .int (iI (rs : Int)), .ref ag, .ref oo, .ref cp, .null, .null])), (ag, .inl (cA, cs * rs, .inl (iA fG))), (oo, .inr (1, [.ref ax, .ref ay, .ref an, .int (iI 0), .int (iI 0)])), (ax, .inl (cA, 4096, .inl (iA (fun _ => 0)))), (ay, .inl (cA, 4096, .inl (iA (fun _ => 0)))), (an, .inl (cA, 4096, .inl (iA (fun _ => 0)))), (cp, .inr (2, [.ref ai, .ref at_, .int (iI 0), .int (iI (rs : Int))])), (ai, .inl (cA, 24000, .inl (iA fI))), (at_, .inl (cA, 13, .inl (iA (fun _ => 0))))] := hD
  refine lv_aload_n hx hb dW_init_89 rfl (lv_at hl 0 rfl) ?_
  refine lv_aload_n hx hb dW_init_90 rfl (lv_at hl 0 rfl) ?_
  refine va_get (ci := 0) (v := .int (iI (cs : Int))) (C := "WindingRaster") (T := TW) (N := 7) hx hb hts in_0 hown hK hP 0 rfl rfl 0 (by decide) fl_18 (fun _ h9 => h9) rfl dW_init_91 ?_
  refine ii_newa hx hb hari hK hP hD hS hA 0 rfl cs rfl (by omega) (by decide) (by show 101846 + cs ≤ 134872; omega) dW_init_94 (fun aw H hP hD hS => ?_)
  refine W.widen (k := 9) (n := 102102) (by omega) (by omega) ?_
  have hP : va_P D vwCl [(wr, .inr (0, [.int (iI (cs : Int)), .int (iI (rs : Int)), .ref ag, .ref oo, .ref cp, .null, .null])), (ag, .inl (cA, cs * rs, .inl (iA fG))), (oo, .inr (1, [.ref ax, .ref ay, .ref an, .int (iI 0), .int (iI 0)])), (ax, .inl (cA, 4096, .inl (iA (fun _ => 0)))), (ay, .inl (cA, 4096, .inl (iA (fun _ => 0)))), (an, .inl (cA, 4096, .inl (iA (fun _ => 0)))), (cp, .inr (2, [.ref ai, .ref at_, .int (iI 0), .int (iI (rs : Int))])), (ai, .inl (cA, 24000, .inl (iA fI))), (at_, .inl (cA, 13, .inl (iA (fun _ => 0)))), (aw, .inl (cA, cs, .inl (iA (fun _ => 0))))] H := hP
  have hD : va_D A [(wr, .inr (0, [.int (iI (cs : Int)), .int (iI (rs : Int)), .ref ag, .ref oo, .ref cp, .null, .null])), (ag, .inl (cA, cs * rs, .inl (iA fG))), (oo, .inr (1, [.ref ax, .ref ay, .ref an, .int (iI 0), .int (iI 0)])), (ax, .inl (cA, 4096, .inl (iA (fun _ => 0)))), (ay, .inl (cA, 4096, .inl (iA (fun _ => 0)))), (an, .inl (cA, 4096, .inl (iA (fun _ => 0)))), (cp, .inr (2, [.ref ai, .ref at_, .int (iI 0), .int (iI (rs : Int))])), (ai, .inl (cA, 24000, .inl (iA fI))), (at_, .inl (cA, 13, .inl (iA (fun _ => 0)))), (aw, .inl (cA, cs, .inl (iA (fun _ => 0))))] := hD
  refine va_putF (ci := 0) (v := .ref aw) (ty := (.array .int)) (C := "WindingRaster") (T := TW) (N := 7) hx hb hts in_0 tW tW_ok nW hown hK hP hD hS 0 rfl rfl 5 (by decide) fl_51 (fun _ h9 => h9) rfl hin rfl (by decide +kernel) rfl rfl (Nat.le_of_ble_eq_true rfl) dW_init_96 (fun H locs hP hD hS => ?_)
  have hP : va_P D vwCl [(wr, .inr (0, [.int (iI (cs : Int)), .int (iI (rs : Int)), .ref ag, .ref oo, .ref cp, .ref aw, .null])), (ag, .inl (cA, cs * rs, .inl (iA fG))), (oo, .inr (1, [.ref ax, .ref ay, .ref an, .int (iI 0), .int (iI 0)])), (ax, .inl (cA, 4096, .inl (iA (fun _ => 0)))), (ay, .inl (cA, 4096, .inl (iA (fun _ => 0)))), (an, .inl (cA, 4096, .inl (iA (fun _ => 0)))), (cp, .inr (2, [.ref ai, .ref at_, .int (iI 0), .int (iI (rs : Int))])), (ai, .inl (cA, 24000, .inl (iA fI))), (at_, .inl (cA, 13, .inl (iA (fun _ => 0)))), (aw, .inl (cA, cs, .inl (iA (fun _ => 0))))] H := hP
  have hD : va_D A [(wr, .inr (0, [.int (iI (cs : Int)), .int (iI (rs : Int)), .ref ag, .ref oo, .ref cp, .ref aw, .null])), (ag, .inl (cA, cs * rs, .inl (iA fG))), (oo, .inr (1, [.ref ax, .ref ay, .ref an, .int (iI 0), .int (iI 0)])), (ax, .inl (cA, 4096, .inl (iA (fun _ => 0)))), (ay, .inl (cA, 4096, .inl (iA (fun _ => 0)))), (an, .inl (cA, 4096, .inl (iA (fun _ => 0)))), (cp, .inr (2, [.ref ai, .ref at_, .int (iI 0), .int (iI (rs : Int))])), (ai, .inl (cA, 24000, .inl (iA fI))), (at_, .inl (cA, 13, .inl (iA (fun _ => 0)))), (aw, .inl (cA, cs, .inl (iA (fun _ => 0))))] := hD
  refine lv_aload_n hx hb dW_init_99 rfl (lv_at hl 0 rfl) ?_
  refine va_new (ci := 3) (fs := [.null, .int (iI 0)]) (C := "WindingRaster$RunList") (T := TL) (N := 2) hx hb hts in_3 tL tL_ok hown (hts _ (List.mem_cons_of_mem _ vm_59)) (hts _ (List.mem_cons_of_mem _ vm_60)) (hts _ (List.mem_cons_of_mem _ vm_7)) hK hP hD hS hA rfl (fun j hj => by rcases (show j = 0 ∨ j = 1 by omega) with rfl | rfl <;> rfl) (by decide) (by decide) dW_init_100 (fun pl H hP hD hS => ?_)
  refine W.widen (k := 10) (n := 102104) (by omega) (by omega) ?_
  have hP : va_P D vwCl [(wr, .inr (0, [.int (iI (cs : Int)), .int (iI (rs : Int)), .ref ag, .ref oo, .ref cp, .ref aw, .null])), (ag, .inl (cA, cs * rs, .inl (iA fG))), (oo, .inr (1, [.ref ax, .ref ay, .ref an, .int (iI 0), .int (iI 0)])), (ax, .inl (cA, 4096, .inl (iA (fun _ => 0)))), (ay, .inl (cA, 4096, .inl (iA (fun _ => 0)))), (an, .inl (cA, 4096, .inl (iA (fun _ => 0)))), (cp, .inr (2, [.ref ai, .ref at_, .int (iI 0), .int (iI (rs : Int))])), (ai, .inl (cA, 24000, .inl (iA fI))), (at_, .inl (cA, 13, .inl (iA (fun _ => 0)))), (aw, .inl (cA, cs, .inl (iA (fun _ => 0)))), (pl, .inr (3, [.null, .int (iI 0)]))] H := hP
  have hD : va_D A [(wr, .inr (0, [.int (iI (cs : Int)), .int (iI (rs : Int)), .ref ag, .ref oo, .ref cp, .ref aw, .null])), (ag, .inl (cA, cs * rs, .inl (iA fG))), (oo, .inr (1, [.ref ax, .ref ay, .ref an, .int (iI 0), .int (iI 0)])), (ax, .inl (cA, 4096, .inl (iA (fun _ => 0)))), (ay, .inl (cA, 4096, .inl (iA (fun _ => 0)))), (an, .inl (cA, 4096, .inl (iA (fun _ => 0)))), (cp, .inr (2, [.ref ai, .ref at_, .int (iI 0), .int (iI (rs : Int))])), (ai, .inl (cA, 24000, .inl (iA fI))), (at_, .inl (cA, 13, .inl (iA (fun _ => 0)))), (aw, .inl (cA, cs, .inl (iA (fun _ => 0)))), (pl, .inr (3, [.null, .int (iI 0)]))] := hD
  refine lv_dup hx hb dW_init_103 rfl ?_
  refine lv_aload_n hx hb dW_init_104 rfl (lv_at hl 0 rfl) ?_
  refine va_get (ci := 0) (v := .int (iI (cs : Int))) (C := "WindingRaster") (T := TW) (N := 7) hx hb hts in_0 hown hK hP 0 rfl rfl 0 (by decide) fl_18 (fun _ h9 => h9) rfl dW_init_105 ?_
  refine ii_iconst (n := 1) hx hb dW_init_108 ?_
  refine ii_iadd hx hb dW_init_109 ?_
  refine ii_top (y := ((cs + 1 : Nat) : Int)) (by push_cast; rfl) ?_
  refine ii_iconst (n := 2) hx hb dW_init_110 ?_
  refine ii_idiv (z := (((cs + 1) / 2 : Nat) : Int)) hx hb dW_init_111 (by decide +kernel) (iI_div2 (by omega)) ?_
  refine ii_top (y := (((cs + 1) / 2 : Nat) : Int)) rfl ?_
  refine lv_aload_n hx hb dW_init_112 rfl (lv_at hl 0 rfl) ?_
  refine va_get (ci := 0) (v := .int (iI (rs : Int))) (C := "WindingRaster") (T := TW) (N := 7) hx hb hts in_0 hown hK hP 0 rfl rfl 1 (by decide) fl_22 (fun _ h9 => h9) rfl dW_init_113 ?_
  refine ii_imul hx hb dW_init_116 ?_
  refine ii_top (y := ((((cs + 1) / 2) * rs : Nat) : Int)) (by push_cast; rfl) ?_
  refine cw_v (wc := [(pl, .inr (3, [.null, .int (iI 0)]))]) (wr := [(wr, .inr (0, [.int (iI (cs : Int)), .int (iI (rs : Int)), .ref ag, .ref oo, .ref cp, .ref aw, .null])), (ag, .inl (cA, cs * rs, .inl (iA fG))), (oo, .inr (1, [.ref ax, .ref ay, .ref an, .int (iI 0), .int (iI 0)])), (ax, .inl (cA, 4096, .inl (iA (fun _ => 0)))), (ay, .inl (cA, 4096, .inl (iA (fun _ => 0)))), (an, .inl (cA, 4096, .inl (iA (fun _ => 0)))), (cp, .inr (2, [.ref ai, .ref at_, .int (iI 0), .int (iI (rs : Int))])), (ai, .inl (cA, 24000, .inl (iA fI))), (at_, .inl (cA, 13, .inl (iA (fun _ => 0)))), (aw, .inl (cA, cs, .inl (iA (fun _ => 0))))]) hP hD hS hA [10] [0, 1, 2, 3, 4, 5, 6, 7, 8, 9] rfl rfl (by decide) (by decide) (va_runIN (As := [.int (iI ((((cs + 1) / 2) * rs : Nat) : Int))]) (rest := [.ref pl, .ref wr]) ⟨hx, hb, hml, hown, hts⟩ (c_RunList_init l D cA cB cS pl (((cs + 1) / 2) * rs) (by omega) _) ⟨(va_cnB 1 hts (gIn vm_62) rfl rfl rfl (hN _ vn_7) (hts _ (List.mem_cons_of_mem _ vm_7)) (by decide +kernel) ⟨Nat.le_of_ble_eq_true rfl, Nat.le_of_ble_eq_true rfl⟩), rfl, (hts _ (List.mem_cons_of_mem _ vm_61))⟩ (pW.pre (hP.sub [10] rfl) (hD.sub [10] (by decide) rfl) hKW) rfl rfl hl.1 rfl (lv_room (Nat.le_of_ble_eq_true rfl)) dW_init_117 ⟨Nat.le_of_ble_eq_true rfl, Nat.le_of_ble_eq_true rfl⟩) (fun u_6 H locs hz_5 hP hD hS => ?_)
  obtain ⟨ap, rfl⟩ : ∃ z_, z_ = u_6 := ⟨_, rfl⟩
  try dsimp only at hz_5
  refine W.widen (k := 11) (n := 134872) (by omega) (by omega) ?_
  have hP : va_P D vwCl [(wr, .inr (0, [.int (iI (cs : Int)), .int (iI (rs : Int)), .ref ag, .ref oo, .ref cp, .ref aw, .null])), (ag, .inl (cA, cs * rs, .inl (iA fG))), (oo, .inr (1, [.ref ax, .ref ay, .ref an, .int (iI 0), .int (iI 0)])), (ax, .inl (cA, 4096, .inl (iA (fun _ => 0)))), (ay, .inl (cA, 4096, .inl (iA (fun _ => 0)))), (an, .inl (cA, 4096, .inl (iA (fun _ => 0)))), (cp, .inr (2, [.ref ai, .ref at_, .int (iI 0), .int (iI (rs : Int))])), (ai, .inl (cA, 24000, .inl (iA fI))), (at_, .inl (cA, 13, .inl (iA (fun _ => 0)))), (aw, .inl (cA, cs, .inl (iA (fun _ => 0)))), (pl, .inr (3, [.ref ap, .int (iI 0)])), (ap, .inl (cA, ((cs + 1) / 2) * rs, .inl (iA (fun _ => 0))))] H := hP
  have hD : va_D A [(wr, .inr (0, [.int (iI (cs : Int)), .int (iI (rs : Int)), .ref ag, .ref oo, .ref cp, .ref aw, .null])), (ag, .inl (cA, cs * rs, .inl (iA fG))), (oo, .inr (1, [.ref ax, .ref ay, .ref an, .int (iI 0), .int (iI 0)])), (ax, .inl (cA, 4096, .inl (iA (fun _ => 0)))), (ay, .inl (cA, 4096, .inl (iA (fun _ => 0)))), (an, .inl (cA, 4096, .inl (iA (fun _ => 0)))), (cp, .inr (2, [.ref ai, .ref at_, .int (iI 0), .int (iI (rs : Int))])), (ai, .inl (cA, 24000, .inl (iA fI))), (at_, .inl (cA, 13, .inl (iA (fun _ => 0)))), (aw, .inl (cA, cs, .inl (iA (fun _ => 0)))), (pl, .inr (3, [.ref ap, .int (iI 0)])), (ap, .inl (cA, ((cs + 1) / 2) * rs, .inl (iA (fun _ => 0))))] := hD
  refine va_putF (ci := 0) (v := .ref pl) (ty := (.object "WindingRaster$RunList")) (C := "WindingRaster") (T := TW) (N := 7) hx hb hts in_0 tW tW_ok nW hown hK hP hD hS 0 rfl rfl 6 (by decide) fl_59 (fun _ h9 => h9) rfl hin rfl (by decide +kernel) rfl rfl (Nat.le_of_ble_eq_true rfl) dW_init_120 (fun H locs hP hD hS => ?_)
  have hP : va_P D vwCl [(wr, .inr (0, [.int (iI (cs : Int)), .int (iI (rs : Int)), .ref ag, .ref oo, .ref cp, .ref aw, .ref pl])), (ag, .inl (cA, cs * rs, .inl (iA fG))), (oo, .inr (1, [.ref ax, .ref ay, .ref an, .int (iI 0), .int (iI 0)])), (ax, .inl (cA, 4096, .inl (iA (fun _ => 0)))), (ay, .inl (cA, 4096, .inl (iA (fun _ => 0)))), (an, .inl (cA, 4096, .inl (iA (fun _ => 0)))), (cp, .inr (2, [.ref ai, .ref at_, .int (iI 0), .int (iI (rs : Int))])), (ai, .inl (cA, 24000, .inl (iA fI))), (at_, .inl (cA, 13, .inl (iA (fun _ => 0)))), (aw, .inl (cA, cs, .inl (iA (fun _ => 0)))), (pl, .inr (3, [.ref ap, .int (iI 0)])), (ap, .inl (cA, ((cs + 1) / 2) * rs, .inl (iA (fun _ => 0))))] H := hP
  have hD : va_D A [(wr, .inr (0, [.int (iI (cs : Int)), .int (iI (rs : Int)), .ref ag, .ref oo, .ref cp, .ref aw, .ref pl])), (ag, .inl (cA, cs * rs, .inl (iA fG))), (oo, .inr (1, [.ref ax, .ref ay, .ref an, .int (iI 0), .int (iI 0)])), (ax, .inl (cA, 4096, .inl (iA (fun _ => 0)))), (ay, .inl (cA, 4096, .inl (iA (fun _ => 0)))), (an, .inl (cA, 4096, .inl (iA (fun _ => 0)))), (cp, .inr (2, [.ref ai, .ref at_, .int (iI 0), .int (iI (rs : Int))])), (ai, .inl (cA, 24000, .inl (iA fI))), (at_, .inl (cA, 13, .inl (iA (fun _ => 0)))), (aw, .inl (cA, cs, .inl (iA (fun _ => 0)))), (pl, .inr (3, [.ref ap, .int (iI 0)])), (ap, .inl (cA, ((cs + 1) / 2) * rs, .inl (iA (fun _ => 0))))] := hD
  rw [← hQ]
  exact wr_vret (ag, oo, ax, ay, an, cp, ai, at_, aw, pl, ap, fG, fI) hx hb hr hlocks hAe (hP.sub [0, 1, 2, 3, 4, 5, 6, 7, 8, 9, 10, 11] rfl) (hD.sub [0, 1, 2, 3, 4, 5, 6, 7, 8, 9, 10, 11] (by decide) rfl) hS ⟨hzf, hzc⟩ dW_init_123
