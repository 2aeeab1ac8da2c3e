theorem relG_0 {cs rs : Nat} {fG fB : Nat → Int} (hcs : 0 < cs ∧ cs ≤ 256) (hrs : 0 < rs ∧ rs ≤ 256) (hG : ∀ p, p < cs * rs → fG p = 255) (hB : ∀ q, q < 65536 → fB q = -1) : relG cs rs fG fB := by
  refine ⟨fun r k hr hk => ?_, fun p hp => by rw [hG p hp]; omega⟩
  have h1 := idx_le (cs := cs) hr
  rw [hG _ (by omega), hB _ (by omega)]
  rfl
theorem relC_0 {cs rs : Nat} {fI fM : Nat → Int} (hcs : 0 < cs ∧ cs ≤ 256) (hrs : 0 < rs ∧ rs ≤ 256) (hI : ∀ k : Nat, k < rs → fI k = ((enc (k, 0, cs) : Nat) : Int)) (hM : ∀ q, q < 65536 → fM q = 1) : relC cs rs fI (fun _ => 0) 0 rs fM := by
  have e0 : canJ fM cs rs 0 = canP (fun _ _ => true) cs rs 0 := canP_congr cs rs 0 (fun r k _ w2 w3 => by
    show (fM (256 * r + k)).toNat.testBit 0 = true
    rw [hM _ (by omega)]
    rfl)
  obtain ⟨s1, s2⟩ := canP_all (f := fI) hcs.1 rs 0 (fun k _ hk => hI k (by omega))
  refine ⟨by omega, fun p hp => by rw [hM p hp]; omega, fun j hj => ?_, ?_, by omega, fun j hj => ?_⟩
  · rw [show j = 0 by omega]; rfl
  · show rs = 0 + (canJ fM cs rs 0).length
    rw [e0, s2, Nat.zero_add]
  · rw [show j = 0 by omega, e0]; exact s1
theorem nest_tab {w : Cond} (h : isNest w = true) : w.onTables = true := by
  cases w <;> first | exact (Bool.false_ne_true h).elim | rfl
theorem arr_known {s : State} {args : Array Value} {ty : FieldType} (hp : va_RA s = va_RA s) (h : (Cond.arrayClass ty).before args s = true) : ∃ cA : ClassId, ArrOfT s cA ty ∧ s.vm.findClass ("[" ++ ty.toString) = some cA := by
  obtain ⟨cA, kA, comp, h1, h2, h3⟩ := Cond.arrayClass_spec h
  exact ⟨cA, fun n z => ⟨fun k h => (by cases h), kA, h2, comp, h3⟩, h1⟩

set_option maxHeartbeats 4000000 in
set_option maxRecDepth 100000 in
theorem whole_start {p : Program} {e : Env} {s : State} {m : MethodId} {below : List Frame} {meth : Method} {c : Code} (l : Launch) {b L : Nat} {xs : Nat → Int32} (hL : L ≤ 1538) (C0 : lw_At p s m meth c b L xs) : W p l e room_1 s m #[Value.ref b] below meth c s.heap [] 0 0 (lw_Z below #[Value.ref b] s) (entryFrame m ([Value.ref b] : List Value).toArray 4) := by
  obtain ⟨hx, hb, hr, hml, hown, hts, hX, hbl, hlocks, hgv⟩ := id C0
  obtain ⟨A, hAe⟩ : ∃ A : Nat → Prop, A = fun q : Nat => s.heap.size ≤ q := ⟨_, rfl⟩
  have hA : ∀ q : Nat, s.heap.size ≤ q → A q := fun q h => by rw [hAe]; exact h
  have hAo : ∀ q : Nat, A q → s.heap.size ≤ q := fun q h => by rw [hAe] at h; exact h
  have hbA : ¬ A b := fun h => absurd (hAo b h) (Nat.not_le.mpr hbl)
  obtain ⟨k0, iS0, hKn0⟩ := u_known (C := "WindingRaster") (T := TW) (N := 7) (n := 7) hts (fun w h => vwB_law _ (in0_W w h)) (hts _ (vwB_law _ vm_11))
  obtain ⟨k1, iS1, hKn1⟩ := u_known (C := "WindingRaster$Outline") (T := TO) (N := 5) (n := 5) hts (fun w h => vwB_law _ (in0_O w h)) (hts _ (vwB_law _ vm_28))
  obtain ⟨k2, iS2, hKn2⟩ := u_known (C := "WindingRaster$ClipPile") (T := TC) (N := 4) (n := 4) hts (fun w h => vwB_law _ (in0_C w h)) (hts _ (vwB_law _ vm_44))
  obtain ⟨k3, iS3, hKn3⟩ := u_known (C := "WindingRaster$RunList") (T := TL) (N := 2) (n := 2) hts (fun w h => vwB_law _ (in0_L w h)) (hts _ (vwB_law _ vm_60))
  obtain ⟨k4, iS4, hKn4⟩ := u_known (C := "WindingRasterModel") (T := TM) (N := 11) (n := 11) hts (fun w h => vwB_law _ (in0_M w h)) (hts _ (vwB_law _ vm_252))
  obtain ⟨D, hKc⟩ : ∃ D : va_G, ∀ (k : Nat) (q : vw_C), vwCl[k]? = some q → u_Kn s q.1 q.2.1 q.2.2 (D.1 k) (D.2 k) := by
    refine ⟨(fun k => if k = 0 then k0 else if k = 1 then k1 else if k = 2 then k2 else if k = 3 then k3 else k4, fun k => if k = 0 then iS0 else if k = 1 then iS1 else if k = 2 then iS2 else if k = 3 then iS3 else iS4), ?_⟩
    intro k q hq
    match k, hq with
    | 0, hq => cases hq; exact hKn0
    | 1, hq => cases hq; exact hKn1
    | 2, hq => cases hq; exact hKn2
    | 3, hq => cases hq; exact hKn3
    | 4, hq => cases hq; exact hKn4
    | k + 5, hq => simp [vwCl] at hq
  obtain ⟨cA, hacA, hncA⟩ := arr_known (s := s) rfl (hts _ (vwB_law _ vm_42))
  obtain ⟨cB, hacB, hncB⟩ := arr_known (s := s) rfl (hts _ (vwB_law _ vm_283))
  obtain ⟨cS, hacS, hncS⟩ := arr_known (s := s) rfl (hts _ (vwB_law _ vm_284))
  have hK : va_K D vwCl (vwTy cA cB cS) s := by
    refine ⟨hKc, fun k q h => ?_⟩
    match k, h with
    | 0, h => cases h; exact ⟨hacA, hncA⟩
    | 1, h => cases h; exact ⟨hacB, hncB⟩
    | 2, h => cases h; exact ⟨hacS, hncS⟩
    | k + 3, h => simp [vwTy] at h
  have hNk : vwNw.all isNest = true := by decide +kernel
  have hKW : KW D vwCl (vwTy cA cB cS) vwNw s := ⟨hK, hNk, fun w hw => va_Nw.of (nest_tab (List.all_eq_true.mp hNk w hw)) (hts w (vwNw_law w hw))⟩
  obtain ⟨cs, hc1⟩ : ∃ cs : Nat, (cs : Int) = max 1 (min 256 (clZ xs L 0)) := ⟨(max 1 (min 256 (clZ xs L 0))).toNat, by omega⟩
  obtain ⟨rs, hr1⟩ : ∃ rs : Nat, (rs : Int) = max 1 (min 256 (clZ xs L 1)) := ⟨(max 1 (min 256 (clZ xs L 1))).toNat, by omega⟩
  have hcs : 0 < cs ∧ cs ≤ 256 := by omega
  have hrs : 0 < rs ∧ rs ≤ 256 := by omega
  have hS : va_S A s.heap s.heap [] := va_S.rf
  have hP : va_P D vwCl [] s.heap := fun k q h => by simp at h
  have hD : va_D A [] := ⟨fun i j p q h => by simp at h, fun k q h => by simp at h⟩
  have hl := lv_entry ([.ref b]) (n := 4) (Nat.le_of_ble_eq_true rfl)
  rw [lg_entry_eq]
  generalize (lg_sl ([.ref b]) ++ List.replicate (4 - (lg_sl ([.ref b])).length) Slot.unset).toArray = ls at hl ⊢
  have hl : lv_has ls 4 [(0, .ref b)] := hl
  have in_0 : ∀ w ∈ wsW, w ∈ lw_tbl := fun w h => vwB_law _ (in0_W w h)
  have in_4 : ∀ w ∈ wsM, w ∈ lw_tbl := fun w h => vwB_law _ (in0_M w h)
  refine va_new (ci := 0) (fs := [.int (iI 0), .int (iI 0), .null, .null, .null, .null, .null]) (C := "WindingRaster") (T := TW) (N := 7) hx hb hts in_0 tW tW_ok hown (hts _ (vwB_law _ vm_10)) (hts _ (vwB_law _ vm_11)) (hts _ (vwB_law _ vm_1)) hK hP hD hS hA rfl (fun j hj => by rcases (show j = 0 ∨ j = 1 ∨ j = 2 ∨ j = 3 ∨ j = 4 ∨ j = 5 ∨ j = 6 by omega) with rfl | rfl | rfl | rfl | rfl | rfl | rfl <;> rfl) (Nat.le_of_ble_eq_true rfl) (Nat.le_of_ble_eq_true rfl) dLW_law_0 (fun wr H hP hD hS => ?_)
  refine W.widen (k := 1) (n := 7) (by omega) (by omega) ?_
  have hP : va_P D vwCl [(wr, .inr (0, [.int (iI 0), .int (iI 0), .null, .null, .null, .null, .null]))] H := hP
  have hD : va_D A [(wr, .inr (0, [.int (iI 0), .int (iI 0), .null, .null, .null, .null, .null]))] := hD
  refine lv_dup hx hb dLW_law_3 rfl ?_
  refine lv_aload_n hx hb dLW_law_4 rfl (lv_at hl 0 rfl) ?_
  refine ii_iconst (n := 0) hx hb dLW_law_5 ?_
  refine cs_i (va_runS (As := [.ref b, .int (iI 0)]) (rest := [.ref wr, .ref wr]) ⟨hx, hb, hml, hown, hts⟩ (c_cell l b L xs 0 (by omega) (by omega)) ⟨(callB_of 2 hts (gInL vm_250) rfl rfl rfl (hts _ (vwB_law _ vm_0)) (hts _ (vwB_law _ vm_248)) (by decide +kernel) ⟨Nat.le_of_ble_eq_true rfl, Nat.le_of_ble_eq_true rfl⟩), (hts _ (vwB_law _ vm_249))⟩ (cell_pre hX hbl hbA hS) rfl rfl hl.1 rfl (lv_room (Nat.le_of_ble_eq_true rfl)) dLW_law_6 ⟨Nat.le_of_ble_eq_true rfl, Nat.le_of_ble_eq_true rfl⟩) (fun zc_1 hzc_1 => ?_)
  subst hzc_1
  refine lv_aload_n hx hb dLW_law_9 rfl (lv_at hl 0 rfl) ?_
  refine ii_iconst (n := 1) hx hb dLW_law_10 ?_
  refine cs_i (va_runS (As := [.ref b, .int (iI 1)]) (rest := [.int (iI (clZ xs L 0)), .ref wr, .ref wr]) ⟨hx, hb, hml, hown, hts⟩ (c_cell l b L xs 1 (by omega) (by omega)) ⟨(callB_of 2 hts (gInL vm_250) rfl rfl rfl (hts _ (vwB_law _ vm_0)) (hts _ (vwB_law _ vm_248)) (by decide +kernel) ⟨Nat.le_of_ble_eq_true rfl, Nat.le_of_ble_eq_true rfl⟩), (hts _ (vwB_law _ vm_249))⟩ (cell_pre hX hbl hbA hS) rfl rfl hl.1 rfl (lv_room (Nat.le_of_ble_eq_true rfl)) dLW_law_11 ⟨Nat.le_of_ble_eq_true rfl, Nat.le_of_ble_eq_true rfl⟩) (fun zc_2 hzc_2 => ?_)
  subst hzc_2
  refine cw_v (wc := [(wr, .inr (0, [.int (iI 0), .int (iI 0), .null, .null, .null, .null, .null]))]) (wr := []) hP hD hS hA [0] [] rfl rfl (by decide) (by decide) (va_runI (As := [.int (iI (clZ xs L 0)), .int (iI (clZ xs L 1))]) (rest := [.ref wr]) ⟨hx, hb, hml, hown, hts⟩ (c_WR_init l D cA cB cS wr (clZ xs L 0) (clZ xs L 1) cs rs (clZ_rng _ _ _) (clZ_rng _ _ _) hc1 hr1 _) ⟨(callB_of 2 hts (gInL vm_14) rfl rfl rfl (hts _ (vwB_law _ vm_1)) (hts _ (vwB_law _ vm_12)) (by decide +kernel) ⟨Nat.le_of_ble_eq_true rfl, Nat.le_of_ble_eq_true rfl⟩), rfl, (hts _ (vwB_law _ vm_13))⟩ (pW.pre (hP.sub [0] rfl) (hD.sub [0] (by decide) rfl) hKW) rfl rfl hl.1 rfl (lv_room (Nat.le_of_ble_eq_true rfl)) dLW_law_14 ⟨Nat.le_of_ble_eq_true rfl, Nat.le_of_ble_eq_true rfl⟩) (fun u_3 H locs hzi hP hD hS => ?_)
  obtain ⟨ag, oo, ax, ay, an, cp, ai, at_, aw, pl, ap, fG, fI⟩ := u_3
  try dsimp only at hzi
  refine W.widen (k := 12) (n := 134879) (by omega) (by omega) ?_
  have hP : va_P D vwCl [(wr, .inr (0, [.int (iI (cs : Int)), .int (iI (rs : Int)), .ref ag, .ref oo, .ref cp, .ref aw, .ref pl])), (ag, .inl (cA, cs * rs, .inl (iA fG))), (oo, .inr (1, [.ref ax, .ref ay, .ref an, .int (iI 0), .int (iI 0)])), (ax, .inl (cA, 4096, .inl (iA (fun _ => 0)))), (ay, .inl (cA, 4096, .inl (iA (fun _ => 0)))), (an, .inl (cA, 4096, .inl (iA (fun _ => 0)))), (cp, .inr (2, [.ref ai, .ref at_, .int (iI 0), .int (iI (rs : Int))])), (ai, .inl (cA, 24000, .inl (iA fI))), (at_, .inl (cA, 13, .inl (iA (fun _ => 0)))), (aw, .inl (cA, cs, .inl (iA (fun _ => 0)))), (pl, .inr (3, [.ref ap, .int (iI 0)])), (ap, .inl (cA, (cs + 1) / 2 * rs, .inl (iA (fun _ => 0))))] H := hP
  have hD : va_D A [(wr, .inr (0, [.int (iI (cs : Int)), .int (iI (rs : Int)), .ref ag, .ref oo, .ref cp, .ref aw, .ref pl])), (ag, .inl (cA, cs * rs, .inl (iA fG))), (oo, .inr (1, [.ref ax, .ref ay, .ref an, .int (iI 0), .int (iI 0)])), (ax, .inl (cA, 4096, .inl (iA (fun _ => 0)))), (ay, .inl (cA, 4096, .inl (iA (fun _ => 0)))), (an, .inl (cA, 4096, .inl (iA (fun _ => 0)))), (cp, .inr (2, [.ref ai, .ref at_, .int (iI 0), .int (iI (rs : Int))])), (ai, .inl (cA, 24000, .inl (iA fI))), (at_, .inl (cA, 13, .inl (iA (fun _ => 0)))), (aw, .inl (cA, cs, .inl (iA (fun _ => 0)))), (pl, .inr (3, [.ref ap, .int (iI 0)])), (ap, .inl (cA, (cs + 1) / 2 * rs, .inl (iA (fun _ => 0))))] := hD
  refine lv_astore_n (lv' := [(1, .ref wr), (0, .ref b)]) hx hb dLW_law_17 rfl hl (by decide) rfl (fun ls hl => ?_)
  refine va_new (ci := 4) (fs := [.int (iI 0), .int (iI 0), .null, .null, .int (iI 0), .null, .null, .null, .int (iI 0), .null, .int (iI 0)]) (C := "WindingRasterModel") (T := TM) (N := 11) hx hb hts in_4 tM tM_ok hown (hts _ (vwB_law _ vm_251)) (hts _ (vwB_law _ vm_252)) (hts _ (vwB_law _ vm_8)) hK hP hD hS hA rfl (fun j hj => by rcases (show j = 0 ∨ j = 1 ∨ j = 2 ∨ j = 3 ∨ j = 4 ∨ j = 5 ∨ j = 6 ∨ j = 7 ∨ j = 8 ∨ j = 9 ∨ j = 10 by omega) with rfl | rfl | rfl | rfl | rfl | rfl | rfl | rfl | rfl | rfl | rfl <;> rfl) (Nat.le_of_ble_eq_true rfl) (Nat.le_of_ble_eq_true rfl) dLW_law_18 (fun mo H hP hD hS => ?_)
  refine W.widen (k := 13) (n := 134890) (by omega) (by omega) ?_
  have hP : va_P D vwCl [(wr, .inr (0, [.int (iI (cs : Int)), .int (iI (rs : Int)), .ref ag, .ref oo, .ref cp, .ref aw, .ref pl])), (ag, .inl (cA, cs * rs, .inl (iA fG))), (oo, .inr (1, [.ref ax, .ref ay, .ref an, .int (iI 0), .int (iI 0)])), (ax, .inl (cA, 4096, .inl (iA (fun _ => 0)))), (ay, .inl (cA, 4096, .inl (iA (fun _ => 0)))), (an, .inl (cA, 4096, .inl (iA (fun _ => 0)))), (cp, .inr (2, [.ref ai, .ref at_, .int (iI 0), .int (iI (rs : Int))])), (ai, .inl (cA, 24000, .inl (iA fI))), (at_, .inl (cA, 13, .inl (iA (fun _ => 0)))), (aw, .inl (cA, cs, .inl (iA (fun _ => 0)))), (pl, .inr (3, [.ref ap, .int (iI 0)])), (ap, .inl (cA, (cs + 1) / 2 * rs, .inl (iA (fun _ => 0)))), (mo, .inr (4, [.int (iI 0), .int (iI 0), .null, .null, .int (iI 0), .null, .null, .null, .int (iI 0), .null, .int (iI 0)]))] H := hP
  have hD : va_D A [(wr, .inr (0, [.int (iI (cs : Int)), .int (iI (rs : Int)), .ref ag, .ref oo, .ref cp, .ref aw, .ref pl])), (ag, .inl (cA, cs * rs, .inl (iA fG))), (oo, .inr (1, [.ref ax, .ref ay, .ref an, .int (iI 0), .int (iI 0)])), (ax, .inl (cA, 4096, .inl (iA (fun _ => 0)))), (ay, .inl (cA, 4096, .inl (iA (fun _ => 0)))), (an, .inl (cA, 4096, .inl (iA (fun _ => 0)))), (cp, .inr (2, [.ref ai, .ref at_, .int (iI 0), .int (iI (rs : Int))])), (ai, .inl (cA, 24000, .inl (iA fI))), (at_, .inl (cA, 13, .inl (iA (fun _ => 0)))), (aw, .inl (cA, cs, .inl (iA (fun _ => 0)))), (pl, .inr (3, [.ref ap, .int (iI 0)])), (ap, .inl (cA, (cs + 1) / 2 * rs, .inl (iA (fun _ => 0)))), (mo, .inr (4, [.int (iI 0), .int (iI 0), .null, .null, .int (iI 0), .null, .null, .null, .int (iI 0), .null, .int (iI 0)]))] := hD
  refine lv_dup hx hb dLW_law_21 rfl ?_
  refine lv_aload_n hx hb dLW_law_22 rfl (lv_at hl 1 rfl) ?_
  refine ii_iconst (n := 0) hx hb dLW_law_23 ?_
  refine cs_i (va_runS (As := [.ref b, .int (iI 0)]) (rest := [.ref mo, .ref mo]) ⟨hx, hb, hml, hown, hts⟩ (c_cell l b L xs 0 (by omega) (by omega)) ⟨(callB_of 2 hts (gInL vm_250) rfl rfl rfl (hts _ (vwB_law _ vm_0)) (hts _ (vwB_law _ vm_248)) (by decide +kernel) ⟨Nat.le_of_ble_eq_true rfl, Nat.le_of_ble_eq_true rfl⟩), (hts _ (vwB_law _ vm_249))⟩ (cell_pre hX hbl hbA hS) rfl rfl hl.1 rfl (lv_room (Nat.le_of_ble_eq_true rfl)) dLW_law_24 ⟨Nat.le_of_ble_eq_true rfl, Nat.le_of_ble_eq_true rfl⟩) (fun zc_4 hzc_4 => ?_)
  subst hzc_4
  refine lv_aload_n hx hb dLW_law_27 rfl (lv_at hl 1 rfl) ?_
  refine ii_iconst (n := 1) hx hb dLW_law_28 ?_
  refine cs_i (va_runS (As := [.ref b, .int (iI 1)]) (rest := [.int (iI (clZ xs L 0)), .ref mo, .ref mo]) ⟨hx, hb, hml, hown, hts⟩ (c_cell l b L xs 1 (by omega) (by omega)) ⟨(callB_of 2 hts (gInL vm_250) rfl rfl rfl (hts _ (vwB_law _ vm_0)) (hts _ (vwB_law _ vm_248)) (by decide +kernel) ⟨Nat.le_of_ble_eq_true rfl, Nat.le_of_ble_eq_true rfl⟩), (hts _ (vwB_law _ vm_249))⟩ (cell_pre hX hbl hbA hS) rfl rfl hl.1 rfl (lv_room (Nat.le_of_ble_eq_true rfl)) dLW_law_29 ⟨Nat.le_of_ble_eq_true rfl, Nat.le_of_ble_eq_true rfl⟩) (fun zc_5 hzc_5 => ?_)
  subst hzc_5
  refine cw_v (wc := [(mo, .inr (4, [.int (iI 0), .int (iI 0), .null, .null, .int (iI 0), .null, .null, .null, .int (iI 0), .null, .int (iI 0)]))]) (wr := [(wr, .inr (0, [.int (iI (cs : Int)), .int (iI (rs : Int)), .ref ag, .ref oo, .ref cp, .ref aw, .ref pl])), (ag, .inl (cA, cs * rs, .inl (iA fG))), (oo, .inr (1, [.ref ax, .ref ay, .ref an, .int (iI 0), .int (iI 0)])), (ax, .inl (cA, 4096, .inl (iA (fun _ => 0)))), (ay, .inl (cA, 4096, .inl (iA (fun _ => 0)))), (an, .inl (cA, 4096, .inl (iA (fun _ => 0)))), (cp, .inr (2, [.ref ai, .ref at_, .int (iI 0), .int (iI (rs : Int))])), (ai, .inl (cA, 24000, .inl (iA fI))), (at_, .inl (cA, 13, .inl (iA (fun _ => 0)))), (aw, .inl (cA, cs, .inl (iA (fun _ => 0)))), (pl, .inr (3, [.ref ap, .int (iI 0)])), (ap, .inl (cA, (cs + 1) / 2 * rs, .inl (iA (fun _ => 0))))]) hP hD hS hA [12] [0, 1, 2, 3, 4, 5, 6, 7, 8, 9, 10, 11] rfl rfl (by decide) (by decide) (va_runI (As := [.int (iI (clZ xs L 0)), .int (iI (clZ xs L 1))]) (rest := [.ref mo]) ⟨hx, hb, hml, hown, hts⟩ (m_init l D cA cB cS mo (clZ xs L 0) (clZ xs L 1) cs rs (clZ_rng _ _ _) (clZ_rng _ _ _) hc1 hr1 _) ⟨(callB_of 2 hts (gInL vm_255) rfl rfl rfl (hts _ (vwB_law _ vm_8)) (hts _ (vwB_law _ vm_253)) (by decide +kernel) ⟨Nat.le_of_ble_eq_true rfl, Nat.le_of_ble_eq_true rfl⟩), rfl, (hts _ (vwB_law _ vm_254))⟩ (pW.pre (hP.sub [12] rfl) (hD.sub [12] (by decide) rfl) hKW) rfl rfl hl.1 rfl (lv_room (Nat.le_of_ble_eq_true rfl)) dLW_law_32 ⟨Nat.le_of_ble_eq_true rfl, Nat.le_of_ble_eq_true rfl⟩) (fun u_6 H locs hzm hP hD hS => ?_)
  obtain ⟨mg, mm, mx, my, mf, mt, fB, fM⟩ := u_6
  try dsimp only at hzm
  refine W.widen (k := 19) (n := 282346) (by omega) (by omega) ?_
  have hP : va_P D vwCl [(wr, .inr (0, [.int (iI (cs : Int)), .int (iI (rs : Int)), .ref ag, .ref oo, .ref cp, .ref aw, .ref pl])), (ag, .inl (cA, cs * rs, .inl (iA fG))), (oo, .inr (1, [.ref ax, .ref ay, .ref an, .int (iI 0), .int (iI 0)])), (ax, .inl (cA, 4096, .inl (iA (fun _ => 0)))), (ay, .inl (cA, 4096, .inl (iA (fun _ => 0)))), (an, .inl (cA, 4096, .inl (iA (fun _ => 0)))), (cp, .inr (2, [.ref ai, .ref at_, .int (iI 0), .int (iI (rs : Int))])), (ai, .inl (cA, 24000, .inl (iA fI))), (at_, .inl (cA, 13, .inl (iA (fun _ => 0)))), (aw, .inl (cA, cs, .inl (iA (fun _ => 0)))), (pl, .inr (3, [.ref ap, .int (iI 0)])), (ap, .inl (cA, (cs + 1) / 2 * rs, .inl (iA (fun _ => 0)))), (mo, .inr (4, [.int (iI (cs : Int)), .int (iI (rs : Int)), .ref mg, .ref mm, .int (iI 0), .ref mx, .ref my, .ref mf, .int (iI 0), .ref mt, .int (iI 0)])), (mg, .inl (cB, 65536, .inl (iA fB))), (mm, .inl (cS, 65536, .inl (iA fM))), (mx, .inl (cA, 4096, .inl (iA (fun _ => 0)))), (my, .inl (cA, 4096, .inl (iA (fun _ => 0)))), (mf, .inl (cA, 4096, .inl (iA (fun _ => 0)))), (mt, .inl (cA, 4096, .inl (iA (fun _ => 0))))] H := hP
  have hD : va_D A [(wr, .inr (0, [.int (iI (cs : Int)), .int (iI (rs : Int)), .ref ag, .ref oo, .ref cp, .ref aw, .ref pl])), (ag, .inl (cA, cs * rs, .inl (iA fG))), (oo, .inr (1, [.ref ax, .ref ay, .ref an, .int (iI 0), .int (iI 0)])), (ax, .inl (cA, 4096, .inl (iA (fun _ => 0)))), (ay, .inl (cA, 4096, .inl (iA (fun _ => 0)))), (an, .inl (cA, 4096, .inl (iA (fun _ => 0)))), (cp, .inr (2, [.ref ai, .ref at_, .int (iI 0), .int (iI (rs : Int))])), (ai, .inl (cA, 24000, .inl (iA fI))), (at_, .inl (cA, 13, .inl (iA (fun _ => 0)))), (aw, .inl (cA, cs, .inl (iA (fun _ => 0)))), (pl, .inr (3, [.ref ap, .int (iI 0)])), (ap, .inl (cA, (cs + 1) / 2 * rs, .inl (iA (fun _ => 0)))), (mo, .inr (4, [.int (iI (cs : Int)), .int (iI (rs : Int)), .ref mg, .ref mm, .int (iI 0), .ref mx, .ref my, .ref mf, .int (iI 0), .ref mt, .int (iI 0)])), (mg, .inl (cB, 65536, .inl (iA fB))), (mm, .inl (cS, 65536, .inl (iA fM))), (mx, .inl (cA, 4096, .inl (iA (fun _ => 0)))), (my, .inl (cA, 4096, .inl (iA (fun _ => 0)))), (mf, .inl (cA, 4096, .inl (iA (fun _ => 0)))), (mt, .inl (cA, 4096, .inl (iA (fun _ => 0))))] := hD
  refine lv_astore_n (lv' := [(2, .ref mo), (1, .ref wr), (0, .ref b)]) hx hb dLW_law_35 rfl hl (by decide) rfl (fun ls hl => ?_)
  refine ii_iconst (n := 2) hx hb dLW_law_36 ?_
  refine lv_istore_n (lv' := [(3, .int (iI 2)), (2, .ref mo), (1, .ref wr), (0, .ref b)]) hx hb dLW_law_37 rfl hl (by decide) rfl (fun ls hl => ?_)
  exact law_loop hL C0 hA hbA hAo hKW hcs hrs wr ag oo ax ay an cp ai at_ aw pl ap mo mg mm mx my mf mt (L + 5) 2 (by omega) (by omega) fG (fun _ => 0) (fun _ => 0) (fun _ => 0) 0 0 fI (fun _ => 0) 0 rs (fun _ => 0) (fun _ => 0) 0 fB fM (fun _ => 0) (fun _ => 0) (fun _ => 0) (fun _ => 0) 0 (relO_0 _ _ _ _ _ _) (relC_0 hcs hrs hzi.2 hzm.2) (relG_0 hcs hrs hzi.1 hzm.1) _ _ (hP.sub [0, 1, 2, 3, 4, 5, 6, 7, 8, 9, 10, 11, 12, 13, 14, 15, 16, 17, 18] rfl) (hD.sub [0, 1, 2, 3, 4, 5, 6, 7, 8, 9, 10, 11, 12, 13, 14, 15, 16, 17, 18] (by decide) rfl) hS _ (lv_sub hl [0, 3, 2, 1] rfl)
