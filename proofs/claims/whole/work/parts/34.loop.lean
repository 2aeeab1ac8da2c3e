set_option maxHeartbeats 4000000 in
set_option maxRecDepth 100000 in
theorem law_loop {p : Program} {l : Launch} {e : Env} {s : State} {m : MethodId} {below : List Frame} {meth : Method} {c : Code} {D : va_G} {cA cB cS : ClassId} {A : Nat → Prop} {b L : Nat} {xs : Nat → Int32} (hL : L ≤ 1538) (C0 : lw_At p s m meth c b L xs) (hA : ∀ q : Nat, s.heap.size ≤ q → A q) (hbA : ¬ A b) (hAo : ∀ q : Nat, A q → s.heap.size ≤ q) (hKW : KW D vwCl (vwTy cA cB cS) vwNw s) {cs rs : Nat} (hcs : 0 < cs ∧ cs ≤ 256) (hrs : 0 < rs ∧ rs ≤ 256) (wr ag oo ax ay an cp ai at_ aw pl ap mo mg mm mx my mf mt : Nat) : ∀ (n_ i : Nat), i ≤ L + 3 → L + 4 - i < n_ → ∀ (fG : Nat → Int) (fX : Nat → Int) (fY : Nat → Int) (fN : Nat → Int) (np : Nat) (l0 : Nat) (fI : Nat → Int) (fS : Nat → Int) (sv : Nat) (en : Nat) (fW : Nat → Int) (fP : Nat → Int) (pn : Nat) (fB : Nat → Int) (fM : Nat → Int) (gX : Nat → Int) (gY : Nat → Int) (gF : Nat → Int) (gT : Nat → Int) (me : Nat), relO fX fY fN gX gY gF np l0 → relC cs rs fI fS sv en fM → relG cs rs fG fB → ∀ (H : Heap) (locs : List Loc), va_P D vwCl [(wr, .inr (0, [.int (iI (cs : Int)), .int (iI (rs : Int)), .ref ag, .ref oo, .ref cp, .ref aw, .ref pl])), (ag, .inl (cA, cs * rs, .inl (iA fG))), (oo, .inr (1, [.ref ax, .ref ay, .ref an, .int (iI (np : Int)), .int (iI (l0 : Int))])), (ax, .inl (cA, 4096, .inl (iA fX))), (ay, .inl (cA, 4096, .inl (iA fY))), (an, .inl (cA, 4096, .inl (iA fN))), (cp, .inr (2, [.ref ai, .ref at_, .int (iI (sv : Int)), .int (iI (en : Int))])), (ai, .inl (cA, 24000, .inl (iA fI))), (at_, .inl (cA, 13, .inl (iA fS))), (aw, .inl (cA, cs, .inl (iA fW))), (pl, .inr (3, [.ref ap, .int (iI (pn : Int))])), (ap, .inl (cA, (cs + 1) / 2 * rs, .inl (iA fP))), (mo, .inr (4, [.int (iI (cs : Int)), .int (iI (rs : Int)), .ref mg, .ref mm, .int (iI (sv : Int)), .ref mx, .ref my, .ref mf, .int (iI (np : Int)), .ref mt, .int (iI (me : Int))])), (mg, .inl (cB, 65536, .inl (iA fB))), (mm, .inl (cS, 65536, .inl (iA fM))), (mx, .inl (cA, 4096, .inl (iA gX))), (my, .inl (cA, 4096, .inl (iA gY))), (mf, .inl (cA, 4096, .inl (iA gF))), (mt, .inl (cA, 4096, .inl (iA gT)))] H → va_D A [(wr, .inr (0, [.int (iI (cs : Int)), .int (iI (rs : Int)), .ref ag, .ref oo, .ref cp, .ref aw, .ref pl])), (ag, .inl (cA, cs * rs, .inl (iA fG))), (oo, .inr (1, [.ref ax, .ref ay, .ref an, .int (iI (np : Int)), .int (iI (l0 : Int))])), (ax, .inl (cA, 4096, .inl (iA fX))), (ay, .inl (cA, 4096, .inl (iA fY))), (an, .inl (cA, 4096, .inl (iA fN))), (cp, .inr (2, [.ref ai, .ref at_, .int (iI (sv : Int)), .int (iI (en : Int))])), (ai, .inl (cA, 24000, .inl (iA fI))), (at_, .inl (cA, 13, .inl (iA fS))), (aw, .inl (cA, cs, .inl (iA fW))), (pl, .inr (3, [.ref ap, .int (iI (pn : Int))])), (ap, .inl (cA, (cs + 1) / 2 * rs, .inl (iA fP))), (mo, .inr (4, [.int (iI (cs : Int)), .int (iI (rs : Int)), .ref mg, .ref mm, .int (iI (sv : Int)), .ref mx, .ref my, .ref mf, .int (iI (np : Int)), .ref mt, .int (iI (me : Int))])), (mg, .inl (cB, 65536, .inl (iA fB))), (mm, .inl (cS, 65536, .inl (iA fM))), (mx, .inl (cA, 4096, .inl (iA gX))), (my, .inl (cA, 4096, .inl (iA gY))), (mf, .inl (cA, 4096, .inl (iA gF))), (mt, .inl (cA, 4096, .inl (iA gT)))] → va_S A s.heap H locs → ∀ ls : Array Slot, lv_has ls 4 [(3, .int (iI (i : Int))), (0, .ref b), (1, .ref wr), (2, .ref mo)] → W p l e room_1 s m #[Value.ref b] below meth c H locs 19 282346 (lw_Z below #[Value.ref b] s) (F0 m 38 ls []) := by
  have hK := hKW.1
  obtain ⟨hx, hb, hr, hml, hown, hts, hX, hbl, hlocks, hgv⟩ := id C0
  intro n_
  induction n_ with
  | zero =>
    intro i hi hn
    exact absurd hn (Nat.not_lt_zero _)
  | succ n_ ih =>
    intro i hi hn fG fX fY fN np l0 fI fS sv en fW fP pn fB fM gX gY gF gT me rO rC rG H locs hP hD hS ls hl
    refine lv_iload_n hx hb dLW_law_38 rfl (lv_at hl 0 rfl) ?_
    refine lv_aload_n hx hb dLW_law_39 rfl (lv_at hl 1 rfl) ?_
    refine ii_slen hx hb hX hbl hbA hS dLW_law_40 ?_
    refine ii_iconst (n := 3) hx hb dLW_law_41 ?_
    refine ii_isub hx hb dLW_law_42 ?_
    refine ii_icmp_gt (tgt := 506) hx hb dLW_law_43 (by decide) (by omega) (by omega) (fun c43 => ?_) (fun c43 => ?_)
    · refine lv_iconst (v := 1) hx hb dLW_law_506 (by decide) ?_
      refine va_forget (fun q hq => hAo _ (hS.2.2 q hq)) ?_
      refine W.widen (k := 600000) (n := 7302250) (by decide) (by decide) ?_
      exact lw_ret hx hb hr hlocks dLW_law_507
    · have kk : ∀ (fG : Nat → Int) (fX : Nat → Int) (fY : Nat → Int) (fN : Nat → Int) (np : Nat) (l0 : Nat) (fI : Nat → Int) (fS : Nat → Int) (sv : Nat) (en : Nat) (fW : Nat → Int) (fP : Nat → Int) (pn : Nat) (fB : Nat → Int) (fM : Nat → Int) (gX : Nat → Int) (gY : Nat → Int) (gF : Nat → Int) (gT : Nat → Int) (me : Nat), relO fX fY fN gX gY gF np l0 → relC cs rs fI fS sv en fM → relG cs rs fG fB → ∀ (H : Heap) (locs : List Loc), va_P D vwCl [(wr, .inr (0, [.int (iI (cs : Int)), .int (iI (rs : Int)), .ref ag, .ref oo, .ref cp, .ref aw, .ref pl])), (ag, .inl (cA, cs * rs, .inl (iA fG))), (oo, .inr (1, [.ref ax, .ref ay, .ref an, .int (iI (np : Int)), .int (iI (l0 : Int))])), (ax, .inl (cA, 4096, .inl (iA fX))), (ay, .inl (cA, 4096, .inl (iA fY))), (an, .inl (cA, 4096, .inl (iA fN))), (cp, .inr (2, [.ref ai, .ref at_, .int (iI (sv : Int)), .int (iI (en : Int))])), (ai, .inl (cA, 24000, .inl (iA fI))), (at_, .inl (cA, 13, .inl (iA fS))), (aw, .inl (cA, cs, .inl (iA fW))), (pl, .inr (3, [.ref ap, .int (iI (pn : Int))])), (ap, .inl (cA, (cs + 1) / 2 * rs, .inl (iA fP))), (mo, .inr (4, [.int (iI (cs : Int)), .int (iI (rs : Int)), .ref mg, .ref mm, .int (iI (sv : Int)), .ref mx, .ref my, .ref mf, .int (iI (np : Int)), .ref mt, .int (iI (me : Int))])), (mg, .inl (cB, 65536, .inl (iA fB))), (mm, .inl (cS, 65536, .inl (iA fM))), (mx, .inl (cA, 4096, .inl (iA gX))), (my, .inl (cA, 4096, .inl (iA gY))), (mf, .inl (cA, 4096, .inl (iA gF))), (mt, .inl (cA, 4096, .inl (iA gT)))] H → va_D A [(wr, .inr (0, [.int (iI (cs : Int)), .int (iI (rs : Int)), .ref ag, .ref oo, .ref cp, .ref aw, .ref pl])), (ag, .inl (cA, cs * rs, .inl (iA fG))), (oo, .inr (1, [.ref ax, .ref ay, .ref an, .int (iI (np : Int)), .int (iI (l0 : Int))])), (ax, .inl (cA, 4096, .inl (iA fX))), (ay, .inl (cA, 4096, .inl (iA fY))), (an, .inl (cA, 4096, .inl (iA fN))), (cp, .inr (2, [.ref ai, .ref at_, .int (iI (sv : Int)), .int (iI (en : Int))])), (ai, .inl (cA, 24000, .inl (iA fI))), (at_, .inl (cA, 13, .inl (iA fS))), (aw, .inl (cA, cs, .inl (iA fW))), (pl, .inr (3, [.ref ap, .int (iI (pn : Int))])), (ap, .inl (cA, (cs + 1) / 2 * rs, .inl (iA fP))), (mo, .inr (4, [.int (iI (cs : Int)), .int (iI (rs : Int)), .ref mg, .ref mm, .int (iI (sv : Int)), .ref mx, .ref my, .ref mf, .int (iI (np : Int)), .ref mt, .int (iI (me : Int))])), (mg, .inl (cB, 65536, .inl (iA fB))), (mm, .inl (cS, 65536, .inl (iA fM))), (mx, .inl (cA, 4096, .inl (iA gX))), (my, .inl (cA, 4096, .inl (iA gY))), (mf, .inl (cA, 4096, .inl (iA gF))), (mt, .inl (cA, 4096, .inl (iA gT)))] → va_S A s.heap H locs → ∀ ls : Array Slot, lv_has ls 4 [(3, .int (iI (i : Int))), (0, .ref b), (1, .ref wr), (2, .ref mo)] → W p l e room_1 s m #[Value.ref b] below meth c H locs 19 282346 (lw_Z below #[Value.ref b] s) (F0 m 500 ls []) := by
        intro fG fX fY fN np l0 fI fS sv en fW fP pn fB fM gX gY gF gT me rO rC rG H locs hP hD hS ls hl
        refine lv_iinc (v := iI ((i + 3 : Nat) : Int)) (lv' := [(3, .int (iI ((i + 3 : Nat) : Int))), (0, .ref b), (1, .ref wr), (2, .ref mo)]) hx hb dLW_law_500 hl (k := 0) rfl (iI_inc _ 3 (by omega)) (by decide) rfl (fun ls hl => ?_)
        refine lv_goto (tgt := 38) hx hb dLW_law_503 (by decide) ?_
        exact ih (i + 3) (by omega) (by omega) fG fX fY fN np l0 fI fS sv en fW fP pn fB fM gX gY gF gT me rO rC rG H locs hP hD hS ls hl
      refine lv_aload_n hx hb dLW_law_46 rfl (lv_at hl 1 rfl) ?_
      refine lv_iload_n hx hb dLW_law_47 rfl (lv_at hl 0 rfl) ?_
      refine ii_sld hx hb hX hbl hbA hS i rfl (by omega) (by omega) dLW_law_48 ?_
      refine ii_bipush (n := 15) hx hb dLW_law_49 (by decide +kernel) ?_
      refine ii_iand (z := (xs i).toInt % 16) hx hb dLW_law_51 (iI_and15 _) ?_
      obtain ⟨sw, hsw⟩ : ∃ sw : Int, (xs i).toInt % 16 = sw := ⟨_, rfl⟩
      refine ii_top hsw ?_
      have hsw2 : sw = 0 ∨ sw = 1 ∨ sw = 2 ∨ sw = 3 ∨ sw = 4 ∨ sw = 5 ∨ sw = 6 ∨ sw = 7 ∨ sw = 8 ∨ sw = 9 ∨ sw = 10 ∨ sw = 11 ∨ sw = 12 ∨ sw = 13 ∨ sw = 14 ∨ sw = 15 := by omega
      rcases hsw2 with h | h | h | h | h | h | h | h | h | h | h | h | h | h | h | h
      · refine ii_top h ?_
        refine lv_tableIn (off := 80) (tgt := 132) hx hb dLW_law_52 (by decide +kernel) (by decide +kernel) (by decide +kernel) (by decide) ?_
        exact lc_0 hL C0 hA hbA hKW hcs hrs wr ag oo ax ay an cp ai at_ aw pl ap mo mg mm mx my mf mt fG fX fY fN np l0 fI fS sv en fW fP pn fB fM gX gY gF gT me rO rC rG (by omega) hP hD hS hl kk
      · refine ii_top h ?_
        refine lv_tableIn (off := 93) (tgt := 145) hx hb dLW_law_52 (by decide +kernel) (by decide +kernel) (by decide +kernel) (by decide) ?_
        exact lc_1 hL C0 hA hbA hKW hcs hrs wr ag oo ax ay an cp ai at_ aw pl ap mo mg mm mx my mf mt fG fX fY fN np l0 fI fS sv en fW fP pn fB fM gX gY gF gT me rO rC rG (by omega) hP hD hS hl kk
      · refine ii_top h ?_
        refine lv_tableIn (off := 106) (tgt := 158) hx hb dLW_law_52 (by decide +kernel) (by decide +kernel) (by decide +kernel) (by decide) ?_
        exact lc_2 hL C0 hA hbA hKW hcs hrs wr ag oo ax ay an cp ai at_ aw pl ap mo mg mm mx my mf mt fG fX fY fN np l0 fI fS sv en fW fP pn fB fM gX gY gF gT me rO rC rG (by omega) hP hD hS hl kk
      · refine ii_top h ?_
        refine lv_tableIn (off := 139) (tgt := 191) hx hb dLW_law_52 (by decide +kernel) (by decide +kernel) (by decide +kernel) (by decide) ?_
        exact lc_3 hL C0 hA hbA hKW hcs hrs wr ag oo ax ay an cp ai at_ aw pl ap mo mg mm mx my mf mt fG fX fY fN np l0 fI fS sv en fW fP pn fB fM gX gY gF gT me rO rC rG (by omega) hP hD hS hl kk
      · refine ii_top h ?_
        refine lv_tableIn (off := 172) (tgt := 224) hx hb dLW_law_52 (by decide +kernel) (by decide +kernel) (by decide +kernel) (by decide) ?_
        exact lc_4 hL C0 hA hbA hKW hcs hrs wr ag oo ax ay an cp ai at_ aw pl ap mo mg mm mx my mf mt fG fX fY fN np l0 fI fS sv en fW fP pn fB fM gX gY gF gT me rO rC rG (by omega) hP hD hS hl kk
      · refine ii_top h ?_
        refine lv_tableIn (off := 185) (tgt := 237) hx hb dLW_law_52 (by decide +kernel) (by decide +kernel) (by decide +kernel) (by decide) ?_
        exact lc_5 hL C0 hA hbA hKW hcs hrs wr ag oo ax ay an cp ai at_ aw pl ap mo mg mm mx my mf mt fG fX fY fN np l0 fI fS sv en fW fP pn fB fM gX gY gF gT me rO rC rG (by omega) hP hD hS hl kk
      · refine ii_top h ?_
        refine lv_tableIn (off := 218) (tgt := 270) hx hb dLW_law_52 (by decide +kernel) (by decide +kernel) (by decide +kernel) (by decide) ?_
        exact lc_6 hL C0 hA hbA hKW hcs hrs wr ag oo ax ay an cp ai at_ aw pl ap mo mg mm mx my mf mt fG fX fY fN np l0 fI fS sv en fW fP pn fB fM gX gY gF gT me rO rC rG (by omega) hP hD hS hl kk
      · refine ii_top h ?_
        refine lv_tableIn (off := 251) (tgt := 303) hx hb dLW_law_52 (by decide +kernel) (by decide +kernel) (by decide +kernel) (by decide) ?_
        exact lc_7 hL C0 hA hbA hKW hcs hrs wr ag oo ax ay an cp ai at_ aw pl ap mo mg mm mx my mf mt fG fX fY fN np l0 fI fS sv en fW fP pn fB fM gX gY gF gT me rO rC rG (by omega) hP hD hS hl kk
      · refine ii_top h ?_
        refine lv_tableIn (off := 274) (tgt := 326) hx hb dLW_law_52 (by decide +kernel) (by decide +kernel) (by decide +kernel) (by decide) ?_
        exact lc_8 hL C0 hA hbA hKW hcs hrs wr ag oo ax ay an cp ai at_ aw pl ap mo mg mm mx my mf mt fG fX fY fN np l0 fI fS sv en fW fP pn fB fM gX gY gF gT me rO rC rG (by omega) hP hD hS hl kk
      · refine ii_top h ?_
        refine lv_tableIn (off := 287) (tgt := 339) hx hb dLW_law_52 (by decide +kernel) (by decide +kernel) (by decide +kernel) (by decide) ?_
        exact lc_9 hL C0 hA hbA hKW hcs hrs wr ag oo ax ay an cp ai at_ aw pl ap mo mg mm mx my mf mt fG fX fY fN np l0 fI fS sv en fW fP pn fB fM gX gY gF gT me rO rC rG (by omega) hP hD hS hl kk
      · refine ii_top h ?_
        refine lv_tableIn (off := 300) (tgt := 352) hx hb dLW_law_52 (by decide +kernel) (by decide +kernel) (by decide +kernel) (by decide) ?_
        exact lc_10 hL C0 hA hbA hKW hcs hrs wr ag oo ax ay an cp ai at_ aw pl ap mo mg mm mx my mf mt fG fX fY fN np l0 fI fS sv en fW fP pn fB fM gX gY gF gT me rO rC rG (by omega) hP hD hS hl kk
      · refine ii_top h ?_
        refine lv_tableIn (off := 333) (tgt := 385) hx hb dLW_law_52 (by decide +kernel) (by decide +kernel) (by decide +kernel) (by decide) ?_
        exact lc_11 hL C0 hA hbA hKW hcs hrs wr ag oo ax ay an cp ai at_ aw pl ap mo mg mm mx my mf mt fG fX fY fN np l0 fI fS sv en fW fP pn fB fM gX gY gF gT me rO rC rG (by omega) hP hD hS hl kk
      · refine ii_top h ?_
        refine lv_tableIn (off := 366) (tgt := 418) hx hb dLW_law_52 (by decide +kernel) (by decide +kernel) (by decide +kernel) (by decide) ?_
        exact lc_12 hL C0 hA hbA hKW hcs hrs wr ag oo ax ay an cp ai at_ aw pl ap mo mg mm mx my mf mt fG fX fY fN np l0 fI fS sv en fW fP pn fB fM gX gY gF gT me rO rC rG (by omega) hP hD hS hl kk
      · refine ii_top h ?_
        refine lv_tableIn (off := 379) (tgt := 431) hx hb dLW_law_52 (by decide +kernel) (by decide +kernel) (by decide +kernel) (by decide) ?_
        exact lc_13 hL C0 hA hbA hKW hcs hrs wr ag oo ax ay an cp ai at_ aw pl ap mo mg mm mx my mf mt fG fX fY fN np l0 fI fS sv en fW fP pn fB fM gX gY gF gT me rO rC rG (by omega) hP hD hS hl kk
      · refine ii_top h ?_
        refine lv_tableIn (off := 392) (tgt := 444) hx hb dLW_law_52 (by decide +kernel) (by decide +kernel) (by decide +kernel) (by decide) ?_
        exact lc_14 hL C0 hA hbA hKW hcs hrs wr ag oo ax ay an cp ai at_ aw pl ap mo mg mm mx my mf mt fG fX fY fN np l0 fI fS sv en fW fP pn fB fM gX gY gF gT me rO rC rG (by omega) hP hD hS hl kk
      · refine ii_top h ?_
        refine lv_tableIn (off := 425) (tgt := 477) hx hb dLW_law_52 (by decide +kernel) (by decide +kernel) (by decide +kernel) (by decide) ?_
        exact lc_15 hL C0 hA hbA hKW hcs hrs wr ag oo ax ay an cp ai at_ aw pl ap mo mg mm mx my mf mt fG fX fY fN np l0 fI fS sv en fW fP pn fB fM gX gY gF gT me rO rC rG (by omega) hP hD hS hl kk
