/-! CLASS AND REFERENCE SIDE BY SIDE -/
def relO (fX fY fN gX gY gF : Nat → Int) (np l0 : Nat) : Prop := np ≤ 4096 ∧ (∀ i, i < np → fX i = gX i ∧ fY i = gY i ∧ ((-536870912 ≤ gX i ∧ gX i ≤ 536870912) ∧ (-536870912 ≤ gY i ∧ gY i ≤ 536870912)) ∧ fN i = nxZ gF np i) ∧ firM gF np ∧ (0 < np → gF (np - 1) = (l0 : Int))
def relC (cs rs : Nat) (fI fS : Nat → Int) (sv en : Nat) (fM : Nat → Int) : Prop := sv ≤ 12 ∧ mRng fM ∧ (∀ j, j ≤ sv → fS j = ((rnJ fM cs rs j : Nat) : Int)) ∧ en = rnJ fM cs rs (sv + 1) ∧ en ≤ 24000 ∧ ∀ j, j ≤ sv → segL fI (rnJ fM cs rs j) (canJ fM cs rs j)
def relG (cs rs : Nat) (fG fB : Nat → Int) : Prop := (∀ r k, r < rs → k < cs → fG (r * cs + k) = fB (256 * r + k) % 256) ∧ ∀ p, p < cs * rs → 0 ≤ fG p ∧ fG p ≤ 255
theorem relO_0 (fX fY fN gX gY gF : Nat → Int) : relO fX fY fN gX gY gF 0 0 := ⟨by omega, fun i h => absurd h (Nat.not_lt_zero _), fun i h => absurd h (Nat.not_lt_zero _), fun h => absurd h (Nat.lt_irrefl 0)⟩
theorem relO_pl {fX fY fN gX gY gF : Nat → Int} {np l0 : Nat} (h : relO fX fY fN gX gY gF np l0) : ∀ i, i < np → (-536870912 ≤ fX i ∧ fX i ≤ 536870912) ∧ (-536870912 ≤ fY i ∧ fY i ≤ 536870912) := fun i hi => by
  obtain ⟨h1, h2, h3, -⟩ := h.2.1 i hi
  rw [h1, h2]
  exact h3
theorem relO_pg {fX fY fN gX gY gF : Nat → Int} {np l0 : Nat} (h : relO fX fY fN gX gY gF np l0) : ∀ i, i < np → (-536870912 ≤ gX i ∧ gX i ≤ 536870912) ∧ (-536870912 ≤ gY i ∧ gY i ≤ 536870912) := fun i hi => (h.2.1 i hi).2.2.1
theorem relO_nx {fX fY fN gX gY gF : Nat → Int} {np l0 : Nat} (h : relO fX fY fN gX gY gF np l0) : ∀ i, i < np → 0 ≤ fN i ∧ fN i < (np : Int) := fun i hi => by
  rw [(h.2.1 i hi).2.2.2]
  exact nxZ_rng h.2.2.1 i hi
theorem wi_eq {fX fY fN gX gY gF : Nat → Int} {np l0 : Nat} (h : relO fX fY fN gX gY gF np l0) (y k : Int) : wiZ fX fY fN np y k = wiZ gX gY (nxZ gF np) np y k := by
  unfold wiZ
  refine sm_congr (fun i hi => ?_)
  obtain ⟨h1, h2, -, h4⟩ := h.2.1 i hi
  have h5 := nxZ_rng h.2.2.1 i hi
  obtain ⟨h6, h7, -, -⟩ := h.2.1 (nxZ gF np i).toNat (by omega)
  rw [h1, h2, h4, h6, h7]
theorem gW_eq {fX fY fN gX gY gF : Nat → Int} {np l0 : Nat} (h : relO fX fY fN gX gY gF np l0) (rl : Int) (r k : Nat) : gW fX fY fN np rl r k = gW gX gY (nxZ gF np) np rl r k := by
  unfold gW
  rw [wi_eq h]
theorem cutJ {fX fY fN gX gY gF fM : Nat → Int} {np l0 cs rs sv : Nat} (h : relO fX fY fN gX gY gF np l0) (rl : Int) : cutA (gW fX fY fN np rl) (canJ fM cs rs sv) = canP (gM fM gX gY gF np sv rl) cs rs 0 := by
  unfold canJ
  rw [cutA_canP]
  refine canP_congr cs rs 0 (fun r k _ _ _ => ?_)
  show (mkF fM sv r k && gW fX fY fN np rl r k) = (mkF fM sv r k && gW gX gY (nxZ gF np) np rl r k)
  rw [gW_eq h]
theorem nx_new {gF gF' : Nat → Int} {np i : Nat} (h : ∀ j, j < np → gF' j = gF j) (hi : i + 1 < np) : nxM gF' (np + 1) i = nxM gF np i := by
  unfold nxM
  rw [h i (by omega), h (i + 1) hi]
  by_cases e : gF (i + 1) = gF i
  · rw [if_pos ⟨by omega, e⟩, if_pos ⟨hi, e⟩]
  · rw [if_neg (fun w => e w.2), if_neg (fun w => e w.2)]
theorem uZ_at (f : Nat → Int) (k : Nat) (z : Int) : uZ f k z k = z := if_pos rfl
theorem uZ_ne (f : Nat → Int) {k j : Nat} (z : Int) (h : ¬ j = k) : uZ f k z j = f j := if_neg h
theorem relO_move {fX fY fN gX gY gF : Nat → Int} {np l0 : Nat} {a1 a2 : Int} (h : relO fX fY fN gX gY gF np l0) (hp : -536870912 ≤ a1 ∧ a1 ≤ 536870912 ∧ -536870912 ≤ a2 ∧ a2 ≤ 536870912) (hn : np < 4096) : relO (uZ fX np a1) (uZ fY np a2) (uZ fN np (np : Int)) (uZ gX np a1) (uZ gY np a2) (uZ gF np (np : Int)) (np + 1) np := by
  obtain ⟨h1, h2, h3, h4⟩ := h
  refine ⟨by omega, fun i hi => ?_, fun i hi => ?_, fun _ => uZ_at _ _ _⟩
  · by_cases e : i = np
    · subst e
      rw [uZ_at, uZ_at, uZ_at, uZ_at, uZ_at]
      refine ⟨rfl, rfl, by omega, ?_⟩
      unfold nxZ nxM
      rw [if_neg (by omega), uZ_at]
      omega
    · obtain ⟨q1, q2, q3, q4⟩ := h2 i (by omega)
      rw [uZ_ne _ _ e, uZ_ne _ _ e, uZ_ne _ _ e, uZ_ne _ _ e, uZ_ne _ _ e]
      refine ⟨q1, q2, q3, ?_⟩
      rw [q4]
      unfold nxZ
      by_cases e2 : i + 1 < np
      · rw [nx_new (fun j hj => uZ_ne _ _ (by omega)) e2]
      · have q5 := h3 i (by omega)
        unfold nxM
        rw [if_neg (by omega), if_neg (fun w => ?_), uZ_ne _ _ e]
        have w2 := w.2
        rw [show i + 1 = np by omega, uZ_at, uZ_ne _ _ e] at w2
        omega
  · by_cases e : i = np
    · subst e; rw [uZ_at]; omega
    · rw [uZ_ne _ _ e]; exact h3 i (by omega)
theorem relO_line {fX fY fN gX gY gF : Nat → Int} {np l0 : Nat} {a1 a2 : Int} (h : relO fX fY fN gX gY gF np l0) (hp : -536870912 ≤ a1 ∧ a1 ≤ 536870912 ∧ -536870912 ≤ a2 ∧ a2 ≤ 536870912) (h0 : 0 < np) (hn : np < 4096) : relO (uZ fX np a1) (uZ fY np a2) (uZ (uZ fN (np - 1) (np : Int)) np (l0 : Int)) (uZ gX np a1) (uZ gY np a2) (uZ gF np (gF (np - 1))) (np + 1) l0 := by
  obtain ⟨h1, h2, h3, h4⟩ := h
  have h5 := h4 h0
  have h6 := h3 (np - 1) (by omega)
  refine ⟨by omega, fun i hi => ?_, fun i hi => ?_, fun _ => by rw [show np + 1 - 1 = np by omega, uZ_at]; exact h5⟩
  · by_cases e : i = np
    · subst e
      rw [uZ_at, uZ_at, uZ_at, uZ_at, uZ_at]
      refine ⟨rfl, rfl, by omega, ?_⟩
      unfold nxZ nxM
      rw [if_neg (by omega), uZ_at]
      omega
    · obtain ⟨q1, q2, q3, q4⟩ := h2 i (by omega)
      rw [uZ_ne _ _ e, uZ_ne _ _ e, uZ_ne _ _ e, uZ_ne _ _ e, uZ_ne _ _ e]
      refine ⟨q1, q2, q3, ?_⟩
      by_cases e2 : i + 1 < np
      · rw [uZ_ne _ _ (by omega), q4]
        unfold nxZ
        rw [nx_new (fun j hj => uZ_ne _ _ (by omega)) e2]
      · have e3 : i = np - 1 := by omega
        rw [e3, uZ_at]
        unfold nxZ nxM
        rw [if_pos ⟨by omega, by rw [show np - 1 + 1 = np by omega, uZ_at, uZ_ne _ _ (by omega)]⟩]
        omega
  · by_cases e : i = np
    · subst e; rw [uZ_at]; omega
    · rw [uZ_ne _ _ e]; exact h3 i (by omega)
theorem cnG_le (f : Nat → Bool) : ∀ (n k : Nat), cnG f n k ≤ n := by
  intro n
  induction n with
  | zero => intro k; exact Nat.le_refl _
  | succ n ih =>
    intro k
    have := ih (k + 1)
    simp only [cnG]
    split <;> omega
theorem lenP_le (F : Nat → Nat → Bool) (cs : Nat) : ∀ (n r : Nat), lenS (canP F cs n r) ≤ cs * n := by
  intro n
  induction n with
  | zero => intro r; exact Nat.zero_le _
  | succ n ih =>
    intro r
    have h1 := ih (r + 1)
    have h2 := cnG_le (F r) cs 0
    simp only [canP]
    rw [lenS_app, (lenS_cutG (F r) r cs 0).1, Nat.mul_add, Nat.mul_one]
    omega
theorem lenP_32 (F : Nat → Nat → Bool) {cs rs : Nat} (hc : cs ≤ 256) (hr : rs ≤ 256) : lenS (canP F cs rs 0) ≤ 65536 := by
  have h1 := lenP_le F cs rs 0
  have h2 : cs * rs ≤ 256 * 256 := Nat.mul_le_mul hc hr
  omega
theorem paint_rel {F : Nat → Nat → Bool} {cs rs : Nat} {fG fG1 fB fB1 : Nat → Int} {a : Int} (hc : 0 < cs ∧ cs ≤ 256) (h : relG cs rs fG fB) (ha : 0 ≤ a ∧ a ≤ 255) (hG : ∀ p, fG1 p = paL cs a (canP F cs rs 0) fG p)
    (hB : ∀ r k, r < rs → k < cs → (F r k = true → fB1 (256 * r + k) = (if a < 128 then a else a - 256)) ∧ (F r k = false → fB1 (256 * r + k) = fB (256 * r + k))) : relG cs rs fG1 fB1 := by
  have ok := canP_ok F cs rs rs 0 (by omega)
  have key : ∀ r k, r < rs → k < cs → fG1 (r * cs + k) = fB1 (256 * r + k) % 256 ∧ (fG1 (r * cs + k) = a ∨ fG1 (r * cs + k) = fG (r * cs + k)) := by
    intro r k hr hk
    obtain ⟨p1, p2⟩ := paL_at cs rs a (canP F cs rs 0) fG ok r k hk
    obtain ⟨b1, b2⟩ := hB r k hr hk
    have hm := canP_mem F cs rs 0 r k
    by_cases e : F r k = true
    · rw [hG, p1 (hm.mpr ⟨by omega, by omega, hk, e⟩), b1 e]
      refine ⟨?_, Or.inl rfl⟩
      split <;> omega
    · rw [hG, p2 (fun w => e (hm.mp w).2.2.2), b2 (Bool.eq_false_iff.mpr e)]
      exact ⟨h.1 r k hr hk, Or.inr rfl⟩
  refine ⟨fun r k hr hk => (key r k hr hk).1, fun p hp => ?_⟩
  have e1 : p / cs < rs := Nat.div_lt_of_lt_mul hp
  have e2 : p % cs < cs := Nat.mod_lt p hc.1
  have e3 : p / cs * cs + p % cs = p := Nat.div_add_mod' p cs
  have q := (key (p / cs) (p % cs) e1 e2).2
  rw [e3] at q
  have q2 := h.2 p hp
  omega
theorem relC_congr {cs rs : Nat} {fI fS : Nat → Int} {sv en : Nat} {fM fM2 : Nat → Int} (h : relC cs rs fI fS sv en fM) (hr : mRng fM2) (hb : ∀ j r k, j ≤ sv → r < rs → k < cs → mkF fM2 j r k = mkF fM j r k) : relC cs rs fI fS sv en fM2 := by
  obtain ⟨h1, h2, h3, h4, h5, h6⟩ := h
  have e1 : ∀ n, n ≤ sv + 1 → rnJ fM2 cs rs n = rnJ fM cs rs n := fun n hn => rnJ_congr n (fun j r k w => hb j r k (by omega))
  have e2 : ∀ j, j ≤ sv → canJ fM2 cs rs j = canJ fM cs rs j := fun j hj => canP_congr cs rs 0 (fun r k _ w2 w3 => hb j r k hj (by omega) w3)
  exact ⟨h1, hr, fun j hj => by rw [e1 j (by omega)]; exact h3 j hj, by rw [e1 _ (Nat.le_refl _)]; exact h4, h5, fun j hj => by rw [e1 j (by omega), e2 j hj]; exact h6 j hj⟩
theorem rnJ_S (fM : Nat → Int) (cs rs n : Nat) : rnJ fM cs rs (n + 1) = rnJ fM cs rs n + (canJ fM cs rs n).length := rfl
theorem rnJ_mono (fM : Nat → Int) (cs rs : Nat) : ∀ {a b : Nat}, a ≤ b → rnJ fM cs rs a ≤ rnJ fM cs rs b := by
  intro a b h
  induction b with
  | zero => rw [show a = 0 by omega]; exact Nat.le_refl _
  | succ b ih =>
    by_cases e : a = b + 1
    · rw [e]; exact Nat.le_refl _
    · have := ih (by omega)
      rw [rnJ_S]
      omega
theorem relC_clip {cs rs : Nat} {fI fS fI1 : Nat → Int} {sv en : Nat} {fM fM2 : Nat → Int} {G : Nat → Nat → Bool} (h : relC cs rs fI fS sv en fM) (hr : mRng fM2) (hb : ∀ j r k, j < sv → r < rs → k < cs → mkF fM2 j r k = mkF fM j r k) (hG : ∀ r k, r < rs → k < cs → mkF fM2 sv r k = G r k)
    (hl : rnJ fM cs rs sv + (canP G cs rs 0).length ≤ 24000) (hs : segL fI1 (rnJ fM cs rs sv) (canP G cs rs 0)) (ho : ∀ k, k < rnJ fM cs rs sv → fI1 k = fI k) : relC cs rs fI1 fS sv (rnJ fM cs rs sv + (canP G cs rs 0).length) fM2 := by
  obtain ⟨h1, h2, h3, h4, h5, h6⟩ := h
  have e1 : ∀ n, n ≤ sv → rnJ fM2 cs rs n = rnJ fM cs rs n := fun n hn => rnJ_congr n (fun j r k w => hb j r k (by omega))
  have e2 : ∀ j, j < sv → canJ fM2 cs rs j = canJ fM cs rs j := fun j hj => canP_congr cs rs 0 (fun r k _ w2 w3 => hb j r k hj (by omega) w3)
  have e3 : canJ fM2 cs rs sv = canP G cs rs 0 := canP_congr cs rs 0 (fun r k _ w2 w3 => hG r k (by omega) w3)
  refine ⟨h1, hr, fun j hj => by rw [e1 j hj]; exact h3 j hj, by rw [rnJ_S, e1 sv (Nat.le_refl _), e3], hl, fun j hj => ?_⟩
  by_cases e : j = sv
  · rw [e, e1 sv (Nat.le_refl _), e3]; exact hs
  · rw [e1 j hj, e2 j (by omega)]
    refine segL_congr _ _ (fun k w1 w2 => ho k ?_) (h6 j hj)
    have m1 := rnJ_mono fM cs rs (show j + 1 ≤ sv by omega)
    rw [rnJ_S] at m1
    omega
theorem relC_save {cs rs : Nat} {fI fS : Nat → Int} {sv en : Nat} {fM fM1 : Nat → Int} (h : relC cs rs fI fS sv en fM) (hsv : sv < 12) (hcs : cs ≤ 256) (hrs : rs ≤ 256) (hr : mRng fM1) (hb : ∀ p, p < 65536 → ∀ i, ¬ i = sv + 1 → (fM1 p).toNat.testBit i = (fM p).toNat.testBit i) (hG : ∀ p, p < 65536 → (fM1 p).toNat.testBit (sv + 1) = (fM p).toNat.testBit sv)
    (hl : en + (en - rnJ fM cs rs sv) ≤ 24000) : relC cs rs (va_cpy fI fI (rnJ fM cs rs sv) en (en - rnJ fM cs rs sv)) (uZ fS (sv + 1) (en : Int)) (sv + 1) (en + (en - rnJ fM cs rs sv)) fM1 := by
  obtain ⟨h1, h2, h3, h4, h5, h6⟩ := h
  have m0 : ∀ j r k, j ≤ sv → r < rs → k < cs → mkF fM1 j r k = mkF fM j r k := fun j r k w1 w2 w3 => hb (256 * r + k) (by omega) j (by omega)
  have m1 : ∀ r k, r < rs → k < cs → mkF fM1 (sv + 1) r k = mkF fM sv r k := fun r k w2 w3 => hG (256 * r + k) (by omega)
  have e1 : ∀ n, n ≤ sv + 1 → rnJ fM1 cs rs n = rnJ fM cs rs n := fun n hn => rnJ_congr n (fun j r k w => m0 j r k (by omega))
  have e2 : ∀ j, j ≤ sv → canJ fM1 cs rs j = canJ fM cs rs j := fun j hj => canP_congr cs rs 0 (fun r k _ w2 w3 => m0 j r k hj (by omega) w3)
  have e3 : canJ fM1 cs rs (sv + 1) = canJ fM cs rs sv := canP_congr cs rs 0 (fun r k _ w2 w3 => m1 r k (by omega) w3)
  have e4 : en = rnJ fM cs rs sv + (canJ fM cs rs sv).length := h4
  refine ⟨by omega, hr, fun j hj => ?_, ?_, hl, fun j hj => ?_⟩
  · by_cases e : j = sv + 1
    · rw [e, uZ_at, e1 _ (Nat.le_refl _), ← h4]
    · rw [uZ_ne _ _ e, e1 j (by omega)]; exact h3 j (by omega)
  · rw [rnJ_S, e1 _ (Nat.le_refl _), ← h4, e3]
    omega
  · by_cases e : j = sv + 1
    · rw [e, e1 _ (Nat.le_refl _), ← h4, e3]
      refine segL_move _ (rnJ fM cs rs sv) en (fun k hk => ?_) (h6 sv (Nat.le_refl _))
      rw [pk_cpy_in (by omega) (by omega)]
      congr 1
      omega
    · rw [e1 j (by omega), e2 j (by omega)]
      refine segL_congr _ _ (fun k w1 w2 => ?_) (h6 j (by omega))
      have q1 := rnJ_mono fM cs rs (show j + 1 ≤ sv + 1 by omega)
      rw [rnJ_S, ← h4] at q1
      rw [pk_cpy_out (by omega)]
theorem relC_restore {cs rs : Nat} {fI fS : Nat → Int} {sv en : Nat} {fM : Nat → Int} (h : relC cs rs fI fS sv en fM) (h0 : 0 < sv) : relC cs rs fI fS (sv - 1) (rnJ fM cs rs sv) fM := by
  obtain ⟨h1, h2, h3, h4, h5, h6⟩ := h
  have q1 := rnJ_mono fM cs rs (show sv ≤ sv + 1 by omega)
  rw [← h4] at q1
  exact ⟨by omega, h2, fun j hj => h3 j (by omega), by rw [show sv - 1 + 1 = sv by omega], by omega, fun j hj => h6 j (by omega)⟩

theorem st_move {fX fY fN gX gY gF : Nat → Int} {np l0 cs rs : Nat} {a1 a2 : Int} {fX1 fY1 fN1 gX1 gY1 gF1 : Nat → Int} {np1 l01 mp1 : Nat} {z1 z2 : Int} (hcs : 0 < cs ∧ cs ≤ 256) (hrs : 0 < rs ∧ rs ≤ 256) (rO : relO fX fY fN gX gY gF np l0) (hC : (z1 = -1 ∧ ¬ (-536870912 ≤ a1 ∧ a1 ≤ 536870912 ∧ -536870912 ≤ a2 ∧ a2 ≤ 536870912) ∧ fX1 = fX ∧ fY1 = fY ∧ fN1 = fN ∧ np1 = np ∧ l01 = l0) ∨ (z1 = -3 ∧ (-536870912 ≤ a1 ∧ a1 ≤ 536870912 ∧ -536870912 ≤ a2 ∧ a2 ≤ 536870912) ∧ 4096 ≤ np ∧ fX1 = fX ∧ fY1 = fY ∧ fN1 = fN ∧ np1 = np ∧ l01 = l0) ∨ (z1 = ((np + 1 : Nat) : Int) ∧ (-536870912 ≤ a1 ∧ a1 ≤ 536870912 ∧ -536870912 ≤ a2 ∧ a2 ≤ 536870912) ∧ np < 4096 ∧ fX1 = uZ fX np a1 ∧ fY1 = uZ fY np a2 ∧ fN1 = uZ fN np (np : Int) ∧ np1 = np + 1 ∧ l01 = np)) (hM : (z2 = -1 ∧ ¬ (-536870912 ≤ a1 ∧ a1 ≤ 536870912 ∧ -536870912 ≤ a2 ∧ a2 ≤ 536870912) ∧ gX1 = gX ∧ gY1 = gY ∧ gF1 = gF ∧ mp1 = np) ∨ (z2 = -3 ∧ (-536870912 ≤ a1 ∧ a1 ≤ 536870912 ∧ -536870912 ≤ a2 ∧ a2 ≤ 536870912) ∧ 4096 ≤ np ∧ gX1 = gX ∧ gY1 = gY ∧ gF1 = gF ∧ mp1 = np) ∨ (z2 = ((np + 1 : Nat) : Int) ∧ (-536870912 ≤ a1 ∧ a1 ≤ 536870912 ∧ -536870912 ≤ a2 ∧ a2 ≤ 536870912) ∧ np < 4096 ∧ gX1 = uZ gX np a1 ∧ gY1 = uZ gY np a2 ∧ gF1 = uZ gF np (np : Int) ∧ mp1 = np + 1)) : z1 = z2 ∧ i32 z1 ∧ np1 = mp1 ∧ relO fX1 fY1 fN1 gX1 gY1 gF1 np1 l01 := by
  rcases hC with ⟨e1, n1, s1, s2, s3, s4, s5⟩ | ⟨e1, n1, n2, s1, s2, s3, s4, s5⟩ | ⟨e1, n1, n2, s1, s2, s3, s4, s5⟩
  · rcases hM with ⟨f1, m1, t1, t2, t3, t4⟩ | ⟨f1, m1, m2, t1, t2, t3, t4⟩ | ⟨f1, m1, m2, t1, t2, t3, t4⟩
    · rw [s1, s2, s3, s4, s5, t1, t2, t3, t4]; exact ⟨by omega, by omega, rfl, rO⟩
    · exfalso; omega
    · exfalso; omega
  · rcases hM with ⟨f1, m1, t1, t2, t3, t4⟩ | ⟨f1, m1, m2, t1, t2, t3, t4⟩ | ⟨f1, m1, m2, t1, t2, t3, t4⟩
    · exfalso; omega
    · rw [s1, s2, s3, s4, s5, t1, t2, t3, t4]; exact ⟨by omega, by omega, rfl, rO⟩
    · exfalso; omega
  · rcases hM with ⟨f1, m1, t1, t2, t3, t4⟩ | ⟨f1, m1, m2, t1, t2, t3, t4⟩ | ⟨f1, m1, m2, t1, t2, t3, t4⟩
    · exfalso; omega
    · exfalso; omega
    · rw [s1, s2, s3, s4, s5, t1, t2, t3, t4]; exact ⟨by omega, by omega, rfl, relO_move rO n1 n2⟩

theorem st_line {fX fY fN gX gY gF : Nat → Int} {np l0 cs rs : Nat} {a1 a2 : Int} {fX1 fY1 fN1 gX1 gY1 gF1 : Nat → Int} {np1 l01 mp1 : Nat} {z1 z2 : Int} (hcs : 0 < cs ∧ cs ≤ 256) (hrs : 0 < rs ∧ rs ≤ 256) (rO : relO fX fY fN gX gY gF np l0) (hC : (z1 = -1 ∧ ¬ (-536870912 ≤ a1 ∧ a1 ≤ 536870912 ∧ -536870912 ≤ a2 ∧ a2 ≤ 536870912) ∧ fX1 = fX ∧ fY1 = fY ∧ fN1 = fN ∧ np1 = np ∧ l01 = l0) ∨ (z1 = -2 ∧ (-536870912 ≤ a1 ∧ a1 ≤ 536870912 ∧ -536870912 ≤ a2 ∧ a2 ≤ 536870912) ∧ np = 0 ∧ fX1 = fX ∧ fY1 = fY ∧ fN1 = fN ∧ np1 = np ∧ l01 = l0) ∨ (z1 = -3 ∧ (-536870912 ≤ a1 ∧ a1 ≤ 536870912 ∧ -536870912 ≤ a2 ∧ a2 ≤ 536870912) ∧ 4096 ≤ np ∧ fX1 = fX ∧ fY1 = fY ∧ fN1 = fN ∧ np1 = np ∧ l01 = l0) ∨ (z1 = ((np + 1 : Nat) : Int) ∧ (-536870912 ≤ a1 ∧ a1 ≤ 536870912 ∧ -536870912 ≤ a2 ∧ a2 ≤ 536870912) ∧ 0 < np ∧ np < 4096 ∧ fX1 = uZ fX np a1 ∧ fY1 = uZ fY np a2 ∧ fN1 = uZ (uZ fN (np - 1) (np : Int)) np (l0 : Int) ∧ np1 = np + 1 ∧ l01 = l0)) (hM : (z2 = -1 ∧ ¬ (-536870912 ≤ a1 ∧ a1 ≤ 536870912 ∧ -536870912 ≤ a2 ∧ a2 ≤ 536870912) ∧ gX1 = gX ∧ gY1 = gY ∧ gF1 = gF ∧ mp1 = np) ∨ (z2 = -2 ∧ (-536870912 ≤ a1 ∧ a1 ≤ 536870912 ∧ -536870912 ≤ a2 ∧ a2 ≤ 536870912) ∧ np = 0 ∧ gX1 = gX ∧ gY1 = gY ∧ gF1 = gF ∧ mp1 = np) ∨ (z2 = -3 ∧ (-536870912 ≤ a1 ∧ a1 ≤ 536870912 ∧ -536870912 ≤ a2 ∧ a2 ≤ 536870912) ∧ 4096 ≤ np ∧ gX1 = gX ∧ gY1 = gY ∧ gF1 = gF ∧ mp1 = np) ∨ (z2 = ((np + 1 : Nat) : Int) ∧ (-536870912 ≤ a1 ∧ a1 ≤ 536870912 ∧ -536870912 ≤ a2 ∧ a2 ≤ 536870912) ∧ 0 < np ∧ np < 4096 ∧ gX1 = uZ gX np a1 ∧ gY1 = uZ gY np a2 ∧ gF1 = uZ gF np (gF (np - 1)) ∧ mp1 = np + 1)) : z1 = z2 ∧ i32 z1 ∧ np1 = mp1 ∧ relO fX1 fY1 fN1 gX1 gY1 gF1 np1 l01 := by
  rcases hC with ⟨e1, n1, s1, s2, s3, s4, s5⟩ | ⟨e1, n1, n2, s1, s2, s3, s4, s5⟩ | ⟨e1, n1, n2, s1, s2, s3, s4, s5⟩ | ⟨e1, n1, n2, n3, s1, s2, s3, s4, s5⟩
  · rcases hM with ⟨f1, m1, t1, t2, t3, t4⟩ | ⟨f1, m1, m2, t1, t2, t3, t4⟩ | ⟨f1, m1, m2, t1, t2, t3, t4⟩ | ⟨f1, m1, m2, m3, t1, t2, t3, t4⟩
    · rw [s1, s2, s3, s4, s5, t1, t2, t3, t4]; exact ⟨by omega, by omega, rfl, rO⟩
    · exfalso; omega
    · exfalso; omega
    · exfalso; omega
  · rcases hM with ⟨f1, m1, t1, t2, t3, t4⟩ | ⟨f1, m1, m2, t1, t2, t3, t4⟩ | ⟨f1, m1, m2, t1, t2, t3, t4⟩ | ⟨f1, m1, m2, m3, t1, t2, t3, t4⟩
    · exfalso; omega
    · rw [s1, s2, s3, s4, s5, t1, t2, t3, t4]; exact ⟨by omega, by omega, rfl, rO⟩
    · exfalso; omega
    · exfalso; omega
  · rcases hM with ⟨f1, m1, t1, t2, t3, t4⟩ | ⟨f1, m1, m2, t1, t2, t3, t4⟩ | ⟨f1, m1, m2, t1, t2, t3, t4⟩ | ⟨f1, m1, m2, m3, t1, t2, t3, t4⟩
    · exfalso; omega
    · exfalso; omega
    · rw [s1, s2, s3, s4, s5, t1, t2, t3, t4]; exact ⟨by omega, by omega, rfl, rO⟩
    · exfalso; omega
  · rcases hM with ⟨f1, m1, t1, t2, t3, t4⟩ | ⟨f1, m1, m2, t1, t2, t3, t4⟩ | ⟨f1, m1, m2, t1, t2, t3, t4⟩ | ⟨f1, m1, m2, m3, t1, t2, t3, t4⟩
    · exfalso; omega
    · exfalso; omega
    · exfalso; omega
    · rw [s1, s2, s3, s4, s5, t1, t2, t3, t4]; exact ⟨by omega, by omega, rfl, relO_line rO n1 n2 n3⟩

theorem st_winding {fX fY fN gX gY gF : Nat → Int} {np l0 cs rs : Nat} {a1 a2 : Int} {z1 z2 : Int} (hcs : 0 < cs ∧ cs ≤ 256) (hrs : 0 < rs ∧ rs ≤ 256) (rO : relO fX fY fN gX gY gF np l0) (hC : ((0 ≤ a1 ∧ a1 < (cs : Int) ∧ 0 ≤ a2 ∧ a2 < (rs : Int)) ∧ z1 = wiZ fX fY fN np ((a2.toNat * 65536 + 32768 : Nat) : Int) (a1.toNat : Int)) ∨ (¬ (0 ≤ a1 ∧ a1 < (cs : Int) ∧ 0 ≤ a2 ∧ a2 < (rs : Int)) ∧ z1 = 0)) (hM : ((0 ≤ a1 ∧ a1 < (cs : Int) ∧ 0 ≤ a2 ∧ a2 < (rs : Int)) ∧ z2 = wiZ gX gY (nxZ gF np) np ((a2.toNat * 65536 + 32768 : Nat) : Int) (a1.toNat : Int)) ∨ (¬ (0 ≤ a1 ∧ a1 < (cs : Int) ∧ 0 ≤ a2 ∧ a2 < (rs : Int)) ∧ z2 = 0)) : z1 = z2 ∧ i32 z1 := by
  rcases hC with ⟨c1, c2⟩ | ⟨c1, c2⟩
  · rcases hM with ⟨m1, m2⟩ | ⟨m1, m2⟩
    · have h1 := wiZ_rng fX fY fN ((a2.toNat * 65536 + 32768 : Nat) : Int) (a1.toNat : Int) np
      have h2 := rO.1
      rw [← c2] at h1
      rw [c2, m2, wi_eq rO]
      rw [wi_eq rO] at c2
      rw [← c2]
      exact ⟨rfl, by omega⟩
    · exact absurd c1 m1
  · rcases hM with ⟨m1, m2⟩ | ⟨m1, m2⟩
    · exact absurd m1 c1
    · rw [c2, m2]; exact ⟨rfl, by omega⟩

theorem st_fill {fX fY fN gX gY gF fG fB fM : Nat → Int} {np l0 sv cs rs : Nat} {a1 a2 : Int} {fG1 fB1 : Nat → Int} {z1 z2 : Int} (hcs : 0 < cs ∧ cs ≤ 256) (hrs : 0 < rs ∧ rs ≤ 256) (rO : relO fX fY fN gX gY gF np l0) (rG : relG cs rs fG fB) (hC : (z1 = -1 ∧ ¬ ((a1 = 0 ∨ a1 = 1) ∧ 0 ≤ a2 ∧ a2 ≤ 255) ∧ fG1 = fG) ∨ (((a1 = 0 ∨ a1 = 1) ∧ 0 ≤ a2 ∧ a2 ≤ 255) ∧ z1 = ((lenS (cutA (gW fX fY fN np a1) (canJ fM cs rs sv)) : Nat) : Int) ∧ ∀ p, fG1 p = paL cs a2 (cutA (gW fX fY fN np a1) (canJ fM cs rs sv)) fG p)) (hM : (z2 = -1 ∧ ¬ ((a1 = 0 ∨ a1 = 1) ∧ 0 ≤ a2 ∧ a2 ≤ 255) ∧ fB1 = fB) ∨ (((a1 = 0 ∨ a1 = 1) ∧ 0 ≤ a2 ∧ a2 ≤ 255) ∧ z2 = ((lenS (canP (gM fM gX gY gF np sv a1) cs rs 0) : Nat) : Int) ∧ ∀ r k, r < rs → k < cs → ((gM fM gX gY gF np sv a1) r k = true → fB1 (256 * r + k) = (if a2 < 128 then a2 else a2 - 256)) ∧ ((gM fM gX gY gF np sv a1) r k = false → fB1 (256 * r + k) = fB (256 * r + k)))) : z1 = z2 ∧ i32 z1 ∧ relG cs rs fG1 fB1 := by
  rw [cutJ rO] at hC
  rcases hC with ⟨c1, c2, c3⟩ | ⟨c1, c2, c3⟩
  · rcases hM with ⟨m1, m2, m3⟩ | ⟨m1, m2, m3⟩
    · rw [c3, m3]; exact ⟨by omega, by omega, rG⟩
    · exact absurd m1 c2
  · rcases hM with ⟨m1, m2, m3⟩ | ⟨m1, m2, m3⟩
    · exact absurd c1 m2
    · have h1 := lenP_32 (gM fM gX gY gF np sv a1) hcs.2 hrs.2
      exact ⟨by omega, by omega, paint_rel hcs rG c1.2 c3 m3⟩

theorem st_flood {fG fB fM : Nat → Int} {sv cs rs : Nat} {a1 : Int} {fG1 fB1 : Nat → Int} {z1 z2 : Int} (hcs : 0 < cs ∧ cs ≤ 256) (hrs : 0 < rs ∧ rs ≤ 256) (rG : relG cs rs fG fB) (hC : (z1 = -1 ∧ ¬ (0 ≤ a1 ∧ a1 ≤ 255) ∧ fG1 = fG) ∨ ((0 ≤ a1 ∧ a1 ≤ 255) ∧ z1 = ((lenS (canJ fM cs rs sv) : Nat) : Int) ∧ ∀ p, fG1 p = paL cs a1 (canJ fM cs rs sv) fG p)) (hM : (z2 = -1 ∧ ¬ (0 ≤ a1 ∧ a1 ≤ 255) ∧ fB1 = fB) ∨ ((0 ≤ a1 ∧ a1 ≤ 255) ∧ z2 = ((lenS (canJ fM cs rs sv) : Nat) : Int) ∧ ∀ r k, r < rs → k < cs → ((mkF fM sv) r k = true → fB1 (256 * r + k) = (if a1 < 128 then a1 else a1 - 256)) ∧ ((mkF fM sv) r k = false → fB1 (256 * r + k) = fB (256 * r + k)))) : z1 = z2 ∧ i32 z1 ∧ relG cs rs fG1 fB1 := by
  rcases hC with ⟨c1, c2, c3⟩ | ⟨c1, c2, c3⟩
  · rcases hM with ⟨m1, m2, m3⟩ | ⟨m1, m2, m3⟩
    · rw [c3, m3]; exact ⟨by omega, by omega, rG⟩
    · exact absurd m1 c2
  · rcases hM with ⟨m1, m2, m3⟩ | ⟨m1, m2, m3⟩
    · exact absurd c1 m2
    · have h1 : lenS (canJ fM cs rs sv) ≤ 65536 := lenP_32 (mkF fM sv) hcs.2 hrs.2
      exact ⟨by omega, by omega, paint_rel hcs rG c1 c3 m3⟩

theorem st_clip {fX fY fN gX gY gF fI fS fM : Nat → Int} {np l0 sv en cs rs : Nat} {a1 : Int} {fI1 fM2 : Nat → Int} {en1 : Nat} {z1 z2 : Int} (hcs : 0 < cs ∧ cs ≤ 256) (hrs : 0 < rs ∧ rs ≤ 256) (rO : relO fX fY fN gX gY gF np l0) (rC : relC cs rs fI fS sv en fM) (hC : (z1 = -1 ∧ ¬ (a1 = 0 ∨ a1 = 1) ∧ fI1 = fI ∧ en1 = en) ∨ ((a1 = 0 ∨ a1 = 1) ∧ z1 = -3 ∧ 24000 < (rnJ fM cs rs sv) + (cutA (gW fX fY fN np a1) (canJ fM cs rs sv)).length ∧ fI1 = fI ∧ en1 = en) ∨ ((a1 = 0 ∨ a1 = 1) ∧ (rnJ fM cs rs sv) + (cutA (gW fX fY fN np a1) (canJ fM cs rs sv)).length ≤ 24000 ∧ z1 = ((lenS (cutA (gW fX fY fN np a1) (canJ fM cs rs sv)) : Nat) : Int) ∧ en1 = (rnJ fM cs rs sv) + (cutA (gW fX fY fN np a1) (canJ fM cs rs sv)).length ∧ segL fI1 (rnJ fM cs rs sv) (cutA (gW fX fY fN np a1) (canJ fM cs rs sv)) ∧ ∀ k, k < (rnJ fM cs rs sv) → fI1 k = fI k)) (hM : (z2 = -1 ∧ ¬ (a1 = 0 ∨ a1 = 1) ∧ fM2 = fM) ∨ ((a1 = 0 ∨ a1 = 1) ∧ z2 = -3 ∧ 24000 < rnJ fM cs rs sv + (canP (gM fM gX gY gF np sv a1) cs rs 0).length ∧ mRng fM2 ∧ ∀ q, q < 65536 → ∀ i, i ≤ sv → (fM2 q).toNat.testBit i = (fM q).toNat.testBit i) ∨ ((a1 = 0 ∨ a1 = 1) ∧ rnJ fM cs rs sv + (canP (gM fM gX gY gF np sv a1) cs rs 0).length ≤ 24000 ∧ z2 = ((lenS (canP (gM fM gX gY gF np sv a1) cs rs 0) : Nat) : Int) ∧ mRng fM2 ∧ (∀ q, q < 65536 → ∀ i, i < sv → (fM2 q).toNat.testBit i = (fM q).toNat.testBit i) ∧ ∀ r k, r < rs → k < cs → mkF fM2 sv r k = (gM fM gX gY gF np sv a1) r k)) : z1 = z2 ∧ i32 z1 ∧ relC cs rs fI1 fS sv en1 fM2 := by
  rw [cutJ rO] at hC
  have hl32 := lenP_32 (gM fM gX gY gF np sv a1) hcs.2 hrs.2
  rcases hC with ⟨c1, c2, c3, c4⟩ | ⟨c1, c2, c3, c4, c5⟩ | ⟨c1, c2, c3, c4, c5, c6⟩
  · rcases hM with ⟨m1, m2, m3⟩ | ⟨m1, m2, m3, m4, m5⟩ | ⟨m1, m2, m3, m4, m5, m6⟩
    · rw [c3, c4, m3]; exact ⟨by omega, by omega, rC⟩
    · exact absurd m1 c2
    · exact absurd m1 c2
  · rcases hM with ⟨m1, m2, m3⟩ | ⟨m1, m2, m3, m4, m5⟩ | ⟨m1, m2, m3, m4, m5, m6⟩
    · exact absurd c1 m2
    · rw [c4, c5]; exact ⟨by omega, by omega, relC_congr rC m4 (fun j r k w1 w2 w3 => m5 (256 * r + k) (by omega) j w1)⟩
    · exfalso; omega
  · rcases hM with ⟨m1, m2, m3⟩ | ⟨m1, m2, m3, m4, m5⟩ | ⟨m1, m2, m3, m4, m5, m6⟩
    · exact absurd c1 m2
    · exfalso; omega
    · rw [c4]; exact ⟨by omega, by omega, relC_clip rC m4 (fun j r k w1 w2 w3 => m5 (256 * r + k) (by omega) j w1) m6 m2 c5 c6⟩

theorem st_save {fI fS fM : Nat → Int} {sv en cs rs : Nat} {fI1 fS1 fM1 : Nat → Int} {sv1 en1 mv1 : Nat} {z1 z2 : Int} (hcs : 0 < cs ∧ cs ≤ 256) (hrs : 0 < rs ∧ rs ≤ 256) (rC : relC cs rs fI fS sv en fM) (hC : (z1 = -3 ∧ (12 ≤ sv ∨ 24000 < en + (en - (rnJ fM cs rs sv))) ∧ fI1 = fI ∧ fS1 = fS ∧ sv1 = sv ∧ en1 = en) ∨ (z1 = ((sv + 1 : Nat) : Int) ∧ sv < 12 ∧ en + (en - (rnJ fM cs rs sv)) ≤ 24000 ∧ fI1 = va_cpy fI fI (rnJ fM cs rs sv) en (en - (rnJ fM cs rs sv)) ∧ fS1 = uZ fS (sv + 1) (en : Int) ∧ sv1 = sv + 1 ∧ en1 = en + (en - (rnJ fM cs rs sv)))) (hM : (z2 = -3 ∧ (12 ≤ sv ∨ 24000 < rnJ fM cs rs (sv + 1) + (canJ fM cs rs sv).length) ∧ fM1 = fM ∧ mv1 = sv) ∨ (z2 = ((sv + 1 : Nat) : Int) ∧ sv < 12 ∧ rnJ fM cs rs (sv + 1) + (canJ fM cs rs sv).length ≤ 24000 ∧ mv1 = sv + 1 ∧ mRng fM1 ∧ (∀ p, p < 65536 → ∀ i, ¬ i = sv + 1 → (fM1 p).toNat.testBit i = (fM p).toNat.testBit i) ∧ ∀ p, p < 65536 → (fM1 p).toNat.testBit (sv + 1) = (fM p).toNat.testBit sv)) : z1 = z2 ∧ i32 z1 ∧ sv1 = mv1 ∧ relC cs rs fI1 fS1 sv1 en1 fM1 := by
  have h4 : en = rnJ fM cs rs (sv + 1) := rC.2.2.2.1
  have h5 := rnJ_S fM cs rs sv
  have h6 := rC.1
  rcases hC with ⟨c1, c2, c3, c4, c5, c6⟩ | ⟨c1, c2, c3, c4, c5, c6, c7⟩
  · rcases hM with ⟨m1, m2, m3, m4⟩ | ⟨m1, m2, m3, m4, m5, m6, m7⟩
    · rw [c3, c4, c5, c6, m3, m4]; exact ⟨by omega, by omega, rfl, rC⟩
    · exfalso; omega
  · rcases hM with ⟨m1, m2, m3, m4⟩ | ⟨m1, m2, m3, m4, m5, m6, m7⟩
    · exfalso; omega
    · rw [c4, c5, c6, c7, m4]; exact ⟨by omega, by omega, rfl, relC_save rC c2 hcs.2 hrs.2 m5 m6 m7 c3⟩

theorem st_restore {fI fS fM : Nat → Int} {sv en cs rs : Nat} {sv1 en1 mv1 : Nat} {z1 z2 : Int} (hcs : 0 < cs ∧ cs ≤ 256) (hrs : 0 < rs ∧ rs ≤ 256) (rC : relC cs rs fI fS sv en fM) (hC : (z1 = -2 ∧ sv = 0 ∧ sv1 = sv ∧ en1 = en) ∨ (z1 = ((sv - 1 : Nat) : Int) ∧ 0 < sv ∧ sv1 = sv - 1 ∧ en1 = (rnJ fM cs rs sv))) (hM : (z2 = -2 ∧ sv = 0 ∧ mv1 = sv) ∨ (z2 = ((sv - 1 : Nat) : Int) ∧ 0 < sv ∧ mv1 = sv - 1)) : z1 = z2 ∧ i32 z1 ∧ sv1 = mv1 ∧ relC cs rs fI fS sv1 en1 fM := by
  have h6 := rC.1
  rcases hC with ⟨c1, c2, c3, c4⟩ | ⟨c1, c2, c3, c4⟩
  · rcases hM with ⟨m1, m2, m3⟩ | ⟨m1, m2, m3⟩
    · rw [c3, c4, m3]; exact ⟨by omega, by omega, rfl, rC⟩
    · exfalso; omega
  · rcases hM with ⟨m1, m2, m3⟩ | ⟨m1, m2, m3⟩
    · exfalso; omega
    · rw [c3, c4, m3]; exact ⟨by omega, by omega, rfl, relC_restore rC c2⟩

theorem st_gray {fG fB : Nat → Int} { cs rs : Nat} {a1 a2 : Int} {z1 z2 : Int} (hcs : 0 < cs ∧ cs ≤ 256) (hrs : 0 < rs ∧ rs ≤ 256) (rG : relG cs rs fG fB) (hC : ((0 ≤ a1 ∧ a1 < (cs : Int) ∧ 0 ≤ a2 ∧ a2 < (rs : Int)) ∧ z1 = fG (a2.toNat * cs + a1.toNat)) ∨ (¬ (0 ≤ a1 ∧ a1 < (cs : Int) ∧ 0 ≤ a2 ∧ a2 < (rs : Int)) ∧ z1 = -1)) (hM : ((0 ≤ a1 ∧ a1 < (cs : Int) ∧ 0 ≤ a2 ∧ a2 < (rs : Int)) ∧ z2 = fB (256 * a2.toNat + a1.toNat) % 256) ∨ (¬ (0 ≤ a1 ∧ a1 < (cs : Int) ∧ 0 ≤ a2 ∧ a2 < (rs : Int)) ∧ z2 = -1)) : z1 = z2 ∧ i32 z1 := by
  rcases hC with ⟨c1, c2⟩ | ⟨c1, c2⟩
  · rcases hM with ⟨m1, m2⟩ | ⟨m1, m2⟩
    · rw [c2, m2, rG.1 a2.toNat a1.toNat (by omega) (by omega)]; exact ⟨rfl, by omega⟩
    · exact absurd c1 m1
  · rcases hM with ⟨m1, m2⟩ | ⟨m1, m2⟩
    · exact absurd m1 c1
    · exact ⟨by omega, by omega⟩

theorem st_open {fM : Nat → Int} {sv cs rs : Nat} {a1 a2 : Int} {z1 z2 : Int} (hcs : 0 < cs ∧ cs ≤ 256) (hrs : 0 < rs ∧ rs ≤ 256)  (hC : ((0 ≤ a1 ∧ a1 < (cs : Int) ∧ 0 ≤ a2 ∧ a2 < (rs : Int)) ∧ ((z1 = 1 ∧ memL (canJ fM cs rs sv) a2.toNat a1.toNat) ∨ (z1 = 0 ∧ ¬ memL (canJ fM cs rs sv) a2.toNat a1.toNat))) ∨ (¬ (0 ≤ a1 ∧ a1 < (cs : Int) ∧ 0 ≤ a2 ∧ a2 < (rs : Int)) ∧ z1 = -1)) (hM : ((0 ≤ a1 ∧ a1 < (cs : Int) ∧ 0 ≤ a2 ∧ a2 < (rs : Int)) ∧ ((z2 = 1 ∧ mkF fM sv a2.toNat a1.toNat = true) ∨ (z2 = 0 ∧ ¬ mkF fM sv a2.toNat a1.toNat = true))) ∨ (¬ (0 ≤ a1 ∧ a1 < (cs : Int) ∧ 0 ≤ a2 ∧ a2 < (rs : Int)) ∧ z2 = -1)) : z1 = z2 ∧ i32 z1 := by
  rcases hC with ⟨c1, c2⟩ | ⟨c1, c2⟩
  · rcases hM with ⟨m1, m2⟩ | ⟨m1, m2⟩
    · have hm : memL (canJ fM cs rs sv) a2.toNat a1.toNat ↔ mkF fM sv a2.toNat a1.toNat = true := (canP_mem (mkF fM sv) cs rs 0 a2.toNat a1.toNat).trans ⟨fun w => w.2.2.2, fun w => ⟨by omega, by omega, by omega, w⟩⟩
      rcases c2 with ⟨c3, c4⟩ | ⟨c3, c4⟩
      · rcases m2 with ⟨m3, m4⟩ | ⟨m3, m4⟩
        · exact ⟨by omega, by omega⟩
        · exact absurd (hm.mp c4) m4
      · rcases m2 with ⟨m3, m4⟩ | ⟨m3, m4⟩
        · exact absurd (hm.mpr m4) c4
        · exact ⟨by omega, by omega⟩
    · exact absurd c1 m1
  · rcases hM with ⟨m1, m2⟩ | ⟨m1, m2⟩
    · exact absurd m1 c1
    · exact ⟨by omega, by omega⟩

theorem sm_rng {f : Nat → Int} (h : ∀ j, 0 ≤ f j ∧ f j ≤ 1) : ∀ n : Nat, 0 ≤ sm f n ∧ sm f n ≤ (n : Int) := by
  intro n
  induction n with
  | zero => exact ⟨Int.le_refl _, Int.le_refl _⟩
  | succ n ih =>
    have := h n
    show 0 ≤ sm f n + f n ∧ sm f n + f n ≤ _
    omega
theorem st_count {fG fB : Nat → Int} { cs rs : Nat} {a1 a2 : Int} {z1 z2 : Int} (hcs : 0 < cs ∧ cs ≤ 256) (hrs : 0 < rs ∧ rs ≤ 256) (rG : relG cs rs fG fB) (hC : ((0 ≤ a1 ∧ a1 < (rs : Int)) ∧ z1 = sm (fun k => if fG (a1.toNat * cs + k) = a2 then 1 else 0) cs) ∨ (¬ (0 ≤ a1 ∧ a1 < (rs : Int)) ∧ z1 = -1)) (hM : ((0 ≤ a1 ∧ a1 < (rs : Int)) ∧ z2 = sm (fun k => if fB (256 * a1.toNat + k) % 256 = a2 then 1 else 0) cs) ∨ (¬ (0 ≤ a1 ∧ a1 < (rs : Int)) ∧ z2 = -1)) : z1 = z2 ∧ i32 z1 := by
  rcases hC with ⟨c1, c2⟩ | ⟨c1, c2⟩
  · rcases hM with ⟨m1, m2⟩ | ⟨m1, m2⟩
    · have e : sm (fun k => if fG (a1.toNat * cs + k) = a2 then 1 else 0) cs = sm (fun k => if fB (256 * a1.toNat + k) % 256 = a2 then 1 else 0) cs := sm_congr (fun k hk => by
        show (if fG (a1.toNat * cs + k) = a2 then (1 : Int) else 0) = if fB (256 * a1.toNat + k) % 256 = a2 then 1 else 0
        rw [rG.1 a1.toNat k (by omega) hk])
      have h1 := sm_rng (f := fun k => if fG (a1.toNat * cs + k) = a2 then 1 else 0) (fun j => by split <;> omega) cs
      rw [← c2] at h1
      rw [← e, ← c2] at m2
      exact ⟨m2.symm, by omega⟩
    · exact absurd c1 m1
  · rcases hM with ⟨m1, m2⟩ | ⟨m1, m2⟩
    · exact absurd m1 c1
    · exact ⟨by omega, by omega⟩

