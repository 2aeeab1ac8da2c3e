/-! THE REFERENCE'S STATE: bits of masks, the next point, the points that meet a row -/
def mkF (fM : Nat → Int) (j r k : Nat) : Bool := (fM (256 * r + k)).toNat.testBit j
def nxM (gF : Nat → Int) (mp p : Nat) : Nat := if p + 1 < mp ∧ gF (p + 1) = gF p then p + 1 else (gF p).toNat
def nxZ (gF : Nat → Int) (mp p : Nat) : Int := ((nxM gF mp p : Nat) : Int)
def firM (gF : Nat → Int) (mp : Nat) : Prop := ∀ i, i < mp → 0 ≤ gF i ∧ gF i ≤ (i : Int)
theorem nxM_lt {gF : Nat → Int} {mp p : Nat} (h : firM gF mp) (hp : p < mp) : nxM gF mp p < mp := by
  have h1 := h p hp
  unfold nxM
  split <;> omega
theorem nxZ_rng {gF : Nat → Int} {mp : Nat} (h : firM gF mp) : ∀ i, i < mp → 0 ≤ nxZ gF mp i ∧ nxZ gF mp i < (mp : Int) := fun i hi => by
  have := nxM_lt h hi
  unfold nxZ
  omega
def ctM (gX gY gF : Nat → Int) (mp : Nat) (y k : Int) (p : Nat) : Int := ctZ (gX p) (gY p) (gX (nxM gF mp p)) (gY (nxM gF mp p)) y k
theorem wiM_succ (gX gY gF : Nat → Int) (mp i : Nat) (y k : Int) : wiZ gX gY (nxZ gF mp) (i + 1) y k = wiZ gX gY (nxZ gF mp) i y k + ctM gX gY gF mp y k i := rfl
def metI (gX gY gF : Nat → Int) (mp : Nat) (y : Int) (gT : Nat → Int) (me i : Nat) : Prop := me ≤ i ∧ (∀ t, t < me → 0 ≤ gT t ∧ gT t < (mp : Int) ∧ ¬ stZ (gY (gT t).toNat) (gY (nxM gF mp (gT t).toNat)) y = 0) ∧ ∀ k : Int, sm (fun t => ctM gX gY gF mp y k (gT t).toNat) me = wiZ gX gY (nxZ gF mp) i y k
theorem metI_0 (gX gY gF : Nat → Int) (mp : Nat) (y : Int) (gT : Nat → Int) : metI gX gY gF mp y gT 0 0 := ⟨Nat.le_refl _, fun t h => absurd h (Nat.not_lt_zero _), fun _ => rfl⟩
theorem metI_skip {gX gY gF : Nat → Int} {mp : Nat} {y : Int} {gT : Nat → Int} {me i : Nat} (h : metI gX gY gF mp y gT me i) (h0 : stZ (gY i) (gY (nxM gF mp i)) y = 0) : metI gX gY gF mp y gT me (i + 1) := by
  obtain ⟨h1, h2, h3⟩ := h
  refine ⟨by omega, h2, fun k => ?_⟩
  rw [wiM_succ, h3 k]
  have : ctM gX gY gF mp y k i = 0 := ctZ_no h0
  omega
theorem metI_add {gX gY gF : Nat → Int} {mp : Nat} {y : Int} {gT : Nat → Int} {me i : Nat} (h : metI gX gY gF mp y gT me i) (hi : i < mp) (h0 : ¬ stZ (gY i) (gY (nxM gF mp i)) y = 0) : metI gX gY gF mp y (uZ gT me (i : Int)) (me + 1) (i + 1) := by
  obtain ⟨h1, h2, h3⟩ := h
  refine ⟨by omega, fun t ht => ?_, fun k => ?_⟩
  · unfold uZ
    by_cases e : t = me
    · rw [if_pos e]
      exact ⟨by omega, by omega, h0⟩
    · rw [if_neg e]
      exact h2 t (by omega)
  · rw [wiM_succ, ← h3 k]
    show sm _ me + ctM gX gY gF mp y k (uZ gT me (i : Int) me).toNat = _
    have e1 : (uZ gT me (i : Int) me).toNat = i := by unfold uZ; rw [if_pos rfl]; exact Int.toNat_natCast i
    rw [e1]
    congr 1
    refine sm_congr (fun t ht => ?_)
    unfold uZ
    rw [if_neg (by omega)]
/-- a pixel ahead of column c of row r -/
def ahead (cs r c p : Nat) : Prop := (p / 256 < r ∨ (p / 256 = r ∧ p % 256 < c)) ∧ p % 256 < cs
theorem ahead_0 (cs p : Nat) : ¬ ahead cs 0 0 p := fun h => by unfold ahead at h; omega
theorem ahead_S {cs r c p : Nat} (hc : c < cs) (hcs : cs ≤ 256) : ahead cs r (c + 1) p ↔ ahead cs r c p ∨ p = 256 * r + c := by
  unfold ahead
  omega
theorem ahead_R {cs r c p : Nat} (hc : cs ≤ c) : ahead cs r c p ↔ ahead cs (r + 1) 0 p := by
  unfold ahead
  omega
theorem ahead_E {cs rs r k : Nat} (hr : r < rs) (hk : k < cs) (hcs : cs ≤ 256) : ahead cs rs 0 (256 * r + k) := by
  unfold ahead
  omega
theorem bgG_S (f : Nat → Bool) (e c : Nat) (o : Bool) (h : c < e) : bgG f (e - c) c o = (if f c = true ∧ o = false then 1 else 0) + bgG f (e - (c + 1)) (c + 1) (f c) := by
  rw [show e - c = (e - (c + 1)) + 1 by omega]
  rfl
theorem cnG_S (f : Nat → Bool) (e c : Nat) (h : c < e) : cnG f (e - c) c = (if f c = true then 1 else 0) + cnG f (e - (c + 1)) (c + 1) := by
  rw [show e - c = (e - (c + 1)) + 1 by omega]
  rfl
theorem canP_S (F : Nat → Nat → Bool) (cs rs r : Nat) (h : r < rs) : canP F cs (rs - r) r = cutG (F r) r cs 0 none ++ canP F cs (rs - (r + 1)) (r + 1) := by
  rw [show rs - r = (rs - (r + 1)) + 1 by omega]
  rfl
theorem canP_lenR (F : Nat → Nat → Bool) (cs rs r : Nat) (h : r < rs) : (canP F cs (rs - r) r).length = bgG (F r) cs 0 false + (canP F cs (rs - (r + 1)) (r + 1)).length := by
  rw [canP_S F cs rs r h, List.length_append, (len_cutG (F r) r cs 0).1]
theorem canP_lenSR (F : Nat → Nat → Bool) (cs rs r : Nat) (h : r < rs) : lenS (canP F cs (rs - r) r) = cnG (F r) cs 0 + lenS (canP F cs (rs - (r + 1)) (r + 1)) := by
  rw [canP_S F cs rs r h, lenS_app, (lenS_cutG (F r) r cs 0).1]
/-- the runs of the clip number j -/
def canJ (fM : Nat → Int) (cs rs j : Nat) : List Run3 := canP (mkF fM j) cs rs 0
/-- the runs of the first n clips -/
def rnJ (fM : Nat → Int) (cs rs : Nat) : Nat → Nat
  | 0 => 0
  | n + 1 => rnJ fM cs rs n + (canJ fM cs rs n).length
theorem canJ_len (fM : Nat → Int) {cs rs : Nat} (j : Nat) (hc : cs ≤ 256) (hr : rs ≤ 256) : (canJ fM cs rs j).length ≤ 32768 := by
  have h1 := canP_len (mkF fM j) cs rs 0
  have h2 : (cs + 1) / 2 * rs ≤ 128 * 256 := Nat.mul_le_mul (by omega) hr
  unfold canJ
  omega
theorem rnJ_le (fM : Nat → Int) {cs rs : Nat} (hc : cs ≤ 256) (hr : rs ≤ 256) : ∀ n, rnJ fM cs rs n ≤ 32768 * n := by
  intro n
  induction n with
  | zero => exact Nat.le_refl _
  | succ n ih =>
    have := canJ_len fM n hc hr
    show rnJ fM cs rs n + (canJ fM cs rs n).length ≤ _
    omega
theorem rnJ_congr {fM fM' : Nat → Int} {cs rs : Nat} : ∀ n, (∀ j r k, j < n → r < rs → k < cs → mkF fM j r k = mkF fM' j r k) → rnJ fM cs rs n = rnJ fM' cs rs n := by
  intro n
  induction n with
  | zero => intro _; rfl
  | succ n ih =>
    intro h
    show rnJ fM cs rs n + (canJ fM cs rs n).length = rnJ fM' cs rs n + (canJ fM' cs rs n).length
    rw [ih (fun j r k hj => h j r k (by omega))]
    unfold canJ
    rw [canP_congr cs rs 0 (fun r k _ h2 h3 => h n r k (by omega) (by omega) h3)]
/-! PAINTING AND CUTTING IN THE REFERENCE, pixel by pixel -/
theorem iI_and255 (a : Int) : iI a &&& iI 255 = iI (a % 256) := by
  rw [pk_and (iI a) 8 (by decide +kernel)]
  show Int32.ofNat ((BitVec.ofInt 32 a).toNat % 2 ^ 8) = iI (a % 256)
  rw [iI_nat, BitVec.toNat_ofInt]
  congr 1
  omega
def paB (G : Nat → Nat → Bool) (cs r c : Nat) (bv : Int) (fB fK : Nat → Int) : Prop := ∀ p, (ahead cs r c p ∧ G (p / 256) (p % 256) = true → fK p = bv) ∧ (¬ (ahead cs r c p ∧ G (p / 256) (p % 256) = true) → fK p = fB p)
theorem paB_0 (G : Nat → Nat → Bool) (cs : Nat) (bv : Int) (fB : Nat → Int) : paB G cs 0 0 bv fB fB := fun p => ⟨fun h => absurd h.1 (ahead_0 cs p), fun _ => rfl⟩
theorem paB_hit {G : Nat → Nat → Bool} {cs r c : Nat} {bv : Int} {fB fK : Nat → Int} (h : paB G cs r c bv fB fK) (hc : c < cs) (hcs : cs ≤ 256) (hG : G r c = true) : paB G cs r (c + 1) bv fB (uZ fK (256 * r + c) bv) := by
  intro p
  obtain ⟨h1, h2⟩ := h p
  unfold uZ
  by_cases e : p = 256 * r + c
  · rw [if_pos e]
    refine ⟨fun _ => rfl, fun w => absurd ⟨(ahead_S hc hcs).mpr (Or.inr e), ?_⟩ w⟩
    rw [e, show (256 * r + c) / 256 = r by omega, show (256 * r + c) % 256 = c by omega]
    exact hG
  · rw [if_neg e]
    refine ⟨fun w => h1 ⟨((ahead_S hc hcs).mp w.1).resolve_right e, w.2⟩, fun w => h2 (fun q => w ⟨(ahead_S hc hcs).mpr (Or.inl q.1), q.2⟩)⟩
theorem paB_miss {G : Nat → Nat → Bool} {cs r c : Nat} {bv : Int} {fB fK : Nat → Int} (h : paB G cs r c bv fB fK) (hc : c < cs) (hcs : cs ≤ 256) (hG : G r c = false) : paB G cs r (c + 1) bv fB fK := by
  intro p
  obtain ⟨h1, h2⟩ := h p
  have key : (ahead cs r (c + 1) p ∧ G (p / 256) (p % 256) = true) → (ahead cs r c p ∧ G (p / 256) (p % 256) = true) := by
    rintro ⟨w1, w2⟩
    refine ⟨((ahead_S hc hcs).mp w1).resolve_right (fun e => ?_), w2⟩
    rw [e, show (256 * r + c) / 256 = r by omega, show (256 * r + c) % 256 = c by omega, hG] at w2
    cases w2
  exact ⟨fun w => h1 (key w), fun w => h2 (fun q => w ⟨(ahead_S hc hcs).mpr (Or.inl q.1), q.2⟩)⟩
theorem paB_row {G : Nat → Nat → Bool} {cs r c : Nat} {bv : Int} {fB fK : Nat → Int} (h : paB G cs r c bv fB fK) (hc : cs ≤ c) : paB G cs (r + 1) 0 bv fB fK := by
  intro p
  have := h p
  rw [ahead_R hc] at this
  exact this
theorem paB_end {G : Nat → Nat → Bool} {cs rs : Nat} {bv : Int} {fB fK : Nat → Int} (h : paB G cs rs 0 bv fB fK) (hcs : cs ≤ 256) {r k : Nat} (hr : r < rs) (hk : k < cs) : (G r k = true → fK (256 * r + k) = bv) ∧ (G r k = false → fK (256 * r + k) = fB (256 * r + k)) := by
  have := h (256 * r + k)
  rw [show (256 * r + k) / 256 = r by omega, show (256 * r + k) % 256 = k by omega] at this
  exact ⟨fun w => this.1 ⟨ahead_E hr hk hcs, w⟩, fun w => this.2 (fun q => by rw [w] at q; cases q.2)⟩
def mRng (fM : Nat → Int) : Prop := ∀ p, p < 65536 → 0 ≤ fM p ∧ fM p < 16384
/-- bit j is G's ahead of (r, c), the other bits are fM's -/
def cpB (G : Nat → Nat → Bool) (j cs r c : Nat) (fM fK : Nat → Int) : Prop := mRng fK ∧ (∀ p, p < 65536 → ∀ i, ¬ i = j → (fK p).toNat.testBit i = (fM p).toNat.testBit i) ∧ ∀ p, p < 65536 → ahead cs r c p → (fK p).toNat.testBit j = G (p / 256) (p % 256)
theorem cpB_0 (G : Nat → Nat → Bool) (j cs : Nat) {fM : Nat → Int} (h : mRng fM) : cpB G j cs 0 0 fM fM := ⟨h, fun _ _ _ _ => rfl, fun p _ w => absurd w (ahead_0 cs p)⟩
theorem cpB_S {G : Nat → Nat → Bool} {j cs r c : Nat} {fM fK fL : Nat → Int} {ob : Int} (h : cpB G j cs r c fM fK) (hc : c < cs) (hcs : cs ≤ 256) (hob : decide (ob = 1) = G r c)
    (hL : (∀ p, ¬ p = 256 * r + c → fL p = fK p) ∧ (0 ≤ fL (256 * r + c) ∧ fL (256 * r + c) < 16384) ∧ ∀ i, (fL (256 * r + c)).toNat.testBit i = if i = j then decide (ob = 1) else (fK (256 * r + c)).toNat.testBit i) : cpB G j cs r (c + 1) fM fL := by
  obtain ⟨h1, h2, h3⟩ := h
  obtain ⟨l1, l2, l3⟩ := hL
  refine ⟨fun p hp => ?_, fun p hp i hi => ?_, fun p hp w => ?_⟩
  · by_cases e : p = 256 * r + c
    · rw [e]; exact l2
    · rw [l1 p e]; exact h1 p hp
  · by_cases e : p = 256 * r + c
    · rw [e, l3 i, if_neg hi, ← e]; exact h2 p hp i hi
    · rw [l1 p e]; exact h2 p hp i hi
  · by_cases e : p = 256 * r + c
    · rw [e, l3 j, if_pos rfl, hob, show (256 * r + c) / 256 = r by omega, show (256 * r + c) % 256 = c by omega]
    · rw [l1 p e]; exact h3 p hp (((ahead_S hc hcs).mp w).resolve_right e)
theorem cpB_row {G : Nat → Nat → Bool} {j cs r c : Nat} {fM fK : Nat → Int} (h : cpB G j cs r c fM fK) (hc : cs ≤ c) : cpB G j cs (r + 1) 0 fM fK := ⟨h.1, h.2.1, fun p hp w => h.2.2 p hp ((ahead_R hc).mpr w)⟩
theorem cpB_end {G : Nat → Nat → Bool} {j cs rs : Nat} {fM fK : Nat → Int} (h : cpB G j cs rs 0 fM fK) (hcs : cs ≤ 256) (hrs : rs ≤ 256) {r k : Nat} (hr : r < rs) (hk : k < cs) : mkF fK j r k = G r k := by
  have := h.2.2 (256 * r + k) (by omega) (ahead_E hr hk hcs)
  rw [show (256 * r + k) / 256 = r by omega, show (256 * r + k) % 256 = k by omega] at this
  exact this
theorem cpB_old {G : Nat → Nat → Bool} {j cs r c : Nat} {fM fK : Nat → Int} (h : cpB G j cs r c fM fK) {i q k : Nat} (hi : ¬ i = j) (hq : q < 256) (hk : k < 256) : mkF fK i q k = mkF fM i q k := h.2.1 (256 * q + k) (by omega) i hi
theorem cn_0 (f : Nat → Bool) (k : Nat) : cnG f 0 k = 0 := rfl
theorem bg_0 (f : Nat → Bool) (k : Nat) (o : Bool) : bgG f 0 k o = 0 := rfl
theorem canP_0 (F : Nat → Nat → Bool) (cs r : Nat) : canP F cs 0 r = [] := rfl
/-- a pixel of the clip mv that is inside the outline -/
def gM (fM gX gY gF : Nat → Int) (mp mv : Nat) (rl : Int) (r k : Nat) : Bool := mkF fM mv r k && gW gX gY (nxZ gF mp) mp rl r k
