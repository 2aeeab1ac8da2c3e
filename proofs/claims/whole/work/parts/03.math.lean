/-! THE WORDS FOR THE STATE: sums, an edge's step and column, runs as triples (row, first column, column behind the last) -/
def sm (f : Nat → Int) : Nat → Int
  | 0 => 0
  | n + 1 => sm f n + f n
def stZ (b d y : Int) : Int := if b ≤ y ∧ y < d then 1 else if d ≤ y ∧ y < b then -1 else 0
def coZ (a b c d y : Int) : Int := (a - (-(c - a) * (y - b)).fdiv (d - b) + 32767) / 65536
/-- what an edge gives to the winding number at a column -/
def ctZ (a b c d y k : Int) : Int := if stZ b d y ≠ 0 ∧ coZ a b c d y ≤ k then stZ b d y else 0
/-- the winding number at the row's centre y and the column k, by the first n points -/
def wiZ (fX fY fN : Nat → Int) (n : Nat) (y k : Int) : Int := sm (fun i => ctZ (fX i) (fY i) (fX (fN i).toNat) (fY (fN i).toNat) y k) n
abbrev Run3 : Type := Nat × Nat × Nat
def enc (x : Run3) : Nat := x.1 * 262144 + x.2.1 * 512 + x.2.2
def runOk (cs rs : Nat) (x : Run3) : Prop := x.1 < rs ∧ x.2.1 < x.2.2 ∧ x.2.2 ≤ cs
/-- a row of ints holds a list of runs from a place on -/
def segL (f : Nat → Int) : Nat → List Run3 → Prop
  | _, [] => True
  | i, x :: T => f i = ((enc x : Nat) : Int) ∧ segL f (i + 1) T
def lenS : List Run3 → Nat
  | [] => 0
  | x :: T => (x.2.2 - x.2.1) + lenS T
def memL (L : List Run3) (r k : Nat) : Prop := ∃ x ∈ L, x.1 = r ∧ x.2.1 ≤ k ∧ k < x.2.2
theorem enc_row {x : Run3} {cs rs : Nat} (h : runOk cs rs x) (hc : cs ≤ 256) : enc x / 262144 = x.1 := by
  obtain ⟨h1, h2, h3⟩ := h
  unfold enc
  omega
theorem enc_from {x : Run3} {cs rs : Nat} (h : runOk cs rs x) (hc : cs ≤ 256) : enc x / 512 % 512 = x.2.1 := by
  obtain ⟨h1, h2, h3⟩ := h
  unfold enc
  omega
theorem enc_end {x : Run3} {cs rs : Nat} (h : runOk cs rs x) (hc : cs ≤ 256) : enc x % 512 = x.2.2 := by
  obtain ⟨h1, h2, h3⟩ := h
  unfold enc
  omega
theorem enc_lt {x : Run3} {cs rs : Nat} (h : runOk cs rs x) (hc : cs ≤ 256) (hr : rs ≤ 256) : enc x < 134217728 := by
  obtain ⟨h1, h2, h3⟩ := h
  unfold enc
  omega
theorem stZ_cases (b d y : Int) : (stZ b d y = 1 ∧ b ≤ y ∧ y < d) ∨ (stZ b d y = -1 ∧ d ≤ y ∧ y < b) ∨ (stZ b d y = 0 ∧ ¬ (b ≤ y ∧ y < d) ∧ ¬ (d ≤ y ∧ y < b)) := by
  unfold stZ
  by_cases h1 : b ≤ y ∧ y < d
  · rw [if_pos h1]; exact Or.inl ⟨rfl, h1⟩
  · rw [if_neg h1]
    by_cases h2 : d ≤ y ∧ y < b
    · rw [if_pos h2]; exact Or.inr (Or.inl ⟨rfl, h2⟩)
    · rw [if_neg h2]; exact Or.inr (Or.inr ⟨rfl, h1, h2⟩)
/-! CUTTING RUNS: cutG f r n c o scans n columns from c on; o is the start of the run that stands begun -/
def cutG (f : Nat → Bool) (r : Nat) : Nat → Nat → Option Nat → List Run3
  | 0, _, none => []
  | 0, c, some a => [(r, a, c)]
  | n + 1, c, none => if f c = true then cutG f r n (c + 1) (some c) else cutG f r n (c + 1) none
  | n + 1, c, some a => if f c = true then cutG f r n (c + 1) (some a) else (r, a, c) :: cutG f r n (c + 1) none
theorem cutG_S0 (f : Nat → Bool) (r n c : Nat) : cutG f r (n + 1) c none = if f c = true then cutG f r n (c + 1) (some c) else cutG f r n (c + 1) none := rfl
theorem cutG_S1 (f : Nat → Bool) (r n c a : Nat) : cutG f r (n + 1) c (some a) = if f c = true then cutG f r n (c + 1) (some a) else (r, a, c) :: cutG f r n (c + 1) none := rfl
def cutA (g : Nat → Nat → Bool) : List Run3 → List Run3
  | [] => []
  | x :: T => cutG (g x.1) x.1 (x.2.2 - x.2.1) x.2.1 none ++ cutA g T
theorem cutA_app (g : Nat → Nat → Bool) (S T : List Run3) : cutA g (S ++ T) = cutA g S ++ cutA g T := by
  induction S with
  | nil => rfl
  | cons x S ih => simp only [List.cons_append, cutA, ih, List.append_assoc]
theorem cutG_congr {f g : Nat → Bool} (r : Nat) : ∀ (n c : Nat) (o : Option Nat), (∀ k, c ≤ k → k < c + n → f k = g k) → cutG f r n c o = cutG g r n c o := by
  intro n
  induction n with
  | zero => intro c o _; cases o <;> rfl
  | succ n ih =>
    intro c o h
    have h0 := h c (Nat.le_refl _) (by omega)
    have h1 : ∀ o, cutG f r n (c + 1) o = cutG g r n (c + 1) o := fun o => ih (c + 1) o (fun k h2 h3 => h k (by omega) (by omega))
    cases o with
    | none => simp only [cutG, h0, h1]
    | some a => simp only [cutG, h0, h1]
theorem cutG_split {h : Nat → Bool} (r n : Nat) : ∀ (m a : Nat) (o : Option Nat), h (a + m) = false → cutG h r (m + (n + 1)) a o = cutG h r m a o ++ cutG h r n (a + m + 1) none := by
  intro m
  induction m with
  | zero =>
    intro a o hf
    rw [Nat.add_zero] at hf
    rw [Nat.zero_add, Nat.add_zero]
    cases o with
    | none => simp only [cutG, hf, List.nil_append]; rfl
    | some b => simp only [cutG, hf, List.cons_append, List.nil_append]; rfl
  | succ m ih =>
    intro a o hf
    have e : m + 1 + (n + 1) = (m + (n + 1)) + 1 := by omega
    rw [e]
    have hf2 : h (a + 1 + m) = false := by rw [show a + 1 + m = a + (m + 1) by omega]; exact hf
    have e2 : a + (m + 1) + 1 = a + 1 + m + 1 := by omega
    rw [e2]
    cases o with
    | none =>
      rw [cutG_S0 h r (m + (n + 1)) a, cutG_S0 h r m a]
      by_cases hc : h a = true
      · rw [if_pos hc, if_pos hc]
        exact ih (a + 1) (some a) hf2
      · rw [if_neg hc, if_neg hc]
        exact ih (a + 1) none hf2
    | some b =>
      rw [cutG_S1 h r (m + (n + 1)) a b, cutG_S1 h r m a b]
      by_cases hc : h a = true
      · rw [if_pos hc, if_pos hc]
        exact ih (a + 1) (some b) hf2
      · rw [if_neg hc, if_neg hc, ih (a + 1) none hf2, List.cons_append]
/-- cutting the runs of f by g gives the runs of both -/
theorem cutA_cutG (f : Nat → Bool) (g : Nat → Nat → Bool) (r : Nat) : ∀ (n c : Nat), (cutA g (cutG f r n c none) = cutG (fun k => f k && g r k) r n c none) ∧ (∀ a, a ≤ c → (∀ k, a ≤ k → k < c → f k = true) → cutA g (cutG f r n c (some a)) = cutG (fun k => f k && g r k) r (c - a + n) a none) := by
  intro n
  induction n with
  | zero =>
    intro c
    refine ⟨rfl, fun a ha hf => ?_⟩
    simp only [cutG, cutA, List.append_nil, Nat.add_zero]
    refine cutG_congr r (c - a) a none (fun k h1 h2 => ?_)
    rw [hf k h1 (by omega), Bool.true_and]
  | succ n ih =>
    intro c
    obtain ⟨ih1, ih2⟩ := ih (c + 1)
    constructor
    · simp only [cutG]
      by_cases hc : f c = true
      · rw [if_pos hc, ih2 c (by omega) (fun k h1 h2 => by rw [show k = c by omega]; exact hc), show c + 1 - c + n = n + 1 by omega]
        simp only [cutG]
      · rw [if_neg hc, ih1]
        have hc2 : f c = false := Bool.eq_false_iff.mpr hc
        rw [if_neg (by rw [hc2, Bool.false_and]; exact Bool.false_ne_true)]
    · intro a ha hf
      rw [cutG_S1 f r n c a]
      by_cases hc : f c = true
      · rw [if_pos hc, ih2 a (by omega) (fun k h1 h2 => by
          rcases Nat.lt_or_ge k c with q | q
          · exact hf k h1 q
          · rw [show k = c by omega]; exact hc), show c + 1 - a + n = c - a + (n + 1) by omega]
      · rw [if_neg hc]
        have hc2 : f c = false := Bool.eq_false_iff.mpr hc
        rw [cutG_split (h := fun k => f k && g r k) r n (c - a) a none (by show (f (a + (c - a)) && g r (a + (c - a))) = false; rw [show a + (c - a) = c by omega, hc2, Bool.false_and]), show a + (c - a) + 1 = c + 1 by omega]
        simp only [cutA]
        rw [ih1]
        congr 1
        refine cutG_congr r (c - a) a none (fun k h1 h2 => ?_)
        rw [hf k h1 (by omega), Bool.true_and]
theorem memL_nil (r k : Nat) : ¬ memL [] r k := fun ⟨_, h, _⟩ => absurd h List.not_mem_nil
theorem memL_cons (x : Run3) (T : List Run3) (r k : Nat) : memL (x :: T) r k ↔ (x.1 = r ∧ x.2.1 ≤ k ∧ k < x.2.2) ∨ memL T r k := by
  constructor
  · rintro ⟨y, hy, h⟩
    rcases List.mem_cons.mp hy with q | q
    · left; rw [← q]; exact h
    · right; exact ⟨y, q, h⟩
  · rintro (h | ⟨y, hy, h⟩)
    · exact ⟨x, List.mem_cons_self, h⟩
    · exact ⟨y, List.mem_cons_of_mem _ hy, h⟩
theorem memL_app (S T : List Run3) (r k : Nat) : memL (S ++ T) r k ↔ memL S r k ∨ memL T r k := by
  constructor
  · rintro ⟨y, hy, h⟩
    rcases List.mem_append.mp hy with q | q
    · exact Or.inl ⟨y, q, h⟩
    · exact Or.inr ⟨y, q, h⟩
  · rintro (⟨y, hy, h⟩ | ⟨y, hy, h⟩)
    · exact ⟨y, List.mem_append_left _ hy, h⟩
    · exact ⟨y, List.mem_append_right _ hy, h⟩
/-- the pixels of the runs of f -/
theorem memL_cutG (f : Nat → Bool) (r : Nat) : ∀ (n c : Nat), (∀ r' k, memL (cutG f r n c none) r' k ↔ r' = r ∧ c ≤ k ∧ k < c + n ∧ f k = true) ∧ (∀ a, a ≤ c → ∀ r' k, memL (cutG f r n c (some a)) r' k ↔ r' = r ∧ ((a ≤ k ∧ k < c) ∨ (c ≤ k ∧ k < c + n ∧ f k = true))) := by
  intro n
  induction n with
  | zero =>
    intro c
    refine ⟨fun r' k => ?_, fun a ha r' k => ?_⟩
    · simp only [cutG]
      exact ⟨fun h => absurd h (memL_nil _ _), fun h => by omega⟩
    · simp only [cutG]
      rw [memL_cons]
      constructor
      · rintro (⟨h1, h2, h3⟩ | h)
        · exact ⟨h1.symm, Or.inl ⟨h2, h3⟩⟩
        · exact absurd h (memL_nil _ _)
      · rintro ⟨h1, h2 | h2⟩
        · exact Or.inl ⟨h1.symm, h2⟩
        · omega
  | succ n ih =>
    intro c
    obtain ⟨ih1, ih2⟩ := ih (c + 1)
    refine ⟨fun r' k => ?_, fun a ha r' k => ?_⟩
    · simp only [cutG]
      by_cases hc : f c = true
      · rw [if_pos hc, ih2 c (by omega)]
        constructor
        · rintro ⟨h1, h2 | ⟨h2, h3, h4⟩⟩
          · exact ⟨h1, by omega, by omega, by rw [show k = c by omega]; exact hc⟩
          · exact ⟨h1, by omega, by omega, h4⟩
        · rintro ⟨h1, h2, h3, h4⟩
          refine ⟨h1, ?_⟩
          rcases Nat.lt_or_ge c k with q | q
          · exact Or.inr ⟨q, by omega, h4⟩
          · exact Or.inl ⟨h2, by omega⟩
      · rw [if_neg hc, ih1]
        constructor
        · rintro ⟨h1, h2, h3, h4⟩
          exact ⟨h1, by omega, by omega, h4⟩
        · rintro ⟨h1, h2, h3, h4⟩
          refine ⟨h1, ?_, by omega, h4⟩
          rcases Nat.lt_or_ge c k with q | q
          · exact q
          · exact absurd (by rw [show c = k by omega]; exact h4) hc
    · simp only [cutG]
      by_cases hc : f c = true
      · rw [if_pos hc, ih2 a (by omega)]
        constructor
        · rintro ⟨h1, h2 | ⟨h2, h3, h4⟩⟩
          · refine ⟨h1, ?_⟩
            rcases Nat.lt_or_ge k c with q | q
            · exact Or.inl ⟨h2.1, q⟩
            · exact Or.inr ⟨q, by omega, by rw [show k = c by omega]; exact hc⟩
          · exact ⟨h1, Or.inr ⟨by omega, by omega, h4⟩⟩
        · rintro ⟨h1, h2 | ⟨h2, h3, h4⟩⟩
          · exact ⟨h1, Or.inl ⟨h2.1, by omega⟩⟩
          · refine ⟨h1, ?_⟩
            rcases Nat.lt_or_ge c k with q | q
            · exact Or.inr ⟨q, by omega, h4⟩
            · exact Or.inl ⟨by omega, by omega⟩
      · rw [if_neg hc, memL_cons, ih1]
        constructor
        · rintro (⟨h1, h2, h3⟩ | ⟨h1, h2, h3, h4⟩)
          · exact ⟨h1.symm, Or.inl ⟨h2, h3⟩⟩
          · exact ⟨h1, Or.inr ⟨by omega, by omega, h4⟩⟩
        · rintro ⟨h1, h2 | ⟨h2, h3, h4⟩⟩
          · exact Or.inl ⟨h1.symm, h2⟩
          · refine Or.inr ⟨h1, ?_, by omega, h4⟩
            rcases Nat.lt_or_ge c k with q | q
            · exact q
            · exact absurd (by rw [show c = k by omega]; exact h4) hc
/-- every run of f lies in its row, isn't empty, ends in the columns -/
theorem cutG_ok (f : Nat → Bool) (r cs rs : Nat) (hr : r < rs) : ∀ (n c : Nat) (o : Option Nat), c + n ≤ cs → (∀ a, o = some a → a < c) → ∀ x ∈ cutG f r n c o, runOk cs rs x := by
  intro n
  induction n with
  | zero =>
    intro c o hc ho x hx
    cases o with
    | none => simp [cutG] at hx
    | some a =>
      simp only [cutG, List.mem_singleton] at hx
      subst hx
      exact ⟨hr, ho a rfl, by omega⟩
  | succ n ih =>
    intro c o hc ho x hx
    cases o with
    | none =>
      simp only [cutG] at hx
      split at hx
      · exact ih (c + 1) (some c) (by omega) (fun a h => by cases h; omega) x hx
      · exact ih (c + 1) none (by omega) (fun a h => by cases h) x hx
    | some a =>
      have h0 := ho a rfl
      simp only [cutG] at hx
      split at hx
      · exact ih (c + 1) (some a) (by omega) (fun b h => by cases h; omega) x hx
      · rcases List.mem_cons.mp hx with q | q
        · subst q
          exact ⟨hr, h0, by show c ≤ cs; omega⟩
        · exact ih (c + 1) none (by omega) (fun a h => by cases h) x q
/-- how many runs n columns can have -/
theorem cutG_len (f : Nat → Bool) (r : Nat) : ∀ (n c : Nat), 2 * (cutG f r n c none).length ≤ n + 1 ∧ ∀ a, 2 * (cutG f r n c (some a)).length ≤ n + 2 := by
  intro n
  induction n with
  | zero => intro c; simp [cutG]
  | succ n ih =>
    intro c
    obtain ⟨h1, h2⟩ := ih (c + 1)
    refine ⟨?_, fun a => ?_⟩
    · simp only [cutG]
      split
      · have := h2 c; omega
      · omega
    · simp only [cutG]
      split
      · have := h2 a; omega
      · rw [List.length_cons]; omega
theorem lenS_app (S T : List Run3) : lenS (S ++ T) = lenS S + lenS T := by
  induction S with
  | nil => simp [lenS]
  | cons x S ih => simp only [List.cons_append, lenS, ih]; omega
/-- how many of n columns from c on are in f -/
def cnG (f : Nat → Bool) : Nat → Nat → Nat
  | 0, _ => 0
  | n + 1, c => (if f c = true then 1 else 0) + cnG f n (c + 1)
theorem lenS_cutG (f : Nat → Bool) (r : Nat) : ∀ (n c : Nat), lenS (cutG f r n c none) = cnG f n c ∧ ∀ a, a ≤ c → lenS (cutG f r n c (some a)) = (c - a) + cnG f n c := by
  intro n
  induction n with
  | zero =>
    intro c
    refine ⟨rfl, fun a ha => ?_⟩
    simp only [cutG, lenS, cnG]
  | succ n ih =>
    intro c
    obtain ⟨h1, h2⟩ := ih (c + 1)
    refine ⟨?_, fun a ha => ?_⟩
    · simp only [cutG, cnG]
      split
      · rw [h2 c (by omega)]; omega
      · rw [h1]; omega
    · simp only [cutG, cnG]
      split
      · rw [h2 a (by omega)]; omega
      · simp only [lenS]
        rw [h1]; omega
/-- how many runs begin in n columns from c on; o: whether one stands begun -/
def bgG (f : Nat → Bool) : Nat → Nat → Bool → Nat
  | 0, _, _ => 0
  | n + 1, c, o => (if f c = true ∧ o = false then 1 else 0) + bgG f n (c + 1) (f c)
theorem len_cutG (f : Nat → Bool) (r : Nat) : ∀ (n c : Nat), (cutG f r n c none).length = bgG f n c false ∧ ∀ a, (cutG f r n c (some a)).length = 1 + bgG f n c true := by
  intro n
  induction n with
  | zero => intro c; exact ⟨rfl, fun a => rfl⟩
  | succ n ih =>
    intro c
    obtain ⟨h1, h2⟩ := ih (c + 1)
    refine ⟨?_, fun a => ?_⟩
    · simp only [cutG, bgG]
      by_cases hc : f c = true
      · rw [if_pos hc, if_pos ⟨hc, trivial⟩, h2 c, hc]
      · rw [if_neg hc, if_neg (fun q => hc q.1), h1, Bool.eq_false_iff.mpr hc]; omega
    · simp only [cutG, bgG]
      by_cases hc : f c = true
      · rw [if_pos hc, if_neg (fun q => by simp at q), h2 a, hc]; omega
      · rw [if_neg hc, if_neg (fun q => hc q.1), List.length_cons, h1, Bool.eq_false_iff.mpr hc]; omega
/-! AN EDGE'S COLUMN: exact, and near -/
theorem fd_le {n h t : Int} (hh : 0 < h) : t ≤ n.fdiv h ↔ t * h ≤ n := by
  rw [Int.fdiv_eq_ediv_of_nonneg _ (Int.le_of_lt hh)]
  exact Int.le_ediv_iff_mul_le hh
theorem fd_leN {n h t : Int} (hh : h < 0) : t ≤ n.fdiv h ↔ n ≤ t * h := by
  rw [← Int.neg_fdiv_neg, fd_le (by omega), Int.mul_neg]
  omega
/-- the first column is at most k just when the edge's exact place isn't right of the centre -/
theorem coZ_pos {a b c d y k : Int} (h : 0 < d - b) : coZ a b c d y ≤ k ↔ (c - a) * (y - b) ≤ (65536 * k + 32768 - a) * (d - b) := by
  have e1 : coZ a b c d y ≤ k ↔ a - (65536 * k + 32768) ≤ (-(c - a) * (y - b)).fdiv (d - b) := by
    unfold coZ
    omega
  have e2 : (a - (65536 * k + 32768)) * (d - b) = -((65536 * k + 32768 - a) * (d - b)) := by
    rw [← Int.neg_mul]
    congr 1
    omega
  have e3 : -(c - a) * (y - b) = -((c - a) * (y - b)) := Int.neg_mul _ _
  rw [e1, fd_le h, e2, e3]
  omega
theorem coZ_neg {a b c d y k : Int} (h : d - b < 0) : coZ a b c d y ≤ k ↔ (65536 * k + 32768 - a) * (d - b) ≤ (c - a) * (y - b) := by
  have e1 : coZ a b c d y ≤ k ↔ a - (65536 * k + 32768) ≤ (-(c - a) * (y - b)).fdiv (d - b) := by
    unfold coZ
    omega
  have e2 : (a - (65536 * k + 32768)) * (d - b) = -((65536 * k + 32768 - a) * (d - b)) := by
    rw [← Int.neg_mul]
    congr 1
    omega
  have e3 : -(c - a) * (y - b) = -((c - a) * (y - b)) := Int.neg_mul _ _
  rw [e1, fd_leN h, e2, e3]
  omega
theorem mul_between {u v w : Int} (hv : 0 ≤ v) (hvw : v ≤ w) (hu : -1073741824 ≤ u ∧ u ≤ 1073741824) : -1073741824 * w ≤ u * v ∧ u * v ≤ 1073741824 * w := by
  have h1 : u * v ≤ 1073741824 * v := Int.mul_le_mul_of_nonneg_right hu.2 hv
  have h2 : -1073741824 * v ≤ u * v := Int.mul_le_mul_of_nonneg_right hu.1 hv
  omega
theorem coZ_rng {a b c d y : Int} (ha : -536870912 ≤ a ∧ a ≤ 536870912) (hc : -536870912 ≤ c ∧ c ≤ 536870912) (hx : (b ≤ y ∧ y < d) ∨ (d ≤ y ∧ y < b)) : -30000 ≤ coZ a b c d y ∧ coZ a b c d y ≤ 30000 := by
  rcases hx with hx | hx
  · have hp : 0 < d - b := by omega
    have hm := mul_between (u := c - a) (v := y - b) (w := d - b) (by omega) (by omega) (by omega)
    constructor
    · apply Int.not_lt.mp
      intro q
      have q2 : coZ a b c d y ≤ -30001 := by omega
      rw [coZ_pos hp] at q2
      have q3 : (65536 * -30001 + 32768 - a) * (d - b) ≤ -1073741825 * (d - b) := Int.mul_le_mul_of_nonneg_right (by omega) (by omega)
      omega
    · rw [coZ_pos hp]
      have q3 : 1073741824 * (d - b) ≤ (65536 * 30000 + 32768 - a) * (d - b) := Int.mul_le_mul_of_nonneg_right (by omega) (by omega)
      omega
  · have hp : d - b < 0 := by omega
    have hm := mul_between (u := c - a) (v := b - y) (w := b - d) (by omega) (by omega) (by omega)
    have e0 : (c - a) * (b - y) = -((c - a) * (y - b)) := by
      rw [← Int.mul_neg]
      congr 1
      omega
    have e1 : ∀ t : Int, t * (d - b) = -(t * (b - d)) := fun t => by
      rw [← Int.mul_neg]
      congr 1
      omega
    constructor
    · apply Int.not_lt.mp
      intro q
      have q2 : coZ a b c d y ≤ -30001 := by omega
      rw [coZ_neg hp, e1] at q2
      have q3 : (65536 * -30001 + 32768 - a) * (b - d) ≤ -1073741825 * (b - d) := Int.mul_le_mul_of_nonneg_right (by omega) (by omega)
      omega
    · rw [coZ_neg hp, e1]
      have q3 : 1073741824 * (b - d) ≤ (65536 * 30000 + 32768 - a) * (b - d) := Int.mul_le_mul_of_nonneg_right (by omega) (by omega)
      omega
theorem prod_rng {u v : Int} (hu : -1073741824 ≤ u ∧ u ≤ 1073741824) (hv : -1073741824 ≤ v ∧ v ≤ 1073741824) : -1152921504606846976 ≤ u * v ∧ u * v ≤ 1152921504606846976 := by
  rcases Int.le_total 0 v with h | h
  · have := mul_between (u := u) (v := v) (w := 1073741824) h hv.2 hu
    omega
  · have := mul_between (u := u) (v := -v) (w := 1073741824) (by omega) (by omega) hu
    rw [Int.mul_neg] at this
    omega
theorem wiZ_succ (fX fY fN : Nat → Int) (n : Nat) (y k : Int) : wiZ fX fY fN (n + 1) y k = wiZ fX fY fN n y k + ctZ (fX n) (fY n) (fX (fN n).toNat) (fY (fN n).toNat) y k := rfl
theorem ctZ_no {a b c d y k : Int} (h : stZ b d y = 0) : ctZ a b c d y k = 0 := by
  unfold ctZ
  rw [if_neg (fun q => q.1 h)]
theorem ctZ_out {a b c d y k : Int} (h : k < coZ a b c d y) : ctZ a b c d y k = 0 := by
  unfold ctZ
  rw [if_neg (fun q => by omega)]
theorem ctZ_in {a b c d y k : Int} (h1 : ¬ stZ b d y = 0) (h : coZ a b c d y ≤ k) : ctZ a b c d y k = stZ b d y := by
  unfold ctZ
  rw [if_pos ⟨h1, h⟩]
theorem ctZ_cases (a b c d y k : Int) : (stZ b d y = 0 ∧ ctZ a b c d y k = 0) ∨ (k < coZ a b c d y ∧ ctZ a b c d y k = 0) ∨ (¬ stZ b d y = 0 ∧ coZ a b c d y ≤ k ∧ ctZ a b c d y k = stZ b d y) := by
  by_cases h1 : stZ b d y = 0
  · exact Or.inl ⟨h1, ctZ_no h1⟩
  · by_cases h2 : coZ a b c d y ≤ k
    · exact Or.inr (Or.inr ⟨h1, h2, ctZ_in h1 h2⟩)
    · exact Or.inr (Or.inl ⟨by omega, ctZ_out (by omega)⟩)
theorem sm_zero {f : Nat → Int} : ∀ {n : Nat}, (∀ j, j < n → f j = 0) → sm f n = 0 := by
  intro n
  induction n with
  | zero => intro _; rfl
  | succ n ih =>
    intro h
    show sm f n + f n = 0
    rw [ih (fun j hj => h j (by omega)), h n (by omega)]
    rfl
theorem sm_congr {f g : Nat → Int} : ∀ {n : Nat}, (∀ j, j < n → f j = g j) → sm f n = sm g n := by
  intro n
  induction n with
  | zero => intro _; rfl
  | succ n ih =>
    intro h
    show sm f n + f n = sm g n + g n
    rw [ih (fun j hj => h j (by omega)), h n (by omega)]
theorem sm_uZ (f : Nat → Int) (q : Nat) (d : Int) : ∀ n : Nat, sm (uZ f q (f q + d)) n = sm f n + (if q < n then d else 0) := by
  intro n
  induction n with
  | zero => rw [if_neg (by omega)]; rfl
  | succ n ih =>
    show sm (uZ f q (f q + d)) n + uZ f q (f q + d) n = sm f n + f n + (if q < n + 1 then d else 0)
    rw [ih]
    unfold uZ
    by_cases h : n = q
    · rw [if_pos h, if_neg (by omega), if_pos (by omega), h]; omega
    · rw [if_neg h]
      by_cases h2 : q < n
      · rw [if_pos h2, if_pos (by omega)]; omega
      · rw [if_neg h2, if_neg (by omega)]; omega
/-! PAINTING AND CUTTING, step by step -/
def insB (rl w : Int) : Bool := if rl = 0 then decide (¬ w = 0) else decide (¬ w % 2 = 0)
theorem insB_iff (rl w : Int) : insB rl w = true ↔ ((rl = 0 ∧ ¬ w = 0) ∨ (¬ rl = 0 ∧ ¬ w % 2 = 0)) := by
  unfold insB
  by_cases h : rl = 0
  · rw [if_pos h, decide_eq_true_iff]; omega
  · rw [if_neg h, decide_eq_true_iff]; omega
theorem insB_0 (rl : Int) : insB rl 0 = false := by
  apply Bool.eq_false_iff.mpr
  intro h
  rw [insB_iff] at h
  omega
def paL (cs : Nat) (gv : Int) : List Run3 → (Nat → Int) → Nat → Int
  | [], G => G
  | x :: T, G => paL cs gv T (fun p => if x.1 * cs + x.2.1 ≤ p ∧ p < x.1 * cs + x.2.2 then gv else G p)
theorem paL_congr (cs : Nat) (gv : Int) : ∀ (T : List Run3) (G H : Nat → Int), (∀ p, G p = H p) → ∀ p, paL cs gv T G p = paL cs gv T H p := by
  intro T
  induction T with
  | nil => intro G H h p; exact h p
  | cons x T ih =>
    intro G H h p
    refine ih _ _ (fun q => ?_) p
    rw [h q]
theorem idx_le {cs r rs : Nat} (h : r < rs) : r * cs + cs ≤ cs * rs := by
  have h1 : cs * (r + 1) ≤ cs * rs := Nat.mul_le_mul_left cs h
  rw [Nat.mul_add, Nat.mul_one, Nat.mul_comm cs r] at h1
  exact h1
theorem cutG_e0 (f : Nat → Bool) (r k : Nat) : cutG f r 0 k none = [] := rfl
theorem cutG_e1 (f : Nat → Bool) (r k a : Nat) : cutG f r 0 k (some a) = [(r, a, k)] := rfl
theorem cutG_nt {f : Nat → Bool} {r k e : Nat} (h : k < e) (hf : f k = true) : cutG f r (e - k) k none = cutG f r (e - (k + 1)) (k + 1) (some k) := by
  rw [show e - k = (e - (k + 1)) + 1 by omega]
  simp only [cutG, hf, if_true]
theorem cutG_nf {f : Nat → Bool} {r k e : Nat} (h : k < e) (hf : f k = false) : cutG f r (e - k) k none = cutG f r (e - (k + 1)) (k + 1) none := by
  rw [show e - k = (e - (k + 1)) + 1 by omega]
  simp only [cutG, hf]
  rfl
theorem cutG_st {f : Nat → Bool} {r k e a : Nat} (h : k < e) (hf : f k = true) : cutG f r (e - k) k (some a) = cutG f r (e - (k + 1)) (k + 1) (some a) := by
  rw [show e - k = (e - (k + 1)) + 1 by omega]
  simp only [cutG, hf, if_true]
theorem cutG_sf {f : Nat → Bool} {r k e a : Nat} (h : k < e) (hf : f k = false) : cutG f r (e - k) k (some a) = (r, a, k) :: cutG f r (e - (k + 1)) (k + 1) none := by
  rw [show e - k = (e - (k + 1)) + 1 by omega]
  simp only [cutG, hf]
  rfl
theorem cutG_nil {f : Nat → Bool} (r : Nat) : ∀ (n c : Nat), (∀ k, c ≤ k → k < c + n → f k = false) → cutG f r n c none = [] := by
  intro n
  induction n with
  | zero => intro c _; rfl
  | succ n ih =>
    intro c h
    simp only [cutG, h c (Nat.le_refl _) (by omega)]
    exact ih (c + 1) (fun k h1 h2 => h k (by omega) (by omega))
theorem segL_app (f : Nat → Int) : ∀ (S T : List Run3) (i : Nat), segL f i (S ++ T) ↔ segL f i S ∧ segL f (i + S.length) T := by
  intro S
  induction S with
  | nil => intro T i; exact ⟨fun h => ⟨trivial, h⟩, fun h => h.2⟩
  | cons x S ih =>
    intro T i
    rw [List.cons_append, List.length_cons]
    show f i = _ ∧ segL f (i + 1) (S ++ T) ↔ (f i = _ ∧ segL f (i + 1) S) ∧ segL f (i + (S.length + 1)) T
    rw [ih T (i + 1), show i + 1 + S.length = i + (S.length + 1) by omega]
    exact ⟨fun h => ⟨⟨h.1, h.2.1⟩, h.2.2⟩, fun h => ⟨h.1.1, h.1.2, h.2⟩⟩
theorem segL_congr {f g : Nat → Int} : ∀ (T : List Run3) (i : Nat), (∀ k, i ≤ k → k < i + T.length → g k = f k) → segL f i T → segL g i T := by
  intro T
  induction T with
  | nil => intro i _ _; trivial
  | cons x T ih =>
    intro i h hs
    rw [List.length_cons] at h
    exact ⟨(h i (Nat.le_refl _) (by omega)).trans hs.1, ih (i + 1) (fun k h1 h2 => h k (by omega) (by omega)) hs.2⟩
theorem segL_move {f g : Nat → Int} : ∀ (T : List Run3) (i j : Nat), (∀ k, k < T.length → g (j + k) = f (i + k)) → segL f i T → segL g j T := by
  intro T
  induction T with
  | nil => intro i j _ _; trivial
  | cons x T ih =>
    intro i j h hs
    rw [List.length_cons] at h
    refine ⟨(h 0 (by omega)).trans hs.1, ih (i + 1) (j + 1) (fun k hk => ?_) hs.2⟩
    have := h (k + 1) (by omega)
    rw [show j + 1 + k = j + (k + 1) by omega, show i + 1 + k = i + (k + 1) by omega]
    exact this
theorem segL_snoc {f : Nat → Int} {P : List Run3} {n : Nat} (x : Run3) (h : segL f 0 P) (hn : P.length = n) : segL (uZ f n ((enc x : Nat) : Int)) 0 (P ++ [x]) := by
  rw [segL_app]
  refine ⟨segL_congr P 0 (fun k _ hk => ?_) h, ?_, trivial⟩
  · unfold uZ
    rw [if_neg (by omega)]
  · unfold uZ
    rw [if_pos (by omega)]
theorem len_lt {P T X : List Run3} {x : Run3} (h : P ++ x :: T = X) : P.length + 1 ≤ X.length := by
  rw [← h, List.length_append, List.length_cons]
  omega
/-- whether a pixel's centre is inside the outline, under a rule -/
def gW (fX fY fN : Nat → Int) (np : Nat) (rl : Int) (r k : Nat) : Bool := insB rl (wiZ fX fY fN np ((r * 65536 + 32768 : Nat) : Int) (k : Int))
theorem wiZ_rng (fX fY fN : Nat → Int) (y k : Int) : ∀ n : Nat, -(n : Int) ≤ wiZ fX fY fN n y k ∧ wiZ fX fY fN n y k ≤ (n : Int) := by
  intro n
  induction n with
  | zero => exact ⟨by show (-((0 : Nat) : Int)) ≤ 0; omega, by show (0 : Int) ≤ ((0 : Nat) : Int); omega⟩
  | succ n ih =>
    have h := wiZ_succ fX fY fN n y k
    have h2 := ctZ_cases (fX n) (fY n) (fX (fN n).toNat) (fY (fN n).toNat) y k
    have h3 := stZ_cases (fY n) (fY (fN n).toNat) y
    omega
/-- how a cut stands at column k: fr is -1, or where a run has begun -/
def cutI (g : Nat → Bool) (r e k : Nat) (fr : Int) (Pc X : List Run3) : Prop := (fr = -1 ∧ Pc ++ cutG g r (e - k) k none = X) ∨ (∃ a : Nat, fr = (a : Int) ∧ a < k ∧ Pc ++ cutG g r (e - k) k (some a) = X)
/-- what the row of windings holds: nothing yet, or the row ro's numbers; cr = 0 when no edge meets the row -/
def rowI (cs : Nat) (fX fY fN : Nat → Int) (np : Nat) (fV : Nat → Int) (cr ro : Int) : Prop := ro = -1 ∨ (∃ r0 : Nat, ro = (r0 : Int) ∧ r0 < 256 ∧ (∀ k, k < cs → fV k = wiZ fX fY fN np ((r0 * 65536 + 32768 : Nat) : Int) (k : Int)) ∧ (cr = 0 → ∀ k : Int, wiZ fX fY fN np ((r0 * 65536 + 32768 : Nat) : Int) k = 0))
/-! THE RUNS OF A SET OF PIXELS: canP F cs n r lays the runs of n rows from r on -/
def canP (F : Nat → Nat → Bool) (cs : Nat) : Nat → Nat → List Run3
  | 0, _ => []
  | n + 1, r => cutG (F r) r cs 0 none ++ canP F cs n (r + 1)
theorem cutG_all (r : Nat) : ∀ (n c : Nat), (∀ a, cutG (fun _ => true) r n c (some a) = [(r, a, c + n)]) ∧ (0 < n → cutG (fun _ => true) r n c none = [(r, c, c + n)]) := by
  intro n
  induction n with
  | zero => intro c; exact ⟨fun a => rfl, fun h => absurd h (Nat.lt_irrefl 0)⟩
  | succ n ih =>
    intro c
    refine ⟨fun a => ?_, fun _ => ?_⟩
    · simp only [cutG, if_true]
      rw [(ih (c + 1)).1 a, show c + 1 + n = c + (n + 1) by omega]
    · simp only [cutG, if_true]
      rw [(ih (c + 1)).1 c, show c + 1 + n = c + (n + 1) by omega]
theorem canP_all {f : Nat → Int} {cs : Nat} (hc : 0 < cs) : ∀ (n r : Nat), (∀ k : Nat, r ≤ k → k < r + n → f k = ((enc (k, 0, cs) : Nat) : Int)) → segL f r (canP (fun _ _ => true) cs n r) ∧ (canP (fun _ _ => true) cs n r).length = n := by
  intro n
  induction n with
  | zero => intro r _; exact ⟨trivial, rfl⟩
  | succ n ih =>
    intro r h
    obtain ⟨h1, h2⟩ := ih (r + 1) (fun k hk1 hk2 => h k (by omega) (by omega))
    have e := (cutG_all r cs 0).2 hc
    rw [Nat.zero_add] at e
    simp only [canP, e]
    refine ⟨⟨h r (Nat.le_refl _) (by omega), h1⟩, ?_⟩
    rw [List.cons_append, List.nil_append, List.length_cons, h2]
theorem cutA_canP (F g : Nat → Nat → Bool) (cs : Nat) : ∀ (n r : Nat), cutA g (canP F cs n r) = canP (fun r k => F r k && g r k) cs n r := by
  intro n
  induction n with
  | zero => intro r; rfl
  | succ n ih =>
    intro r
    simp only [canP]
    rw [cutA_app, ih, (cutA_cutG (F r) g r cs 0).1]
theorem canP_congr {F G : Nat → Nat → Bool} (cs : Nat) : ∀ (n r : Nat), (∀ r' k, r ≤ r' → r' < r + n → k < cs → F r' k = G r' k) → canP F cs n r = canP G cs n r := by
  intro n
  induction n with
  | zero => intro r _; rfl
  | succ n ih =>
    intro r h
    simp only [canP]
    rw [ih (r + 1) (fun r' k h1 h2 h3 => h r' k (by omega) (by omega) h3), cutG_congr r cs 0 none (fun k h1 h2 => h r k (Nat.le_refl _) (by omega) (by omega))]
theorem canP_mem (F : Nat → Nat → Bool) (cs : Nat) : ∀ (n r r' k : Nat), memL (canP F cs n r) r' k ↔ r ≤ r' ∧ r' < r + n ∧ k < cs ∧ F r' k = true := by
  intro n
  induction n with
  | zero => intro r r' k; exact ⟨fun h => absurd h (memL_nil _ _), fun h => by omega⟩
  | succ n ih =>
    intro r r' k
    simp only [canP]
    rw [memL_app, ih, (memL_cutG (F r) r cs 0).1]
    constructor
    · rintro (⟨h1, h2, h3, h4⟩ | ⟨h1, h2, h3, h4⟩)
      · subst h1; exact ⟨Nat.le_refl _, by omega, by omega, h4⟩
      · exact ⟨by omega, by omega, h3, h4⟩
    · rintro ⟨h1, h2, h3, h4⟩
      by_cases h : r' = r
      · subst h; exact Or.inl ⟨rfl, by omega, by omega, h4⟩
      · exact Or.inr ⟨by omega, by omega, h3, h4⟩
theorem canP_ok (F : Nat → Nat → Bool) (cs rs : Nat) : ∀ (n r : Nat), r + n ≤ rs → ∀ x ∈ canP F cs n r, runOk cs rs x := by
  intro n
  induction n with
  | zero => intro r _ x hx; simp [canP] at hx
  | succ n ih =>
    intro r h x hx
    simp only [canP] at hx
    rcases List.mem_append.mp hx with q | q
    · exact cutG_ok (F r) r cs rs (by omega) cs 0 none (by omega) (fun a w => by cases w) x q
    · exact ih (r + 1) (by omega) x q
theorem canP_len (F : Nat → Nat → Bool) (cs : Nat) : ∀ (n r : Nat), (canP F cs n r).length ≤ (cs + 1) / 2 * n := by
  intro n
  induction n with
  | zero => intro r; exact Nat.zero_le _
  | succ n ih =>
    intro r
    simp only [canP]
    rw [List.length_append, Nat.mul_add, Nat.mul_one]
    have h1 := ih (r + 1)
    have h2 := (cutG_len (F r) r cs 0).1
    omega
theorem canP_lenS (F : Nat → Nat → Bool) (cs : Nat) : ∀ (n r : Nat), lenS (canP F cs n r) = (List.range' r n).foldr (fun q a => cnG (F q) cs 0 + a) 0 := by
  intro n
  induction n with
  | zero => intro r; rfl
  | succ n ih =>
    intro r
    simp only [canP, List.range'_succ, List.foldr_cons]
    rw [lenS_app, ih, (lenS_cutG (F r) r cs 0).1]
/-- painting the runs of a list: the pixels of the list get the gray -/
theorem paL_at (cs rs : Nat) (gv : Int) : ∀ (T : List Run3) (G : Nat → Int), (∀ x ∈ T, runOk cs rs x) → ∀ r k, k < cs → (memL T r k → paL cs gv T G (r * cs + k) = gv) ∧ (¬ memL T r k → paL cs gv T G (r * cs + k) = G (r * cs + k)) := by
  intro T
  induction T with
  | nil => intro G _ r k _; exact ⟨fun h => absurd h (memL_nil _ _), fun _ => rfl⟩
  | cons x T ih =>
    intro G hok r k hk
    have hx := hok x List.mem_cons_self
    obtain ⟨i1, i2⟩ := ih (fun p => if x.1 * cs + x.2.1 ≤ p ∧ p < x.1 * cs + x.2.2 then gv else G p) (fun y hy => hok y (List.mem_cons_of_mem _ hy)) r k hk
    obtain ⟨o1, o2, o3⟩ := hx
    have key : (x.1 * cs + x.2.1 ≤ r * cs + k ∧ r * cs + k < x.1 * cs + x.2.2) ↔ (x.1 = r ∧ x.2.1 ≤ k ∧ k < x.2.2) := by
      constructor
      · rintro ⟨h1, h2⟩
        have e : x.1 = r := by
          rcases Nat.lt_trichotomy x.1 r with q | q | q
          · have := Nat.mul_le_mul_right cs (show x.1 + 1 ≤ r from q)
            rw [Nat.add_mul, Nat.one_mul] at this
            omega
          · exact q
          · have := Nat.mul_le_mul_right cs (show r + 1 ≤ x.1 from q)
            rw [Nat.add_mul, Nat.one_mul] at this
            omega
        subst e
        exact ⟨rfl, by omega, by omega⟩
      · rintro ⟨rfl, h1, h2⟩
        exact ⟨by omega, by omega⟩
    rw [memL_cons]
    constructor
    · intro h
      by_cases hT : memL T r k
      · exact i1 hT
      · show paL cs gv T _ (r * cs + k) = gv
        rw [i2 hT, if_pos (key.mpr (h.resolve_right hT))]
    · intro h
      show paL cs gv T _ (r * cs + k) = G (r * cs + k)
      rw [i2 (fun q => h (Or.inr q)), if_neg (fun q => h (Or.inl (key.mp q)))]
